def z_bc (b : Int32) : Int32 := (((((((b - (((b.toUInt32 >>> ((nI 1).toUInt32 &&& Int32.toUInt32 31)).toInt32) &&& (Int32.ofNat 1431655765))) &&& (Int32.ofNat 858993459)) + ((((b - (((b.toUInt32 >>> ((nI 1).toUInt32 &&& Int32.toUInt32 31)).toInt32) &&& (Int32.ofNat 1431655765))).toUInt32 >>> ((nI 2).toUInt32 &&& Int32.toUInt32 31)).toInt32) &&& (Int32.ofNat 858993459))) + (((((b - (((b.toUInt32 >>> ((nI 1).toUInt32 &&& Int32.toUInt32 31)).toInt32) &&& (Int32.ofNat 1431655765))) &&& (Int32.ofNat 858993459)) + ((((b - (((b.toUInt32 >>> ((nI 1).toUInt32 &&& Int32.toUInt32 31)).toInt32) &&& (Int32.ofNat 1431655765))).toUInt32 >>> ((nI 2).toUInt32 &&& Int32.toUInt32 31)).toInt32) &&& (Int32.ofNat 858993459))).toUInt32 >>> ((nI 4).toUInt32 &&& Int32.toUInt32 31)).toInt32)) &&& (Int32.ofNat 252645135)) + (((((((b - (((b.toUInt32 >>> ((nI 1).toUInt32 &&& Int32.toUInt32 31)).toInt32) &&& (Int32.ofNat 1431655765))) &&& (Int32.ofNat 858993459)) + ((((b - (((b.toUInt32 >>> ((nI 1).toUInt32 &&& Int32.toUInt32 31)).toInt32) &&& (Int32.ofNat 1431655765))).toUInt32 >>> ((nI 2).toUInt32 &&& Int32.toUInt32 31)).toInt32) &&& (Int32.ofNat 858993459))) + (((((b - (((b.toUInt32 >>> ((nI 1).toUInt32 &&& Int32.toUInt32 31)).toInt32) &&& (Int32.ofNat 1431655765))) &&& (Int32.ofNat 858993459)) + ((((b - (((b.toUInt32 >>> ((nI 1).toUInt32 &&& Int32.toUInt32 31)).toInt32) &&& (Int32.ofNat 1431655765))).toUInt32 >>> ((nI 2).toUInt32 &&& Int32.toUInt32 31)).toInt32) &&& (Int32.ofNat 858993459))).toUInt32 >>> ((nI 4).toUInt32 &&& Int32.toUInt32 31)).toInt32)) &&& (Int32.ofNat 252645135)).toUInt32 >>> ((nI 8).toUInt32 &&& Int32.toUInt32 31)).toInt32)) + ((((((((b - (((b.toUInt32 >>> ((nI 1).toUInt32 &&& Int32.toUInt32 31)).toInt32) &&& (Int32.ofNat 1431655765))) &&& (Int32.ofNat 858993459)) + ((((b - (((b.toUInt32 >>> ((nI 1).toUInt32 &&& Int32.toUInt32 31)).toInt32) &&& (Int32.ofNat 1431655765))).toUInt32 >>> ((nI 2).toUInt32 &&& Int32.toUInt32 31)).toInt32) &&& (Int32.ofNat 858993459))) + (((((b - (((b.toUInt32 >>> ((nI 1).toUInt32 &&& Int32.toUInt32 31)).toInt32) &&& (Int32.ofNat 1431655765))) &&& (Int32.ofNat 858993459)) + ((((b - (((b.toUInt32 >>> ((nI 1).toUInt32 &&& Int32.toUInt32 31)).toInt32) &&& (Int32.ofNat 1431655765))).toUInt32 >>> ((nI 2).toUInt32 &&& Int32.toUInt32 31)).toInt32) &&& (Int32.ofNat 858993459))).toUInt32 >>> ((nI 4).toUInt32 &&& Int32.toUInt32 31)).toInt32)) &&& (Int32.ofNat 252645135)) + (((((((b - (((b.toUInt32 >>> ((nI 1).toUInt32 &&& Int32.toUInt32 31)).toInt32) &&& (Int32.ofNat 1431655765))) &&& (Int32.ofNat 858993459)) + ((((b - (((b.toUInt32 >>> ((nI 1).toUInt32 &&& Int32.toUInt32 31)).toInt32) &&& (Int32.ofNat 1431655765))).toUInt32 >>> ((nI 2).toUInt32 &&& Int32.toUInt32 31)).toInt32) &&& (Int32.ofNat 858993459))) + (((((b - (((b.toUInt32 >>> ((nI 1).toUInt32 &&& Int32.toUInt32 31)).toInt32) &&& (Int32.ofNat 1431655765))) &&& (Int32.ofNat 858993459)) + ((((b - (((b.toUInt32 >>> ((nI 1).toUInt32 &&& Int32.toUInt32 31)).toInt32) &&& (Int32.ofNat 1431655765))).toUInt32 >>> ((nI 2).toUInt32 &&& Int32.toUInt32 31)).toInt32) &&& (Int32.ofNat 858993459))).toUInt32 >>> ((nI 4).toUInt32 &&& Int32.toUInt32 31)).toInt32)) &&& (Int32.ofNat 252645135)).toUInt32 >>> ((nI 8).toUInt32 &&& Int32.toUInt32 31)).toInt32)).toUInt32 >>> ((nI 16).toUInt32 &&& Int32.toUInt32 31)).toInt32)) &&& (nI 63)
set_option maxRecDepth 20000 in
theorem pi_C_bitCount {xs : Nat → Int32} {L d : Nat} {σ : pi_S} (b : Int32)  : pi_wp xs L d 175 0 [some (.int b)] [] σ (fun v s => v = some (.int (z_bc b)) ∧ σ = s) := by
  refine pi_rt 42 (v := some (.int ((((((((b - (((b.toUInt32 >>> ((nI 1).toUInt32 &&& Int32.toUInt32 31)).toInt32) &&& (Int32.ofNat 1431655765))) &&& (Int32.ofNat 858993459)) + ((((b - (((b.toUInt32 >>> ((nI 1).toUInt32 &&& Int32.toUInt32 31)).toInt32) &&& (Int32.ofNat 1431655765))).toUInt32 >>> ((nI 2).toUInt32 &&& Int32.toUInt32 31)).toInt32) &&& (Int32.ofNat 858993459))) + (((((b - (((b.toUInt32 >>> ((nI 1).toUInt32 &&& Int32.toUInt32 31)).toInt32) &&& (Int32.ofNat 1431655765))) &&& (Int32.ofNat 858993459)) + ((((b - (((b.toUInt32 >>> ((nI 1).toUInt32 &&& Int32.toUInt32 31)).toInt32) &&& (Int32.ofNat 1431655765))).toUInt32 >>> ((nI 2).toUInt32 &&& Int32.toUInt32 31)).toInt32) &&& (Int32.ofNat 858993459))).toUInt32 >>> ((nI 4).toUInt32 &&& Int32.toUInt32 31)).toInt32)) &&& (Int32.ofNat 252645135)) + (((((((b - (((b.toUInt32 >>> ((nI 1).toUInt32 &&& Int32.toUInt32 31)).toInt32) &&& (Int32.ofNat 1431655765))) &&& (Int32.ofNat 858993459)) + ((((b - (((b.toUInt32 >>> ((nI 1).toUInt32 &&& Int32.toUInt32 31)).toInt32) &&& (Int32.ofNat 1431655765))).toUInt32 >>> ((nI 2).toUInt32 &&& Int32.toUInt32 31)).toInt32) &&& (Int32.ofNat 858993459))) + (((((b - (((b.toUInt32 >>> ((nI 1).toUInt32 &&& Int32.toUInt32 31)).toInt32) &&& (Int32.ofNat 1431655765))) &&& (Int32.ofNat 858993459)) + ((((b - (((b.toUInt32 >>> ((nI 1).toUInt32 &&& Int32.toUInt32 31)).toInt32) &&& (Int32.ofNat 1431655765))).toUInt32 >>> ((nI 2).toUInt32 &&& Int32.toUInt32 31)).toInt32) &&& (Int32.ofNat 858993459))).toUInt32 >>> ((nI 4).toUInt32 &&& Int32.toUInt32 31)).toInt32)) &&& (Int32.ofNat 252645135)).toUInt32 >>> ((nI 8).toUInt32 &&& Int32.toUInt32 31)).toInt32)) + ((((((((b - (((b.toUInt32 >>> ((nI 1).toUInt32 &&& Int32.toUInt32 31)).toInt32) &&& (Int32.ofNat 1431655765))) &&& (Int32.ofNat 858993459)) + ((((b - (((b.toUInt32 >>> ((nI 1).toUInt32 &&& Int32.toUInt32 31)).toInt32) &&& (Int32.ofNat 1431655765))).toUInt32 >>> ((nI 2).toUInt32 &&& Int32.toUInt32 31)).toInt32) &&& (Int32.ofNat 858993459))) + (((((b - (((b.toUInt32 >>> ((nI 1).toUInt32 &&& Int32.toUInt32 31)).toInt32) &&& (Int32.ofNat 1431655765))) &&& (Int32.ofNat 858993459)) + ((((b - (((b.toUInt32 >>> ((nI 1).toUInt32 &&& Int32.toUInt32 31)).toInt32) &&& (Int32.ofNat 1431655765))).toUInt32 >>> ((nI 2).toUInt32 &&& Int32.toUInt32 31)).toInt32) &&& (Int32.ofNat 858993459))).toUInt32 >>> ((nI 4).toUInt32 &&& Int32.toUInt32 31)).toInt32)) &&& (Int32.ofNat 252645135)) + (((((((b - (((b.toUInt32 >>> ((nI 1).toUInt32 &&& Int32.toUInt32 31)).toInt32) &&& (Int32.ofNat 1431655765))) &&& (Int32.ofNat 858993459)) + ((((b - (((b.toUInt32 >>> ((nI 1).toUInt32 &&& Int32.toUInt32 31)).toInt32) &&& (Int32.ofNat 1431655765))).toUInt32 >>> ((nI 2).toUInt32 &&& Int32.toUInt32 31)).toInt32) &&& (Int32.ofNat 858993459))) + (((((b - (((b.toUInt32 >>> ((nI 1).toUInt32 &&& Int32.toUInt32 31)).toInt32) &&& (Int32.ofNat 1431655765))) &&& (Int32.ofNat 858993459)) + ((((b - (((b.toUInt32 >>> ((nI 1).toUInt32 &&& Int32.toUInt32 31)).toInt32) &&& (Int32.ofNat 1431655765))).toUInt32 >>> ((nI 2).toUInt32 &&& Int32.toUInt32 31)).toInt32) &&& (Int32.ofNat 858993459))).toUInt32 >>> ((nI 4).toUInt32 &&& Int32.toUInt32 31)).toInt32)) &&& (Int32.ofNat 252645135)).toUInt32 >>> ((nI 8).toUInt32 &&& Int32.toUInt32 31)).toInt32)).toUInt32 >>> ((nI 16).toUInt32 &&& Int32.toUInt32 31)).toInt32)) &&& (nI 63)))) (σ' := σ) (fun f => rfl) ?_
  exact ⟨rfl, rfl⟩
theorem z_bc_pc0 : ∀ a, a < 64 → ∀ b, b < 64 → z_bc (nI (64 * a + b)) = z_ones (nI (64 * a + b)) := by decide +kernel
theorem z_bc_ones {n : Nat} (h : n < 4096) : z_bc (nI n) = z_ones (nI n) := by
  have := z_bc_pc0 (n / 64) (by omega) (n % 64) (by omega)
  rwa [show 64 * (n / 64) + n % 64 = n by omega] at this
set_option maxRecDepth 20000 in
theorem pi_C_reached {xs : Nat → Int32} {L d : Nat} {W : zW} {σ : pi_S} (hc : z_CK W σ) {a C : Nat} (ha : a < 8) (hC : C < 2 ^ 12)  : pi_wp xs L d 57 0 [some (.ref 1), some (.int (nI a)), some (.int (nI C)), none, none, none, none] [] σ (fun v s => v = some (.int (nI (z_CN W C W.ns a))) ∧ σ = s) := by
  have hk := hc.p.wk
  have hnd8 := hk.wd.nd8
  have hns12 := hk.wd.ns12
  have hn60 := hk.nine
  have hnf := hk.nf
  have hnw := hk.nw
  have hnc := hk.nc
  have hn08 := hk.wd.n0
  have hn140 := hk.wd.n1
  refine pi_go 3 (pc' := 3) (l' := [some (.ref 1), some (.int (nI a)), some (.int (nI C)), none, none, none, none]) (st' := [.int ((nI 1) <<< (nI a &&& 31))]) (σ' := σ) (fun f => rfl) ?_
  refine pi_tp (y := nI (2 ^ a)) (z_shl _ (by omega)) ?_
  refine pi_go 3 (pc' := 7) (l' := [some (.ref 1), some (.int (nI a)), some (.int (nI C)), some (.int (nI (2 ^ a))), some (.int (nI 0)), none, none]) (st' := []) (σ' := σ) (fun f => rfl) ?_
  suffices hl1 : ∀ i, i ≤ W.ns → ∀ (j5 j6 : Option Value), pi_wp xs L d 57 7 [some (.ref 1), some (.int (nI a)), some (.int (nI C)), some (.int (nI (z_CN W C i a))), some (.int (nI i)), j5, j6] [] σ (fun v s => v = some (.int (nI (z_CN W C W.ns a))) ∧ σ = s) from hl1 0 (by omega) _ _ 
  refine pi_lp0 ?_ ?_
  · intro j5 j6
    refine pi_go 3 (pc' := 13) (l' := [some (.ref 1), some (.int (nI a)), some (.int (nI C)), some (.int (nI (z_CN W C W.ns a))), some (.int (nI W.ns)), j5, j6]) (st' := [.int (σ 1 9), .int (nI W.ns)]) (σ' := σ) (fun f => rfl) ?_
    refine pi_tp (y := nI W.ns) (hc.t.st) ?_
    refine pi_ct 1 (c := nI W.ns ≤ nI W.ns) (pc' := 79) (l' := [some (.ref 1), some (.int (nI a)), some (.int (nI C)), some (.int (nI (z_CN W C W.ns a))), some (.int (nI W.ns)), j5, j6]) (st' := []) (σ' := σ) (pc2 := 16) (l2 := [some (.ref 1), some (.int (nI a)), some (.int (nI C)), some (.int (nI (z_CN W C W.ns a))), some (.int (nI W.ns)), j5, j6]) (st2 := []) (σ2 := σ) (fun f => rfl) ((show nI W.ns ≤ nI W.ns ↔ _ from nI_leI (by omega) (by omega)).mpr (by omega)) ?_
    refine pi_rt 2 (v := some (.int (nI (z_CN W C W.ns a)))) (σ' := σ) (fun f => rfl) ?_
    exact ⟨rfl, rfl⟩
  · intro i hi1 ih1 j5 j6
    have hsd := (hc.t.sd i (by omega)).2
    have hus := z_us_ne hk hsd
    have hcn := z_CN8 hk (C := C) ha (fun i hi => (hc.t.sd i hi).2) i (by omega)
    refine pi_go 3 (pc' := 13) (l' := [some (.ref 1), some (.int (nI a)), some (.int (nI C)), some (.int (nI (z_CN W C i a))), some (.int (nI i)), j5, j6]) (st' := [.int (σ 1 9), .int (nI i)]) (σ' := σ) (fun f => rfl) ?_
    refine pi_tp (y := nI W.ns) (hc.t.st) ?_
    refine pi_cf 1 (c := nI W.ns ≤ nI i) (pc' := 16) (l' := [some (.ref 1), some (.int (nI a)), some (.int (nI C)), some (.int (nI (z_CN W C i a))), some (.int (nI i)), j5, j6]) (st' := []) (σ' := σ) (pc2 := 79) (l2 := [some (.ref 1), some (.int (nI a)), some (.int (nI C)), some (.int (nI (z_CN W C i a))), some (.int (nI i)), j5, j6]) (st2 := []) (σ2 := σ) (fun f => rfl) (fun zq => absurd ((show nI W.ns ≤ nI i ↔ _ from nI_leI (by omega) (by omega)).mp zq) (by omega)) ?_
    refine pi_ai 4 (u := i) (n := 12) (g := σ 10) (pc' := 23) (l' := [some (.ref 1), some (.int (nI a)), some (.int (nI C)), some (.int (nI (z_CN W C i a))), some (.int (nI i)), j5, j6]) (t := []) (σ' := σ) (fun f => rfl) (by omega) (by omega) ?_
    refine pi_tp (y := nI (z_sd W i)) ((hc.t.sd i (by omega)).1) ?_
    refine pi_if 7 (c := ((nI C) >>> (nI (z_sd W i) &&& 31)) &&& (nI 1) = 0) (pc' := 34) (l' := [some (.ref 1), some (.int (nI a)), some (.int (nI C)), some (.int (nI (z_CN W C i a))), some (.int (nI i)), some (.int (nI (z_sd W i))), j6]) (st' := []) (σ' := σ) (pc2 := 38) (l2 := [some (.ref 1), some (.int (nI a)), some (.int (nI C)), some (.int (nI (z_CN W C i a))), some (.int (nI i)), some (.int (nI (z_sd W i))), j6]) (st2 := []) (σ2 := σ) (fun f => rfl) (fun h1 => ?_) (fun h1 => ?_)
    · refine pi_cf 5 (c := nI 1 = 0) (pc' := 46) (l' := [some (.ref 1), some (.int (nI a)), some (.int (nI C)), some (.int (nI (z_CN W C i a))), some (.int (nI i)), some (.int (nI (z_sd W i))), some (.int (nI 1))]) (st' := []) (σ' := σ) (pc2 := 73) (l2 := [some (.ref 1), some (.int (nI a)), some (.int (nI C)), some (.int (nI (z_CN W C i a))), some (.int (nI i)), some (.int (nI (z_sd W i))), some (.int (nI 1))]) (st2 := []) (σ2 := σ) (fun f => rfl) (by decide) ?_
      refine pi_ai 5 (u := z_sd W i) (n := 12) (g := σ 7) (pc' := 54) (l' := [some (.ref 1), some (.int (nI a)), some (.int (nI C)), some (.int (nI (z_CN W C i a))), some (.int (nI i)), some (.int (nI (z_sd W i))), some (.int (nI 1))]) (t := [.int (nI (z_CN W C i a))]) (σ' := σ) (fun f => rfl) (by omega) (by omega) ?_
      refine pi_tp (y := nI (W.up (z_sd W i))) ((hc.t.ul (z_sd W i) (by omega)).1) ?_
      refine pi_if 5 (c := ((nI (z_CN W C i a)) >>> (nI (W.up (z_sd W i)) &&& 31)) &&& (nI 1) = nI 1) (pc' := 61) (l' := [some (.ref 1), some (.int (nI a)), some (.int (nI C)), some (.int (nI (z_CN W C i a))), some (.int (nI i)), some (.int (nI (z_sd W i))), some (.int (nI 1))]) (st' := []) (σ' := σ) (pc2 := 73) (l2 := [some (.ref 1), some (.int (nI a)), some (.int (nI C)), some (.int (nI (z_CN W C i a))), some (.int (nI i)), some (.int (nI (z_sd W i))), some (.int (nI 1))]) (st2 := []) (σ2 := σ) (fun f => rfl) (fun h2 => ?_) (fun h2 => ?_)
      · refine pi_ai 6 (u := z_sd W i) (n := 12) (g := σ 8) (pc' := 70) (l' := [some (.ref 1), some (.int (nI a)), some (.int (nI C)), some (.int (nI (z_CN W C i a))), some (.int (nI i)), some (.int (nI (z_sd W i))), some (.int (nI 1))]) (t := [.int (nI 1), .int (nI (z_CN W C i a))]) (σ' := σ) (fun f => rfl) (by omega) (by omega) ?_
        refine pi_tp (y := nI (W.lo (z_sd W i))) ((hc.t.ul (z_sd W i) (by omega)).2) ?_
        refine pi_go 4 (pc' := 76) (l' := [some (.ref 1), some (.int (nI a)), some (.int (nI C)), some (.int ((nI (z_CN W C i a)) ||| ((nI 1) <<< (nI (W.lo (z_sd W i)) &&& 31)))), some (.int (nI i + nI 1)), some (.int (nI (z_sd W i))), some (.int (nI 1))]) (st' := []) (σ' := σ) (fun f => rfl) ?_
        rw [show nI i + nI 1 = nI (i + 1) from nI_add _ 1]
        refine pi_go 1 (pc' := 7) (l' := [some (.ref 1), some (.int (nI a)), some (.int (nI C)), some (.int ((nI (z_CN W C i a)) ||| ((nI 1) <<< (nI (W.lo (z_sd W i)) &&& 31)))), some (.int (nI (i + 1))), some (.int (nI (z_sd W i))), some (.int (nI 1))]) (st' := []) (σ' := σ) (fun f => rfl) ?_
        rw [show some (Value.int ((nI (z_CN W C i a)) ||| ((nI 1) <<< (nI (W.lo (z_sd W i)) &&& 31)))) = some (Value.int (nI (z_CN W C (i + 1) a))) from congrArg (fun z => some (Value.int z)) (by rw [z_CN_s, z_cN, if_neg ((z_bit0 (by omega) (by omega)).mp h1), if_pos ((z_bit1e (by omega) (by omega)).mp h2), z_shl _ (by omega), z_or])]
        exact ih1 _ _ 
      · refine pi_go 1 (pc' := 76) (l' := [some (.ref 1), some (.int (nI a)), some (.int (nI C)), some (.int (nI (z_CN W C i a))), some (.int (nI i + nI 1)), some (.int (nI (z_sd W i))), some (.int (nI 1))]) (st' := []) (σ' := σ) (fun f => rfl) ?_
        rw [show nI i + nI 1 = nI (i + 1) from nI_add _ 1]
        refine pi_go 1 (pc' := 7) (l' := [some (.ref 1), some (.int (nI a)), some (.int (nI C)), some (.int (nI (z_CN W C i a))), some (.int (nI (i + 1))), some (.int (nI (z_sd W i))), some (.int (nI 1))]) (st' := []) (σ' := σ) (fun f => rfl) ?_
        rw [show some (Value.int (nI (z_CN W C i a))) = some (Value.int (nI (z_CN W C (i + 1) a))) from congrArg (fun z => some (Value.int (nI z))) (by rw [z_CN_s, z_cN, if_neg ((z_bit0 (by omega) (by omega)).mp h1), if_neg (fun q => h2 ((z_bit1e (by omega) (by omega)).mpr q))])]
        exact ih1 _ _ 
    · refine pi_ct 4 (c := nI 0 = 0) (pc' := 73) (l' := [some (.ref 1), some (.int (nI a)), some (.int (nI C)), some (.int (nI (z_CN W C i a))), some (.int (nI i)), some (.int (nI (z_sd W i))), some (.int (nI 0))]) (st' := []) (σ' := σ) (pc2 := 46) (l2 := [some (.ref 1), some (.int (nI a)), some (.int (nI C)), some (.int (nI (z_CN W C i a))), some (.int (nI i)), some (.int (nI (z_sd W i))), some (.int (nI 0))]) (st2 := []) (σ2 := σ) (fun f => rfl) (by decide) ?_
      refine pi_go 1 (pc' := 76) (l' := [some (.ref 1), some (.int (nI a)), some (.int (nI C)), some (.int (nI (z_CN W C i a))), some (.int (nI i + nI 1)), some (.int (nI (z_sd W i))), some (.int (nI 0))]) (st' := []) (σ' := σ) (fun f => rfl) ?_
      rw [show nI i + nI 1 = nI (i + 1) from nI_add _ 1]
      refine pi_go 1 (pc' := 7) (l' := [some (.ref 1), some (.int (nI a)), some (.int (nI C)), some (.int (nI (z_CN W C i a))), some (.int (nI (i + 1))), some (.int (nI (z_sd W i))), some (.int (nI 0))]) (st' := []) (σ' := σ) (fun f => rfl) ?_
      rw [show some (Value.int (nI (z_CN W C i a))) = some (Value.int (nI (z_CN W C (i + 1) a))) from congrArg (fun z => some (Value.int (nI z))) (by rw [z_CN_s, z_cN, if_pos (Classical.byContradiction fun q => h1 ((z_bit0 (by omega) (by omega)).mpr q))])]
      exact ih1 _ _ 
theorem z_doorsTo {W : zW} (hk : z_wk W) {a : Nat} (ha : a < 8) : (nI (z_CN W 0 W.ns a)) &&& ((nI 1 <<< (nI a &&& 31)) ^^^ (-1)) = z_rc W.up W.lo W.ns a (nI 0) := by
  rw [z_CN_eq hk, z_shl a (by omega), z_rc_N hk (by omega)]
  exact z_to a ha _ (z_RN_256 hk a 0 8) (z_RN_self hk a 0 8)
theorem z_CN_ne {W : zW} (hk : z_wk W) {a b C : Nat} (hb : b < 8) (hC : C < 2 ^ 31) (h : ¬ a = b) : (z_CN W C W.ns a).testBit b = true ↔ z_bt (z_rc W.up W.lo W.ns a (nI C)) (nI b) = true := by
  rw [z_rc_N hk hC, z_bt_n (by have := z_RN_256 hk a C 8; omega) (by omega), z_CN_bit hk]
  exact ⟨fun q => q.elim (fun w => absurd w.symm h) id, Or.inr⟩
theorem z_bt_self {W : zW} (hk : z_wk W) {a C : Nat} (ha : a < 8) (hC : C < 2 ^ 31) : ¬ z_bt (z_rc W.up W.lo W.ns a (nI C)) (nI a) = true := by
  rw [z_rc_N hk hC, z_bt_n (by have := z_RN_256 hk a C 8; omega) (by omega), z_RN_self hk]
  exact Bool.false_ne_true
set_option maxRecDepth 20000 in
theorem pi_C_doorsTo {xs : Nat → Int32} {L d : Nat} {W : zW} {σ : pi_S} (hc : z_CK W σ) {a : Nat} (ha : a < 8)  : pi_wp xs L (d + 1) 58 0 [some (.ref 1), some (.int (nI a))] [] σ (fun v s => v = some (.int (z_rc W.up W.lo W.ns a (nI 0))) ∧ σ = s) := by
  have hk := hc.p.wk
  have hnd8 := hk.wd.nd8
  have hns12 := hk.wd.ns12
  have hn60 := hk.nine
  have hnf := hk.nf
  have hnw := hk.nw
  have hnc := hk.nc
  have hn08 := hk.wd.n0
  have hn140 := hk.wd.n1
  refine pi_ca 4 (m' := 57) (l' := [some (.ref 1), some (.int (nI a)), some (.int (nI 0)), none, none, none, none]) (σ' := σ) (pc2 := 6) (l2 := [some (.ref 1), some (.int (nI a))]) (t := []) (fun f => rfl) (pi_C_reached hc (a := a) (C := 0) (by omega) (by omega)) ?_
  rintro _ _ ⟨rfl, rfl⟩
  have hcw := z_CN8 hk (C := 0) (a := a) (by omega) (fun i hi => (hc.t.sd i hi).2) W.ns (Nat.le_refl _)
  refine pi_rt 7 (v := some (.int ((nI (z_CN W 0 W.ns a)) &&& (((nI 1) <<< (nI a &&& 31)) ^^^ (-1))))) (σ' := σ) (fun f => rfl) ?_
  exact ⟨congrArg (fun z => some (Value.int z)) (z_doorsTo hk ha), rfl⟩
set_option maxRecDepth 20000 in
theorem pi_C_doorsFrom {xs : Nat → Int32} {L d : Nat} {W : zW} {σ : pi_S} (hc : z_CK W σ) {b : Nat} (hb : b < 8)  : pi_wp xs L (d + 1) 59 0 [some (.ref 1), some (.int (nI b)), none, none] [] σ (fun v s => v = some (.int (z_net W.up W.lo W.ns b W.nd)) ∧ σ = s) := by
  have hk := hc.p.wk
  have hnd8 := hk.wd.nd8
  have hns12 := hk.wd.ns12
  have hn60 := hk.nine
  have hnf := hk.nf
  have hnw := hk.nw
  have hnc := hk.nc
  have hn08 := hk.wd.n0
  have hn140 := hk.wd.n1
  refine pi_go 4 (pc' := 4) (l' := [some (.ref 1), some (.int (nI b)), some (.int (nI 0)), some (.int (nI 0))]) (st' := []) (σ' := σ) (fun f => rfl) ?_
  suffices hl1 : ∀ i, i ≤ W.nd → pi_wp xs L (d + 1) 59 4 [some (.ref 1), some (.int (nI b)), some (.int (z_net W.up W.lo W.ns b i)), some (.int (nI i))] [] σ (fun v s => v = some (.int (z_net W.up W.lo W.ns b W.nd)) ∧ σ = s) from hl1 0 (by omega) 
  refine pi_lp0 ?_ ?_
  · refine pi_go 3 (pc' := 9) (l' := [some (.ref 1), some (.int (nI b)), some (.int (z_net W.up W.lo W.ns b W.nd)), some (.int (nI W.nd))]) (st' := [.int (σ 1 8), .int (nI W.nd)]) (σ' := σ) (fun f => rfl) ?_
    refine pi_tp (y := nI W.nd) (hc.t.d) ?_
    refine pi_ct 1 (c := nI W.nd ≤ nI W.nd) (pc' := 43) (l' := [some (.ref 1), some (.int (nI b)), some (.int (z_net W.up W.lo W.ns b W.nd)), some (.int (nI W.nd))]) (st' := []) (σ' := σ) (pc2 := 12) (l2 := [some (.ref 1), some (.int (nI b)), some (.int (z_net W.up W.lo W.ns b W.nd)), some (.int (nI W.nd))]) (st2 := []) (σ2 := σ) (fun f => rfl) ((show nI W.nd ≤ nI W.nd ↔ _ from nI_leI (by omega) (by omega)).mpr (by omega)) ?_
    refine pi_rt 2 (v := some (.int (z_net W.up W.lo W.ns b W.nd))) (σ' := σ) (fun f => rfl) ?_
    exact ⟨rfl, rfl⟩
  · intro i hi1 ih1
    refine pi_go 3 (pc' := 9) (l' := [some (.ref 1), some (.int (nI b)), some (.int (z_net W.up W.lo W.ns b i)), some (.int (nI i))]) (st' := [.int (σ 1 8), .int (nI i)]) (σ' := σ) (fun f => rfl) ?_
    refine pi_tp (y := nI W.nd) (hc.t.d) ?_
    refine pi_cf 1 (c := nI W.nd ≤ nI i) (pc' := 12) (l' := [some (.ref 1), some (.int (nI b)), some (.int (z_net W.up W.lo W.ns b i)), some (.int (nI i))]) (st' := []) (σ' := σ) (pc2 := 43) (l2 := [some (.ref 1), some (.int (nI b)), some (.int (z_net W.up W.lo W.ns b i)), some (.int (nI i))]) (st2 := []) (σ2 := σ) (fun f => rfl) (fun zq => absurd ((show nI W.nd ≤ nI i ↔ _ from nI_leI (by omega) (by omega)).mp zq) (by omega)) ?_
    refine pi_if 3 (c := nI i = nI b) (pc' := 37) (l' := [some (.ref 1), some (.int (nI b)), some (.int (z_net W.up W.lo W.ns b i)), some (.int (nI i))]) (st' := []) (σ' := σ) (pc2 := 17) (l2 := [some (.ref 1), some (.int (nI b)), some (.int (z_net W.up W.lo W.ns b i)), some (.int (nI i))]) (st2 := []) (σ2 := σ) (fun f => rfl) (fun h1 => ?_) (fun h1 => ?_)
    · replace h1 : i = b := (nI_eq (by omega) (by omega)).mp h1
      refine pi_go 1 (pc' := 40) (l' := [some (.ref 1), some (.int (nI b)), some (.int (z_net W.up W.lo W.ns b i)), some (.int (nI i + nI 1))]) (st' := []) (σ' := σ) (fun f => rfl) ?_
      rw [show nI i + nI 1 = nI (i + 1) from nI_add _ 1]
      refine pi_go 1 (pc' := 4) (l' := [some (.ref 1), some (.int (nI b)), some (.int (z_net W.up W.lo W.ns b i)), some (.int (nI (i + 1)))]) (st' := []) (σ' := σ) (fun f => rfl) ?_
      rw [show some (Value.int (z_net W.up W.lo W.ns b i)) = some (Value.int (z_net W.up W.lo W.ns b (i + 1))) from congrArg (fun z => some (Value.int z)) (by rw [z_net_s, if_neg (by rw [h1]; exact z_bt_self hk (by omega) (by omega))]; exact (z_or0 _).symm)]
      exact ih1 
    · replace h1 : ¬ (i = b) := fun zq => h1 ((nI_eq (by omega) (by omega)).mpr zq)
      refine pi_ca 4 (m' := 57) (l' := [some (.ref 1), some (.int (nI i)), some (.int (nI 0)), none, none, none, none]) (σ' := σ) (pc2 := 23) (l2 := [some (.ref 1), some (.int (nI b)), some (.int (z_net W.up W.lo W.ns b i)), some (.int (nI i))]) (t := []) (fun f => rfl) (pi_C_reached hc (a := i) (C := 0) (by omega) (by omega)) ?_
      rintro _ _ ⟨rfl, rfl⟩
      have hcw := z_CN8 hk (C := 0) (a := i) (by omega) (fun i hi => (hc.t.sd i hi).2) W.ns (Nat.le_refl _)
      refine pi_if 6 (c := ((nI (z_CN W 0 W.ns i)) >>> (nI b &&& 31)) &&& (nI 1) = nI 1) (pc' := 31) (l' := [some (.ref 1), some (.int (nI b)), some (.int (z_net W.up W.lo W.ns b i)), some (.int (nI i))]) (st' := []) (σ' := σ) (pc2 := 37) (l2 := [some (.ref 1), some (.int (nI b)), some (.int (z_net W.up W.lo W.ns b i)), some (.int (nI i))]) (st2 := []) (σ2 := σ) (fun f => rfl) (fun h2 => ?_) (fun h2 => ?_)
      · refine pi_go 7 (pc' := 40) (l' := [some (.ref 1), some (.int (nI b)), some (.int ((z_net W.up W.lo W.ns b i) ||| ((nI 1) <<< (nI i &&& 31)))), some (.int (nI i + nI 1))]) (st' := []) (σ' := σ) (fun f => rfl) ?_
        rw [show nI i + nI 1 = nI (i + 1) from nI_add _ 1]
        refine pi_go 1 (pc' := 4) (l' := [some (.ref 1), some (.int (nI b)), some (.int ((z_net W.up W.lo W.ns b i) ||| ((nI 1) <<< (nI i &&& 31)))), some (.int (nI (i + 1)))]) (st' := []) (σ' := σ) (fun f => rfl) ?_
        rw [show some (Value.int ((z_net W.up W.lo W.ns b i) ||| ((nI 1) <<< (nI i &&& 31)))) = some (Value.int (z_net W.up W.lo W.ns b (i + 1))) from congrArg (fun z => some (Value.int z)) (by rw [z_net_s, if_pos ((z_CN_ne hk (by omega) (by omega) h1).mp ((z_bit1e (by omega) (by omega)).mp h2))])]
        exact ih1 
      · refine pi_go 1 (pc' := 40) (l' := [some (.ref 1), some (.int (nI b)), some (.int (z_net W.up W.lo W.ns b i)), some (.int (nI i + nI 1))]) (st' := []) (σ' := σ) (fun f => rfl) ?_
        rw [show nI i + nI 1 = nI (i + 1) from nI_add _ 1]
        refine pi_go 1 (pc' := 4) (l' := [some (.ref 1), some (.int (nI b)), some (.int (z_net W.up W.lo W.ns b i)), some (.int (nI (i + 1)))]) (st' := []) (σ' := σ) (fun f => rfl) ?_
        rw [show some (Value.int (z_net W.up W.lo W.ns b i)) = some (Value.int (z_net W.up W.lo W.ns b (i + 1))) from congrArg (fun z => some (Value.int z)) (by rw [z_net_s, if_neg (fun q => h2 ((z_bit1e (by omega) (by omega)).mpr ((z_CN_ne hk (by omega) (by omega) h1).mpr q)))]; exact (z_or0 _).symm)]
        exact ih1 
theorem z_fq_lt {W : zW} (hk : z_wk W) {x : Int32} {c : Nat} (hc : c < 2 ^ W.ns) : z_ones (nI c) < z_fq W x ↔ (x = -1 ∨ z_ones (nI c) < z_ones x) := by
  have hns := hk.wd.ns12
  have hp2 : 2 ^ W.ns ≤ 2 ^ 12 := Nat.pow_le_pow_right (by decide) hns
  unfold z_fq
  by_cases q : x = -1
  · rw [if_pos q]
    refine ⟨fun _ => Or.inl q, fun _ => ?_⟩
    have hpc := z_pc_le hc 12
    rw [z_ones_pc (by omega)]
    exact (nI_ltI (by omega) (by omega)).mpr (by omega)
  · rw [if_neg q]
    exact ⟨Or.inr, fun w => w.elim (fun z => absurd z q) id⟩
theorem z_bq_n {W : zW} {c : Nat} (h : c < 2 ^ 31) : z_bq W (nI c) = nI c := if_neg (z_nIm c h)
theorem z_fq_n {W : zW} {c : Nat} (h : c < 2 ^ 31) : z_fq W (nI c) = z_ones (nI c) := if_neg (z_nIm c h)
theorem z_rw8 {xs : Nat → Int32} {L d m pc : Nat} {st : List Value} {σ : pi_S} {Q : Option Value → pi_S → Prop} {a a' b b' : Int32} (x0 x1 x2 x3 x6 x7 : Option Value) (ha : a = a') (hb : b = b') (h : pi_wp xs L d m pc [x0, x1, x2, x3, some (.int a'), some (.int b'), x6, x7] st σ Q) : pi_wp xs L d m pc [x0, x1, x2, x3, some (.int a), some (.int b), x6, x7] st σ Q := by
  rw [ha, hb]
  exact h
set_option maxRecDepth 20000 in
theorem pi_C_fewest {xs : Nat → Int32} {L d : Nat} {W : zW} {σ : pi_S} (hc : z_CK W σ) {a b : Nat} (ha : a < 8) (hb : b < 8) (hab : ¬ a = b)  : pi_wp xs L (d + 1) 60 0 [some (.ref 1), some (.int (nI a)), some (.int (nI b)), none, none, none, none, none] [] σ (fun v s => v = some (.int (z_ct W.up W.lo W.ns a (nI b) (2 ^ W.ns))) ∧ σ = s) := by
  have hk := hc.p.wk
  have hnd8 := hk.wd.nd8
  have hns12 := hk.wd.ns12
  have hn60 := hk.nine
  have hnf := hk.nf
  have hnw := hk.nw
  have hnc := hk.nc
  have hn08 := hk.wd.n0
  have hn140 := hk.wd.n1
  have hpw : 2 ^ W.ns ≤ 2 ^ 12 := Nat.pow_le_pow_right (by decide) hns12
  have hpw0 : 0 < 2 ^ W.ns := Nat.two_pow_pos _
  refine pi_go 3 (pc' := 5) (l' := [some (.ref 1), some (.int (nI a)), some (.int (nI b)), none, none, none, none, none]) (st' := [.int (σ 1 9), .int (nI 1)]) (σ' := σ) (fun f => rfl) ?_
  refine pi_tp (y := nI W.ns) (hc.t.st) ?_
  refine pi_go 1 (pc' := 6) (l' := [some (.ref 1), some (.int (nI a)), some (.int (nI b)), none, none, none, none, none]) (st' := [.int (nI 1 <<< (nI W.ns &&& 31))]) (σ' := σ) (fun f => rfl) ?_
  refine pi_tp (y := nI (2 ^ W.ns)) (z_shl _ (by omega)) ?_
  refine pi_go 7 (pc' := 16) (l' := [some (.ref 1), some (.int (nI a)), some (.int (nI b)), some (.int (nI (2 ^ W.ns))), some (.int ((nI (2 ^ W.ns)) - (nI 1))), none, none, none]) (st' := [.int (σ 1 9)]) (σ' := σ) (fun f => rfl) ?_
  refine pi_tp (y := nI W.ns) (hc.t.st) ?_
  refine pi_go 2 (pc' := 18) (l' := [some (.ref 1), some (.int (nI a)), some (.int (nI b)), some (.int (nI (2 ^ W.ns))), some (.int ((nI (2 ^ W.ns)) - (nI 1))), none, none, none]) (st' := [.int (nI W.ns + nI 1)]) (σ' := σ) (fun f => rfl) ?_
  refine pi_tp (y := nI (W.ns + 1)) (nI_add _ _) ?_
  refine pi_go 3 (pc' := 23) (l' := [some (.ref 1), some (.int (nI a)), some (.int (nI b)), some (.int (nI (2 ^ W.ns))), some (.int ((nI (2 ^ W.ns)) - (nI 1))), some (.int (nI (W.ns + 1))), some (.int (nI 0)), none]) (st' := []) (σ' := σ) (fun f => rfl) ?_
  rw [show some (Value.int (nI (2 ^ W.ns) - nI 1)) = some (Value.int (z_bq W (z_ct W.up W.lo W.ns a (nI b) 0))) from congrArg (fun z => some (Value.int z)) (if_pos rfl : z_bq W (-1) = _).symm, show some (Value.int (nI (W.ns + 1))) = some (Value.int (z_fq W (z_ct W.up W.lo W.ns a (nI b) 0))) from congrArg (fun z => some (Value.int z)) (if_pos rfl : z_fq W (-1) = _).symm]
  suffices hl1 : ∀ set, set ≤ 2 ^ W.ns → ∀ (j7 : Option Value), pi_wp xs L (d + 1) 60 23 [some (.ref 1), some (.int (nI a)), some (.int (nI b)), some (.int (nI (2 ^ W.ns))), some (.int (z_bq W (z_ct W.up W.lo W.ns a (nI b) set))), some (.int (z_fq W (z_ct W.up W.lo W.ns a (nI b) set))), some (.int (nI set)), j7] [] σ (fun v s => v = some (.int (z_ct W.up W.lo W.ns a (nI b) (2 ^ W.ns))) ∧ σ = s) from hl1 0 (by omega) _ 
  refine pi_lp0 ?_ ?_
  · intro j7
    refine pi_ct 3 (c := nI (2 ^ W.ns) ≤ nI (2 ^ W.ns)) (pc' := 71) (l' := [some (.ref 1), some (.int (nI a)), some (.int (nI b)), some (.int (nI (2 ^ W.ns))), some (.int (z_bq W (z_ct W.up W.lo W.ns a (nI b) (2 ^ W.ns)))), some (.int (z_fq W (z_ct W.up W.lo W.ns a (nI b) (2 ^ W.ns)))), some (.int (nI (2 ^ W.ns))), j7]) (st' := []) (σ' := σ) (pc2 := 29) (l2 := [some (.ref 1), some (.int (nI a)), some (.int (nI b)), some (.int (nI (2 ^ W.ns))), some (.int (z_bq W (z_ct W.up W.lo W.ns a (nI b) (2 ^ W.ns)))), some (.int (z_fq W (z_ct W.up W.lo W.ns a (nI b) (2 ^ W.ns)))), some (.int (nI (2 ^ W.ns))), j7]) (st2 := []) (σ2 := σ) (fun f => rfl) ((show nI (2 ^ W.ns) ≤ nI (2 ^ W.ns) ↔ _ from nI_leI (by omega) (by omega)).mpr (by omega)) ?_
    refine pi_rt 2 (v := some (.int (z_bq W (z_ct W.up W.lo W.ns a (nI b) (2 ^ W.ns))))) (σ' := σ) (fun f => rfl) ?_
    exact ⟨congrArg (fun z => some (Value.int z)) (if_neg (z_ct_nm hk hb)), rfl⟩
  · intro set hi1 ih1 j7
    refine pi_cf 3 (c := nI (2 ^ W.ns) ≤ nI set) (pc' := 29) (l' := [some (.ref 1), some (.int (nI a)), some (.int (nI b)), some (.int (nI (2 ^ W.ns))), some (.int (z_bq W (z_ct W.up W.lo W.ns a (nI b) set))), some (.int (z_fq W (z_ct W.up W.lo W.ns a (nI b) set))), some (.int (nI set)), j7]) (st' := []) (σ' := σ) (pc2 := 71) (l2 := [some (.ref 1), some (.int (nI a)), some (.int (nI b)), some (.int (nI (2 ^ W.ns))), some (.int (z_bq W (z_ct W.up W.lo W.ns a (nI b) set))), some (.int (z_fq W (z_ct W.up W.lo W.ns a (nI b) set))), some (.int (nI set)), j7]) (st2 := []) (σ2 := σ) (fun f => rfl) (fun zq => absurd ((show nI (2 ^ W.ns) ≤ nI set ↔ _ from nI_leI (by omega) (by omega)).mp zq) (by omega)) ?_
    refine pi_ca 2 (m' := 175) (l' := [some (.int (nI set))]) (σ' := σ) (pc2 := 34) (l2 := [some (.ref 1), some (.int (nI a)), some (.int (nI b)), some (.int (nI (2 ^ W.ns))), some (.int (z_bq W (z_ct W.up W.lo W.ns a (nI b) set))), some (.int (z_fq W (z_ct W.up W.lo W.ns a (nI b) set))), some (.int (nI set)), j7]) (t := []) (fun f => rfl) (pi_C_bitCount (nI set)) ?_
    rintro _ _ ⟨rfl, rfl⟩
    refine pi_tp (y := z_ones (nI set)) (z_bc_ones (by omega)) ?_
    refine pi_if 4 (c := z_fq W (z_ct W.up W.lo W.ns a (nI b) set) ≤ z_ones (nI set)) (pc' := 65) (l' := [some (.ref 1), some (.int (nI a)), some (.int (nI b)), some (.int (nI (2 ^ W.ns))), some (.int (z_bq W (z_ct W.up W.lo W.ns a (nI b) set))), some (.int (z_fq W (z_ct W.up W.lo W.ns a (nI b) set))), some (.int (nI set)), some (.int (z_ones (nI set)))]) (st' := []) (σ' := σ) (pc2 := 43) (l2 := [some (.ref 1), some (.int (nI a)), some (.int (nI b)), some (.int (nI (2 ^ W.ns))), some (.int (z_bq W (z_ct W.up W.lo W.ns a (nI b) set))), some (.int (z_fq W (z_ct W.up W.lo W.ns a (nI b) set))), some (.int (nI set)), some (.int (z_ones (nI set)))]) (st2 := []) (σ2 := σ) (fun f => rfl) (fun h1 => ?_) (fun h1 => ?_)
    · refine pi_go 1 (pc' := 68) (l' := [some (.ref 1), some (.int (nI a)), some (.int (nI b)), some (.int (nI (2 ^ W.ns))), some (.int (z_bq W (z_ct W.up W.lo W.ns a (nI b) set))), some (.int (z_fq W (z_ct W.up W.lo W.ns a (nI b) set))), some (.int (nI set + nI 1)), some (.int (z_ones (nI set)))]) (st' := []) (σ' := σ) (fun f => rfl) ?_
      rw [show nI set + nI 1 = nI (set + 1) from nI_add _ 1]
      refine pi_go 1 (pc' := 23) (l' := [some (.ref 1), some (.int (nI a)), some (.int (nI b)), some (.int (nI (2 ^ W.ns))), some (.int (z_bq W (z_ct W.up W.lo W.ns a (nI b) set))), some (.int (z_fq W (z_ct W.up W.lo W.ns a (nI b) set))), some (.int (nI (set + 1))), some (.int (z_ones (nI set)))]) (st' := []) (σ' := σ) (fun f => rfl) ?_
      have hst := (by rw [z_ct_s, if_neg (fun q => Int32.not_lt.mpr h1 ((z_fq_lt hk hi1).mpr q))] : z_ct W.up W.lo W.ns a (nI b) (set + 1) = z_ct W.up W.lo W.ns a (nI b) set)
      have hst2 : z_bq W (z_ct W.up W.lo W.ns a (nI b) (set + 1)) = z_bq W (z_ct W.up W.lo W.ns a (nI b) set) ∧ z_fq W (z_ct W.up W.lo W.ns a (nI b) (set + 1)) = z_fq W (z_ct W.up W.lo W.ns a (nI b) set) := by rw [hst]; exact ⟨rfl, rfl⟩
      refine z_rw8 _ _ _ _ _ _ hst2.1.symm hst2.2.symm ?_
      exact ih1 _ 
    · refine pi_ca 4 (m' := 57) (l' := [some (.ref 1), some (.int (nI a)), some (.int (nI set)), none, none, none, none]) (σ' := σ) (pc2 := 50) (l2 := [some (.ref 1), some (.int (nI a)), some (.int (nI b)), some (.int (nI (2 ^ W.ns))), some (.int (z_bq W (z_ct W.up W.lo W.ns a (nI b) set))), some (.int (z_fq W (z_ct W.up W.lo W.ns a (nI b) set))), some (.int (nI set)), some (.int (z_ones (nI set)))]) (t := []) (fun f => rfl) (pi_C_reached hc (a := a) (C := set) (by omega) (by omega)) ?_
      rintro _ _ ⟨rfl, rfl⟩
      have hcw := z_CN8 hk (C := set) (a := a) (by omega) (fun i hi => (hc.t.sd i hi).2) W.ns (Nat.le_refl _)
      refine pi_if 5 (c := ((nI (z_CN W set W.ns a)) >>> (nI b &&& 31)) &&& (nI 1) = 0) (pc' := 57) (l' := [some (.ref 1), some (.int (nI a)), some (.int (nI b)), some (.int (nI (2 ^ W.ns))), some (.int (z_bq W (z_ct W.up W.lo W.ns a (nI b) set))), some (.int (z_fq W (z_ct W.up W.lo W.ns a (nI b) set))), some (.int (nI set)), some (.int (z_ones (nI set)))]) (st' := []) (σ' := σ) (pc2 := 65) (l2 := [some (.ref 1), some (.int (nI a)), some (.int (nI b)), some (.int (nI (2 ^ W.ns))), some (.int (z_bq W (z_ct W.up W.lo W.ns a (nI b) set))), some (.int (z_fq W (z_ct W.up W.lo W.ns a (nI b) set))), some (.int (nI set)), some (.int (z_ones (nI set)))]) (st2 := []) (σ2 := σ) (fun f => rfl) (fun h2 => ?_) (fun h2 => ?_)
      · refine pi_go 5 (pc' := 68) (l' := [some (.ref 1), some (.int (nI a)), some (.int (nI b)), some (.int (nI (2 ^ W.ns))), some (.int (nI set)), some (.int (z_ones (nI set))), some (.int (nI set + nI 1)), some (.int (z_ones (nI set)))]) (st' := []) (σ' := σ) (fun f => rfl) ?_
        rw [show nI set + nI 1 = nI (set + 1) from nI_add _ 1]
        refine pi_go 1 (pc' := 23) (l' := [some (.ref 1), some (.int (nI a)), some (.int (nI b)), some (.int (nI (2 ^ W.ns))), some (.int (nI set)), some (.int (z_ones (nI set))), some (.int (nI (set + 1))), some (.int (z_ones (nI set)))]) (st' := []) (σ' := σ) (fun f => rfl) ?_
        have hst := (by rw [z_ct_s, if_pos ((z_fq_lt hk hi1).mp (Int32.not_le.mp h1)), if_neg (fun q => (z_bit0 (by omega) (by omega)).mp h2 ((z_CN_ne hk (by omega) (by omega) hab).mpr q))] : z_ct W.up W.lo W.ns a (nI b) (set + 1) = nI set)
        have hst2 : z_bq W (z_ct W.up W.lo W.ns a (nI b) (set + 1)) = nI set ∧ z_fq W (z_ct W.up W.lo W.ns a (nI b) (set + 1)) = z_ones (nI set) := by rw [hst]; exact ⟨z_bq_n (by omega), z_fq_n (by omega)⟩
        refine z_rw8 _ _ _ _ _ _ hst2.1.symm hst2.2.symm ?_
        exact ih1 _ 
      · refine pi_go 1 (pc' := 68) (l' := [some (.ref 1), some (.int (nI a)), some (.int (nI b)), some (.int (nI (2 ^ W.ns))), some (.int (z_bq W (z_ct W.up W.lo W.ns a (nI b) set))), some (.int (z_fq W (z_ct W.up W.lo W.ns a (nI b) set))), some (.int (nI set + nI 1)), some (.int (z_ones (nI set)))]) (st' := []) (σ' := σ) (fun f => rfl) ?_
        rw [show nI set + nI 1 = nI (set + 1) from nI_add _ 1]
        refine pi_go 1 (pc' := 23) (l' := [some (.ref 1), some (.int (nI a)), some (.int (nI b)), some (.int (nI (2 ^ W.ns))), some (.int (z_bq W (z_ct W.up W.lo W.ns a (nI b) set))), some (.int (z_fq W (z_ct W.up W.lo W.ns a (nI b) set))), some (.int (nI (set + 1))), some (.int (z_ones (nI set)))]) (st' := []) (σ' := σ) (fun f => rfl) ?_
        have hst := (by rw [z_ct_s, if_pos ((z_fq_lt hk hi1).mp (Int32.not_le.mp h1)), if_pos ((z_CN_ne hk (by omega) (by omega) hab).mp (Classical.byContradiction fun q => h2 ((z_bit0 (by omega) (by omega)).mpr q)))] : z_ct W.up W.lo W.ns a (nI b) (set + 1) = z_ct W.up W.lo W.ns a (nI b) set)
        have hst2 : z_bq W (z_ct W.up W.lo W.ns a (nI b) (set + 1)) = z_bq W (z_ct W.up W.lo W.ns a (nI b) set) ∧ z_fq W (z_ct W.up W.lo W.ns a (nI b) (set + 1)) = z_fq W (z_ct W.up W.lo W.ns a (nI b) set) := by rw [hst]; exact ⟨rfl, rfl⟩
        refine z_rw8 _ _ _ _ _ _ hst2.1.symm hst2.2.symm ?_
        exact ih1 _ 
set_option maxRecDepth 20000 in
theorem pi_X_nets_bad {xs : Nat → Int32} {L d : Nat} {W : zW} {σ : pi_S} (hR : z_CR W σ) {a b : Int32} (hb : ¬ (z_B W.nd a ∧ z_B 2 b))  : pi_wp xs L (d + 9) 77 0 [some (.ref 0), some (.int a), some (.int b)] [] σ (fun v s => v = some (.int (-2)) ∧ z_CR W s ∧ pi_fr z_CJ s σ) := by
  have hk := hR.k.p.wk
  have hnd8 := hk.wd.nd8
  have hns12 := hk.wd.ns12
  have hn60 := hk.nine
  have hnf := hk.nf
  have hnw := hk.nw
  have hnc := hk.nc
  have hn08 := hk.wd.n0
  have hn140 := hk.wd.n1
  refine pi_ca 4 (m' := 48) (l' := [some (.ref 1), some (.int a)]) (σ' := σ) (pc2 := 8) (l2 := [some (.ref 0), some (.int a), some (.int b)]) (t := []) (fun f => rfl) (pi_C_hasDoor (hR.k.t.d) (by omega)) ?_
  rintro _ _ (⟨b1, rfl, rfl⟩ | ⟨b1, rfl, rfl⟩)
  · refine pi_cf 1 (c := nI 1 = 0) (pc' := 11) (l' := [some (.ref 0), some (.int a), some (.int b)]) (st' := []) (σ' := σ) (pc2 := 19) (l2 := [some (.ref 0), some (.int a), some (.int b)]) (st2 := []) (σ2 := σ) (fun f => rfl) (by decide) ?_
    refine pi_ca 3 (m' := 94) (l' := [some (.int b), some (.int (nI 2))]) (σ' := σ) (pc2 := 16) (l2 := [some (.ref 0), some (.int a), some (.int b)]) (t := []) (fun f => rfl) (pi_C_belowB (a := b) (n := 2) (by omega)) ?_
    rintro _ _ (⟨b2, rfl, rfl⟩ | ⟨b2, rfl, rfl⟩)
    · refine pi_cf 1 (c := nI 1 = 0) (pc' := 22) (l' := [some (.ref 0), some (.int a), some (.int b)]) (st' := []) (σ' := σ) (pc2 := 19) (l2 := [some (.ref 0), some (.int a), some (.int b)]) (st2 := []) (σ2 := σ) (fun f => rfl) (by decide) ?_
      exact (hb ⟨b1, b2⟩).elim
    · refine pi_ct 1 (c := nI 0 = 0) (pc' := 19) (l' := [some (.ref 0), some (.int a), some (.int b)]) (st' := []) (σ' := σ) (pc2 := 22) (l2 := [some (.ref 0), some (.int a), some (.int b)]) (st2 := []) (σ2 := σ) (fun f => rfl) (by decide) ?_
      refine pi_rt 2 (v := some (.int (-2))) (σ' := σ) (fun f => rfl) ?_
      exact ⟨rfl, hR, pi_fr_rf⟩
  · refine pi_ct 1 (c := nI 0 = 0) (pc' := 19) (l' := [some (.ref 0), some (.int a), some (.int b)]) (st' := []) (σ' := σ) (pc2 := 11) (l2 := [some (.ref 0), some (.int a), some (.int b)]) (st2 := []) (σ2 := σ) (fun f => rfl) (by decide) ?_
    refine pi_rt 2 (v := some (.int (-2))) (σ' := σ) (fun f => rfl) ?_
    exact ⟨rfl, hR, pi_fr_rf⟩
set_option maxRecDepth 20000 in
theorem pi_X_nets0 {xs : Nat → Int32} {L d : Nat} {W : zW} {σ : pi_S} (hR : z_CR W σ) {dr : Nat} (hd : dr < W.nd)  : pi_wp xs L (d + 9) 77 0 [some (.ref 0), some (.int (nI dr)), some (.int (nI 0))] [] σ (fun v s => v = some (.int (z_net W.up W.lo W.ns dr W.nd)) ∧ z_CR W s ∧ pi_fr z_CJ s σ) := by
  have hk := hR.k.p.wk
  have hnd8 := hk.wd.nd8
  have hns12 := hk.wd.ns12
  have hn60 := hk.nine
  have hnf := hk.nf
  have hnw := hk.nw
  have hnc := hk.nc
  have hn08 := hk.wd.n0
  have hn140 := hk.wd.n1
  refine pi_ca 4 (m' := 48) (l' := [some (.ref 1), some (.int (nI dr))]) (σ' := σ) (pc2 := 8) (l2 := [some (.ref 0), some (.int (nI dr)), some (.int (nI 0))]) (t := []) (fun f => rfl) (pi_C_hasDoorT (hR.k.t.d) (by omega) (by omega)) ?_
  rintro _ _ ⟨rfl, rfl⟩
  refine pi_cf 1 (c := nI 1 = 0) (pc' := 11) (l' := [some (.ref 0), some (.int (nI dr)), some (.int (nI 0))]) (st' := []) (σ' := σ) (pc2 := 19) (l2 := [some (.ref 0), some (.int (nI dr)), some (.int (nI 0))]) (st2 := []) (σ2 := σ) (fun f => rfl) (by decide) ?_
  refine pi_ca 3 (m' := 94) (l' := [some (.int (nI 0)), some (.int (nI 2))]) (σ' := σ) (pc2 := 16) (l2 := [some (.ref 0), some (.int (nI dr)), some (.int (nI 0))]) (t := []) (fun f => rfl) (pi_below1 _ _ (z_BL (by omega) (by omega))) ?_
  rintro _ _ ⟨rfl, rfl⟩
  refine pi_cf 1 (c := nI 1 = 0) (pc' := 22) (l' := [some (.ref 0), some (.int (nI dr)), some (.int (nI 0))]) (st' := []) (σ' := σ) (pc2 := 19) (l2 := [some (.ref 0), some (.int (nI dr)), some (.int (nI 0))]) (st2 := []) (σ2 := σ) (fun f => rfl) (by decide) ?_
  refine pi_ct 2 (c := nI 0 = 0) (pc' := 26) (l' := [some (.ref 0), some (.int (nI dr)), some (.int (nI 0))]) (st' := []) (σ' := σ) (pc2 := 37) (l2 := [some (.ref 0), some (.int (nI dr)), some (.int (nI 0))]) (st2 := []) (σ2 := σ) (fun f => rfl) (by decide) ?_
  refine pi_ca 4 (m' := 59) (l' := [some (.ref 1), some (.int (nI dr)), none, none]) (σ' := σ) (pc2 := 34) (l2 := [some (.ref 0), some (.int (nI dr)), some (.int (nI 0))]) (t := []) (fun f => rfl) (pi_C_doorsFrom hR.k (by omega) ) ?_
  rintro _ _ ⟨rfl, rfl⟩
  refine pi_rt 2 (v := some (.int (z_net W.up W.lo W.ns dr W.nd))) (σ' := σ) (fun f => rfl) ?_
  exact ⟨rfl, hR, pi_fr_rf⟩
set_option maxRecDepth 20000 in
theorem pi_X_nets1 {xs : Nat → Int32} {L d : Nat} {W : zW} {σ : pi_S} (hR : z_CR W σ) {dr : Nat} (hd : dr < W.nd)  : pi_wp xs L (d + 9) 77 0 [some (.ref 0), some (.int (nI dr)), some (.int (nI 1))] [] σ (fun v s => v = some (.int (z_rc W.up W.lo W.ns dr (nI 0))) ∧ z_CR W s ∧ pi_fr z_CJ s σ) := by
  have hk := hR.k.p.wk
  have hnd8 := hk.wd.nd8
  have hns12 := hk.wd.ns12
  have hn60 := hk.nine
  have hnf := hk.nf
  have hnw := hk.nw
  have hnc := hk.nc
  have hn08 := hk.wd.n0
  have hn140 := hk.wd.n1
  refine pi_ca 4 (m' := 48) (l' := [some (.ref 1), some (.int (nI dr))]) (σ' := σ) (pc2 := 8) (l2 := [some (.ref 0), some (.int (nI dr)), some (.int (nI 1))]) (t := []) (fun f => rfl) (pi_C_hasDoorT (hR.k.t.d) (by omega) (by omega)) ?_
  rintro _ _ ⟨rfl, rfl⟩
  refine pi_cf 1 (c := nI 1 = 0) (pc' := 11) (l' := [some (.ref 0), some (.int (nI dr)), some (.int (nI 1))]) (st' := []) (σ' := σ) (pc2 := 19) (l2 := [some (.ref 0), some (.int (nI dr)), some (.int (nI 1))]) (st2 := []) (σ2 := σ) (fun f => rfl) (by decide) ?_
  refine pi_ca 3 (m' := 94) (l' := [some (.int (nI 1)), some (.int (nI 2))]) (σ' := σ) (pc2 := 16) (l2 := [some (.ref 0), some (.int (nI dr)), some (.int (nI 1))]) (t := []) (fun f => rfl) (pi_below1 _ _ (z_BL (by omega) (by omega))) ?_
  rintro _ _ ⟨rfl, rfl⟩
  refine pi_cf 1 (c := nI 1 = 0) (pc' := 22) (l' := [some (.ref 0), some (.int (nI dr)), some (.int (nI 1))]) (st' := []) (σ' := σ) (pc2 := 19) (l2 := [some (.ref 0), some (.int (nI dr)), some (.int (nI 1))]) (st2 := []) (σ2 := σ) (fun f => rfl) (by decide) ?_
  refine pi_cf 2 (c := nI 1 = 0) (pc' := 37) (l' := [some (.ref 0), some (.int (nI dr)), some (.int (nI 1))]) (st' := []) (σ' := σ) (pc2 := 26) (l2 := [some (.ref 0), some (.int (nI dr)), some (.int (nI 1))]) (st2 := []) (σ2 := σ) (fun f => rfl) (by decide) ?_
  refine pi_ca 4 (m' := 58) (l' := [some (.ref 1), some (.int (nI dr))]) (σ' := σ) (pc2 := 45) (l2 := [some (.ref 0), some (.int (nI dr)), some (.int (nI 1))]) (t := []) (fun f => rfl) (pi_C_doorsTo hR.k (by omega) ) ?_
  rintro _ _ ⟨rfl, rfl⟩
  refine pi_rt 1 (v := some (.int (z_rc W.up W.lo W.ns dr (nI 0)))) (σ' := σ) (fun f => rfl) ?_
  exact ⟨rfl, hR, pi_fr_rf⟩
set_option maxRecDepth 20000 in
theorem pi_X_cut_bad {xs : Nat → Int32} {L d : Nat} {W : zW} {σ : pi_S} (hR : z_CR W σ) {a b c : Int32} (hb : ¬ (z_B W.nd a ∧ z_B W.nd b ∧ ¬ a = b ∧ z_B 2 c))  : pi_wp xs L (d + 9) 78 0 [some (.ref 0), some (.int a), some (.int b), some (.int c), none] [] σ (fun v s => v = some (.int (-2)) ∧ z_CR W s ∧ pi_fr z_CJ s σ) := by
  have hk := hR.k.p.wk
  have hnd8 := hk.wd.nd8
  have hns12 := hk.wd.ns12
  have hn60 := hk.nine
  have hnf := hk.nf
  have hnw := hk.nw
  have hnc := hk.nc
  have hn08 := hk.wd.n0
  have hn140 := hk.wd.n1
  refine pi_ca 4 (m' := 48) (l' := [some (.ref 1), some (.int a)]) (σ' := σ) (pc2 := 8) (l2 := [some (.ref 0), some (.int a), some (.int b), some (.int c), none]) (t := []) (fun f => rfl) (pi_C_hasDoor (hR.k.t.d) (by omega)) ?_
  rintro _ _ (⟨b1, rfl, rfl⟩ | ⟨b1, rfl, rfl⟩)
  · refine pi_cf 1 (c := nI 1 = 0) (pc' := 11) (l' := [some (.ref 0), some (.int a), some (.int b), some (.int c), none]) (st' := []) (σ' := σ) (pc2 := 35) (l2 := [some (.ref 0), some (.int a), some (.int b), some (.int c), none]) (st2 := []) (σ2 := σ) (fun f => rfl) (by decide) ?_
    refine pi_ca 4 (m' := 48) (l' := [some (.ref 1), some (.int b)]) (σ' := σ) (pc2 := 19) (l2 := [some (.ref 0), some (.int a), some (.int b), some (.int c), none]) (t := []) (fun f => rfl) (pi_C_hasDoor (hR.k.t.d) (by omega)) ?_
    rintro _ _ (⟨b2, rfl, rfl⟩ | ⟨b2, rfl, rfl⟩)
    · refine pi_cf 1 (c := nI 1 = 0) (pc' := 22) (l' := [some (.ref 0), some (.int a), some (.int b), some (.int c), none]) (st' := []) (σ' := σ) (pc2 := 35) (l2 := [some (.ref 0), some (.int a), some (.int b), some (.int c), none]) (st2 := []) (σ2 := σ) (fun f => rfl) (by decide) ?_
      refine pi_if 3 (c := a = b) (pc' := 35) (l' := [some (.ref 0), some (.int a), some (.int b), some (.int c), none]) (st' := []) (σ' := σ) (pc2 := 27) (l2 := [some (.ref 0), some (.int a), some (.int b), some (.int c), none]) (st2 := []) (σ2 := σ) (fun f => rfl) (fun h3 => ?_) (fun h3 => ?_)
      · refine pi_rt 2 (v := some (.int (-2))) (σ' := σ) (fun f => rfl) ?_
        exact ⟨rfl, hR, pi_fr_rf⟩
      · refine pi_ca 3 (m' := 94) (l' := [some (.int c), some (.int (nI 2))]) (σ' := σ) (pc2 := 32) (l2 := [some (.ref 0), some (.int a), some (.int b), some (.int c), none]) (t := []) (fun f => rfl) (pi_C_belowB (a := c) (n := 2) (by omega)) ?_
        rintro _ _ (⟨b4, rfl, rfl⟩ | ⟨b4, rfl, rfl⟩)
        · refine pi_cf 1 (c := nI 1 = 0) (pc' := 38) (l' := [some (.ref 0), some (.int a), some (.int b), some (.int c), none]) (st' := []) (σ' := σ) (pc2 := 35) (l2 := [some (.ref 0), some (.int a), some (.int b), some (.int c), none]) (st2 := []) (σ2 := σ) (fun f => rfl) (by decide) ?_
          exact (hb ⟨b1, b2, h3, b4⟩).elim
        · refine pi_ct 1 (c := nI 0 = 0) (pc' := 35) (l' := [some (.ref 0), some (.int a), some (.int b), some (.int c), none]) (st' := []) (σ' := σ) (pc2 := 38) (l2 := [some (.ref 0), some (.int a), some (.int b), some (.int c), none]) (st2 := []) (σ2 := σ) (fun f => rfl) (by decide) ?_
          refine pi_rt 2 (v := some (.int (-2))) (σ' := σ) (fun f => rfl) ?_
          exact ⟨rfl, hR, pi_fr_rf⟩
    · refine pi_ct 1 (c := nI 0 = 0) (pc' := 35) (l' := [some (.ref 0), some (.int a), some (.int b), some (.int c), none]) (st' := []) (σ' := σ) (pc2 := 22) (l2 := [some (.ref 0), some (.int a), some (.int b), some (.int c), none]) (st2 := []) (σ2 := σ) (fun f => rfl) (by decide) ?_
      refine pi_rt 2 (v := some (.int (-2))) (σ' := σ) (fun f => rfl) ?_
      exact ⟨rfl, hR, pi_fr_rf⟩
  · refine pi_ct 1 (c := nI 0 = 0) (pc' := 35) (l' := [some (.ref 0), some (.int a), some (.int b), some (.int c), none]) (st' := []) (σ' := σ) (pc2 := 11) (l2 := [some (.ref 0), some (.int a), some (.int b), some (.int c), none]) (st2 := []) (σ2 := σ) (fun f => rfl) (by decide) ?_
    refine pi_rt 2 (v := some (.int (-2))) (σ' := σ) (fun f => rfl) ?_
    exact ⟨rfl, hR, pi_fr_rf⟩
theorem z_ct_bc {W : zW} (hk : z_wk W) {a b : Nat} (hb : b < 8) : z_bc (z_ct W.up W.lo W.ns a (nI b) (2 ^ W.ns)) = z_ones (z_ct W.up W.lo W.ns a (nI b) (2 ^ W.ns)) := by
  have hp2 : 2 ^ W.ns ≤ 2 ^ 12 := Nat.pow_le_pow_right (by decide) hk.wd.ns12
  rcases z_ct_is (W := W) (a := a) (b := nI b) (2 ^ W.ns) with q | ⟨s, hs, e⟩
  · exact absurd q (z_ct_nm hk hb)
  · rw [e]
    exact z_bc_ones (by omega)
set_option maxRecDepth 20000 in
theorem pi_X_cut0 {xs : Nat → Int32} {L d : Nat} {W : zW} {σ : pi_S} (hR : z_CR W σ) {ka kb : Nat} (ha : ka < W.nd) (hb : kb < W.nd) (hab : ¬ ka = kb)  : pi_wp xs L (d + 9) 78 0 [some (.ref 0), some (.int (nI ka)), some (.int (nI kb)), some (.int (nI 0)), none] [] σ (fun v s => v = some (.int (z_ones (z_ct W.up W.lo W.ns ka (nI kb) (2 ^ W.ns)))) ∧ z_CR W s ∧ pi_fr z_CJ s σ) := by
  have hk := hR.k.p.wk
  have hnd8 := hk.wd.nd8
  have hns12 := hk.wd.ns12
  have hn60 := hk.nine
  have hnf := hk.nf
  have hnw := hk.nw
  have hnc := hk.nc
  have hn08 := hk.wd.n0
  have hn140 := hk.wd.n1
  refine pi_ca 4 (m' := 48) (l' := [some (.ref 1), some (.int (nI ka))]) (σ' := σ) (pc2 := 8) (l2 := [some (.ref 0), some (.int (nI ka)), some (.int (nI kb)), some (.int (nI 0)), none]) (t := []) (fun f => rfl) (pi_C_hasDoorT (hR.k.t.d) (by omega) (by omega)) ?_
  rintro _ _ ⟨rfl, rfl⟩
  refine pi_cf 1 (c := nI 1 = 0) (pc' := 11) (l' := [some (.ref 0), some (.int (nI ka)), some (.int (nI kb)), some (.int (nI 0)), none]) (st' := []) (σ' := σ) (pc2 := 35) (l2 := [some (.ref 0), some (.int (nI ka)), some (.int (nI kb)), some (.int (nI 0)), none]) (st2 := []) (σ2 := σ) (fun f => rfl) (by decide) ?_
  refine pi_ca 4 (m' := 48) (l' := [some (.ref 1), some (.int (nI kb))]) (σ' := σ) (pc2 := 19) (l2 := [some (.ref 0), some (.int (nI ka)), some (.int (nI kb)), some (.int (nI 0)), none]) (t := []) (fun f => rfl) (pi_C_hasDoorT (hR.k.t.d) (by omega) (by omega)) ?_
  rintro _ _ ⟨rfl, rfl⟩
  refine pi_cf 1 (c := nI 1 = 0) (pc' := 22) (l' := [some (.ref 0), some (.int (nI ka)), some (.int (nI kb)), some (.int (nI 0)), none]) (st' := []) (σ' := σ) (pc2 := 35) (l2 := [some (.ref 0), some (.int (nI ka)), some (.int (nI kb)), some (.int (nI 0)), none]) (st2 := []) (σ2 := σ) (fun f => rfl) (by decide) ?_
  refine pi_cf 3 (c := nI ka = nI kb) (pc' := 27) (l' := [some (.ref 0), some (.int (nI ka)), some (.int (nI kb)), some (.int (nI 0)), none]) (st' := []) (σ' := σ) (pc2 := 35) (l2 := [some (.ref 0), some (.int (nI ka)), some (.int (nI kb)), some (.int (nI 0)), none]) (st2 := []) (σ2 := σ) (fun f => rfl) (fun q => hab ((nI_eq (by omega) (by omega)).mp q)) ?_
  refine pi_ca 3 (m' := 94) (l' := [some (.int (nI 0)), some (.int (nI 2))]) (σ' := σ) (pc2 := 32) (l2 := [some (.ref 0), some (.int (nI ka)), some (.int (nI kb)), some (.int (nI 0)), none]) (t := []) (fun f => rfl) (pi_below1 _ _ (z_BL (by omega) (by omega))) ?_
  rintro _ _ ⟨rfl, rfl⟩
  refine pi_cf 1 (c := nI 1 = 0) (pc' := 38) (l' := [some (.ref 0), some (.int (nI ka)), some (.int (nI kb)), some (.int (nI 0)), none]) (st' := []) (σ' := σ) (pc2 := 35) (l2 := [some (.ref 0), some (.int (nI ka)), some (.int (nI kb)), some (.int (nI 0)), none]) (st2 := []) (σ2 := σ) (fun f => rfl) (by decide) ?_
  refine pi_ca 5 (m' := 60) (l' := [some (.ref 1), some (.int (nI ka)), some (.int (nI kb)), none, none, none, none, none]) (σ' := σ) (pc2 := 47) (l2 := [some (.ref 0), some (.int (nI ka)), some (.int (nI kb)), some (.int (nI 0)), none]) (t := []) (fun f => rfl) (pi_C_fewest hR.k (by omega) (by omega) hab) ?_
  rintro _ _ ⟨rfl, rfl⟩
  refine pi_ct 3 (c := nI 0 = 0) (pc' := 53) (l' := [some (.ref 0), some (.int (nI ka)), some (.int (nI kb)), some (.int (nI 0)), some (.int (z_ct W.up W.lo W.ns ka (nI kb) (2 ^ W.ns)))]) (st' := []) (σ' := σ) (pc2 := 61) (l2 := [some (.ref 0), some (.int (nI ka)), some (.int (nI kb)), some (.int (nI 0)), some (.int (z_ct W.up W.lo W.ns ka (nI kb) (2 ^ W.ns)))]) (st2 := []) (σ2 := σ) (fun f => rfl) (by decide) ?_
  refine pi_ca 2 (m' := 175) (l' := [some (.int (z_ct W.up W.lo W.ns ka (nI kb) (2 ^ W.ns)))]) (σ' := σ) (pc2 := 58) (l2 := [some (.ref 0), some (.int (nI ka)), some (.int (nI kb)), some (.int (nI 0)), some (.int (z_ct W.up W.lo W.ns ka (nI kb) (2 ^ W.ns)))]) (t := []) (fun f => rfl) (pi_C_bitCount (z_ct W.up W.lo W.ns ka (nI kb) (2 ^ W.ns))) ?_
  rintro _ _ ⟨rfl, rfl⟩
  refine pi_tp (y := z_ones (z_ct W.up W.lo W.ns ka (nI kb) (2 ^ W.ns))) (z_ct_bc hk (by omega)) ?_
  refine pi_rt 2 (v := some (.int (z_ones (z_ct W.up W.lo W.ns ka (nI kb) (2 ^ W.ns))))) (σ' := σ) (fun f => rfl) ?_
  exact ⟨rfl, hR, pi_fr_rf⟩
set_option maxRecDepth 20000 in
theorem pi_X_cut1 {xs : Nat → Int32} {L d : Nat} {W : zW} {σ : pi_S} (hR : z_CR W σ) {ka kb : Nat} (ha : ka < W.nd) (hb : kb < W.nd) (hab : ¬ ka = kb)  : pi_wp xs L (d + 9) 78 0 [some (.ref 0), some (.int (nI ka)), some (.int (nI kb)), some (.int (nI 1)), none] [] σ (fun v s => v = some (.int (z_ct W.up W.lo W.ns ka (nI kb) (2 ^ W.ns))) ∧ z_CR W s ∧ pi_fr z_CJ s σ) := by
  have hk := hR.k.p.wk
  have hnd8 := hk.wd.nd8
  have hns12 := hk.wd.ns12
  have hn60 := hk.nine
  have hnf := hk.nf
  have hnw := hk.nw
  have hnc := hk.nc
  have hn08 := hk.wd.n0
  have hn140 := hk.wd.n1
  refine pi_ca 4 (m' := 48) (l' := [some (.ref 1), some (.int (nI ka))]) (σ' := σ) (pc2 := 8) (l2 := [some (.ref 0), some (.int (nI ka)), some (.int (nI kb)), some (.int (nI 1)), none]) (t := []) (fun f => rfl) (pi_C_hasDoorT (hR.k.t.d) (by omega) (by omega)) ?_
  rintro _ _ ⟨rfl, rfl⟩
  refine pi_cf 1 (c := nI 1 = 0) (pc' := 11) (l' := [some (.ref 0), some (.int (nI ka)), some (.int (nI kb)), some (.int (nI 1)), none]) (st' := []) (σ' := σ) (pc2 := 35) (l2 := [some (.ref 0), some (.int (nI ka)), some (.int (nI kb)), some (.int (nI 1)), none]) (st2 := []) (σ2 := σ) (fun f => rfl) (by decide) ?_
  refine pi_ca 4 (m' := 48) (l' := [some (.ref 1), some (.int (nI kb))]) (σ' := σ) (pc2 := 19) (l2 := [some (.ref 0), some (.int (nI ka)), some (.int (nI kb)), some (.int (nI 1)), none]) (t := []) (fun f => rfl) (pi_C_hasDoorT (hR.k.t.d) (by omega) (by omega)) ?_
  rintro _ _ ⟨rfl, rfl⟩
  refine pi_cf 1 (c := nI 1 = 0) (pc' := 22) (l' := [some (.ref 0), some (.int (nI ka)), some (.int (nI kb)), some (.int (nI 1)), none]) (st' := []) (σ' := σ) (pc2 := 35) (l2 := [some (.ref 0), some (.int (nI ka)), some (.int (nI kb)), some (.int (nI 1)), none]) (st2 := []) (σ2 := σ) (fun f => rfl) (by decide) ?_
  refine pi_cf 3 (c := nI ka = nI kb) (pc' := 27) (l' := [some (.ref 0), some (.int (nI ka)), some (.int (nI kb)), some (.int (nI 1)), none]) (st' := []) (σ' := σ) (pc2 := 35) (l2 := [some (.ref 0), some (.int (nI ka)), some (.int (nI kb)), some (.int (nI 1)), none]) (st2 := []) (σ2 := σ) (fun f => rfl) (fun q => hab ((nI_eq (by omega) (by omega)).mp q)) ?_
  refine pi_ca 3 (m' := 94) (l' := [some (.int (nI 1)), some (.int (nI 2))]) (σ' := σ) (pc2 := 32) (l2 := [some (.ref 0), some (.int (nI ka)), some (.int (nI kb)), some (.int (nI 1)), none]) (t := []) (fun f => rfl) (pi_below1 _ _ (z_BL (by omega) (by omega))) ?_
  rintro _ _ ⟨rfl, rfl⟩
  refine pi_cf 1 (c := nI 1 = 0) (pc' := 38) (l' := [some (.ref 0), some (.int (nI ka)), some (.int (nI kb)), some (.int (nI 1)), none]) (st' := []) (σ' := σ) (pc2 := 35) (l2 := [some (.ref 0), some (.int (nI ka)), some (.int (nI kb)), some (.int (nI 1)), none]) (st2 := []) (σ2 := σ) (fun f => rfl) (by decide) ?_
  refine pi_ca 5 (m' := 60) (l' := [some (.ref 1), some (.int (nI ka)), some (.int (nI kb)), none, none, none, none, none]) (σ' := σ) (pc2 := 47) (l2 := [some (.ref 0), some (.int (nI ka)), some (.int (nI kb)), some (.int (nI 1)), none]) (t := []) (fun f => rfl) (pi_C_fewest hR.k (by omega) (by omega) hab) ?_
  rintro _ _ ⟨rfl, rfl⟩
  refine pi_cf 3 (c := nI 1 = 0) (pc' := 61) (l' := [some (.ref 0), some (.int (nI ka)), some (.int (nI kb)), some (.int (nI 1)), some (.int (z_ct W.up W.lo W.ns ka (nI kb) (2 ^ W.ns)))]) (st' := []) (σ' := σ) (pc2 := 53) (l2 := [some (.ref 0), some (.int (nI ka)), some (.int (nI kb)), some (.int (nI 1)), some (.int (z_ct W.up W.lo W.ns ka (nI kb) (2 ^ W.ns)))]) (st2 := []) (σ2 := σ) (fun f => rfl) (by decide) ?_
  refine pi_rt 2 (v := some (.int (z_ct W.up W.lo W.ns ka (nI kb) (2 ^ W.ns)))) (σ' := σ) (fun f => rfl) ?_
  exact ⟨rfl, hR, pi_fr_rf⟩
