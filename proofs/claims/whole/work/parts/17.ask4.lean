set_option maxRecDepth 20000 in
theorem pi_M_cutOf0 {xs : Nat → Int32} {L d : Nat} {W : zW} {σ : pi_S} (ht : z_MT W σ) {a b : Nat} (ha : a < 8) (hb : b < 8)  : pi_wp xs L (d + 6) 146 0 [some (.ref 56), some (.int (nI a)), some (.int (nI b)), some (.int (nI 0)), none, none, none] [] σ (fun v s => v = some (.int (z_ones (z_ct W.up W.lo W.ns a (nI b) (2 ^ W.ns)))) ∧ z_MT W s ∧ pi_fr z_RC s σ) := by
  have hk := ht.mr.wk
  have hnd8 := hk.wd.nd8
  have hns12 := hk.wd.ns12
  have hn60 := hk.nine
  have hnf := hk.nf
  have hnw := hk.nw
  have hnc := hk.nc
  have hn08 := hk.wd.n0
  have hn140 := hk.wd.n1
  have hpw : 2 ^ W.ns ≤ 2 ^ 12 := Nat.pow_le_pow_right (by decide) hns12
  have hpw0 : 0 < 2 ^ W.ns := Nat.two_pow_pos _
  refine pi_go 4 (pc' := 6) (l' := [some (.ref 56), some (.int (nI a)), some (.int (nI b)), some (.int (nI 0)), some (.int (-1)), some (.int (nI 0)), none]) (st' := []) (σ' := σ) (fun f => rfl) ?_
  rw [show some (Value.int (-1)) = some (Value.int (z_ct W.up W.lo W.ns a (nI b) 0)) from rfl]
  suffices hl1 : ∀ set, set ≤ 2 ^ W.ns → ∀ (j6 : Option Value), ∀ (z1 : pi_S), pi_fr z_RC z1 σ → z_MT W z1 → pi_wp xs L (d + 6) 146 6 [some (.ref 56), some (.int (nI a)), some (.int (nI b)), some (.int (nI 0)), some (.int (z_ct W.up W.lo W.ns a (nI b) set)), some (.int (nI set)), j6] [] z1 (fun v s => v = some (.int (z_ones (z_ct W.up W.lo W.ns a (nI b) (2 ^ W.ns)))) ∧ z_MT W s ∧ pi_fr z_RC s σ) from hl1 0 (by omega) _ _ (pi_fr_rf) (ht)
  refine pi_lp0 ?_ ?_
  · intro j6 z1 hrz1 hx1
    refine pi_go 4 (pc' := 13) (l' := [some (.ref 56), some (.int (nI a)), some (.int (nI b)), some (.int (nI 0)), some (.int (z_ct W.up W.lo W.ns a (nI b) (2 ^ W.ns))), some (.int (nI (2 ^ W.ns))), j6]) (st' := [.int (z1 56 4), .int (nI 1), .int (nI (2 ^ W.ns))]) (σ' := z1) (fun f => rfl) ?_
    refine pi_tp (y := nI W.ns) (hx1.d4) ?_
    refine pi_go 1 (pc' := 14) (l' := [some (.ref 56), some (.int (nI a)), some (.int (nI b)), some (.int (nI 0)), some (.int (z_ct W.up W.lo W.ns a (nI b) (2 ^ W.ns))), some (.int (nI (2 ^ W.ns))), j6]) (st' := [.int (nI 1 <<< (nI W.ns &&& 31)), .int (nI (2 ^ W.ns))]) (σ' := z1) (fun f => rfl) ?_
    refine pi_tp (y := nI (2 ^ W.ns)) (z_shl _ (by omega)) ?_
    refine pi_ct 1 (c := nI (2 ^ W.ns) ≤ nI (2 ^ W.ns)) (pc' := 77) (l' := [some (.ref 56), some (.int (nI a)), some (.int (nI b)), some (.int (nI 0)), some (.int (z_ct W.up W.lo W.ns a (nI b) (2 ^ W.ns))), some (.int (nI (2 ^ W.ns))), j6]) (st' := []) (σ' := z1) (pc2 := 17) (l2 := [some (.ref 56), some (.int (nI a)), some (.int (nI b)), some (.int (nI 0)), some (.int (z_ct W.up W.lo W.ns a (nI b) (2 ^ W.ns))), some (.int (nI (2 ^ W.ns))), j6]) (st2 := []) (σ2 := z1) (fun f => rfl) ((show nI (2 ^ W.ns) ≤ nI (2 ^ W.ns) ↔ _ from nI_leI (by omega) (by omega)).mpr (by omega)) ?_
    refine pi_ct 2 (c := nI 0 = 0) (pc' := 81) (l' := [some (.ref 56), some (.int (nI a)), some (.int (nI b)), some (.int (nI 0)), some (.int (z_ct W.up W.lo W.ns a (nI b) (2 ^ W.ns))), some (.int (nI (2 ^ W.ns))), j6]) (st' := []) (σ' := z1) (pc2 := 89) (l2 := [some (.ref 56), some (.int (nI a)), some (.int (nI b)), some (.int (nI 0)), some (.int (z_ct W.up W.lo W.ns a (nI b) (2 ^ W.ns))), some (.int (nI (2 ^ W.ns))), j6]) (st2 := []) (σ2 := z1) (fun f => rfl) (by decide) ?_
    refine pi_ca 2 (m' := 102) (l' := [some (.int (z_ct W.up W.lo W.ns a (nI b) (2 ^ W.ns))), none, none]) (σ' := z1) (pc2 := 86) (l2 := [some (.ref 56), some (.int (nI a)), some (.int (nI b)), some (.int (nI 0)), some (.int (z_ct W.up W.lo W.ns a (nI b) (2 ^ W.ns))), some (.int (nI (2 ^ W.ns))), j6]) (t := []) (fun f => rfl) (pi_M_ones (z_ct W.up W.lo W.ns a (nI b) (2 ^ W.ns))) ?_
    rintro _ _ ⟨rfl, rfl⟩
    refine pi_rt 2 (v := some (.int (z_ones (z_ct W.up W.lo W.ns a (nI b) (2 ^ W.ns))))) (σ' := z1) (fun f => rfl) ?_
    exact ⟨rfl, hx1, pi_fr_t2 hrz1 (pi_fr_rf)⟩
  · intro set hi1 ih1 j6 z1 hrz1 hx1
    refine pi_go 4 (pc' := 13) (l' := [some (.ref 56), some (.int (nI a)), some (.int (nI b)), some (.int (nI 0)), some (.int (z_ct W.up W.lo W.ns a (nI b) set)), some (.int (nI set)), j6]) (st' := [.int (z1 56 4), .int (nI 1), .int (nI set)]) (σ' := z1) (fun f => rfl) ?_
    refine pi_tp (y := nI W.ns) (hx1.d4) ?_
    refine pi_go 1 (pc' := 14) (l' := [some (.ref 56), some (.int (nI a)), some (.int (nI b)), some (.int (nI 0)), some (.int (z_ct W.up W.lo W.ns a (nI b) set)), some (.int (nI set)), j6]) (st' := [.int (nI 1 <<< (nI W.ns &&& 31)), .int (nI set)]) (σ' := z1) (fun f => rfl) ?_
    refine pi_tp (y := nI (2 ^ W.ns)) (z_shl _ (by omega)) ?_
    refine pi_cf 1 (c := nI (2 ^ W.ns) ≤ nI set) (pc' := 17) (l' := [some (.ref 56), some (.int (nI a)), some (.int (nI b)), some (.int (nI 0)), some (.int (z_ct W.up W.lo W.ns a (nI b) set)), some (.int (nI set)), j6]) (st' := []) (σ' := z1) (pc2 := 77) (l2 := [some (.ref 56), some (.int (nI a)), some (.int (nI b)), some (.int (nI 0)), some (.int (z_ct W.up W.lo W.ns a (nI b) set)), some (.int (nI set)), j6]) (st2 := []) (σ2 := z1) (fun f => rfl) (fun zq => absurd ((show nI (2 ^ W.ns) ≤ nI set ↔ _ from nI_leI (by omega) (by omega)).mp zq) (by omega)) ?_
    refine pi_if 3 (c := z_ct W.up W.lo W.ns a (nI b) set = (-1)) (pc' := 36) (l' := [some (.ref 56), some (.int (nI a)), some (.int (nI b)), some (.int (nI 0)), some (.int (z_ct W.up W.lo W.ns a (nI b) set)), some (.int (nI set)), j6]) (st' := []) (σ' := z1) (pc2 := 23) (l2 := [some (.ref 56), some (.int (nI a)), some (.int (nI b)), some (.int (nI 0)), some (.int (z_ct W.up W.lo W.ns a (nI b) set)), some (.int (nI set)), j6]) (st2 := []) (σ2 := z1) (fun f => rfl) (fun h1 => ?_) (fun h1 => ?_)
    · refine pi_cf 5 (c := nI 1 = 0) (pc' := 48) (l' := [some (.ref 56), some (.int (nI a)), some (.int (nI b)), some (.int (nI 0)), some (.int (z_ct W.up W.lo W.ns a (nI b) set)), some (.int (nI set)), some (.int (nI 1))]) (st' := []) (σ' := z1) (pc2 := 67) (l2 := [some (.ref 56), some (.int (nI a)), some (.int (nI b)), some (.int (nI 0)), some (.int (z_ct W.up W.lo W.ns a (nI b) set)), some (.int (nI set)), some (.int (nI 1))]) (st2 := []) (σ2 := z1) (fun f => rfl) (by decide) ?_
      refine pi_ca 4 (m' := 143) (l' := [some (.ref 56), some (.int (nI a)), some (.int (nI set)), none, none, none, none]) (σ' := z1) (pc2 := 55) (l2 := [some (.ref 56), some (.int (nI a)), some (.int (nI b)), some (.int (nI 0)), some (.int (z_ct W.up W.lo W.ns a (nI b) set)), some (.int (nI set)), some (.int (nI 1))]) (t := []) (fun f => rfl) (pi_M_reaches hx1 (by omega) (nI set)) ?_
      rintro _ t2 ⟨rfl, gt2, rt2⟩
      refine pi_ca 2 (m' := 101) (l' := [some (.int (z_rc W.up W.lo W.ns a (nI set))), some (.int (nI b))]) (σ' := t2) (pc2 := 59) (l2 := [some (.ref 56), some (.int (nI a)), some (.int (nI b)), some (.int (nI 0)), some (.int (z_ct W.up W.lo W.ns a (nI b) set)), some (.int (nI set)), some (.int (nI 1))]) (t := []) (fun f => rfl) (pi_M_isIn2 (z_rc W.up W.lo W.ns a (nI set)) (nI b)) ?_
      rintro _ _ (⟨b2, rfl, rfl⟩ | ⟨b2, rfl, rfl⟩)
      · refine pi_cf 1 (c := nI 1 = 0) (pc' := 67) (l' := [some (.ref 56), some (.int (nI a)), some (.int (nI b)), some (.int (nI 0)), some (.int (z_ct W.up W.lo W.ns a (nI b) set)), some (.int (nI set)), some (.int (nI 1))]) (st' := []) (σ' := t2) (pc2 := 62) (l2 := [some (.ref 56), some (.int (nI a)), some (.int (nI b)), some (.int (nI 0)), some (.int (z_ct W.up W.lo W.ns a (nI b) set)), some (.int (nI set)), some (.int (nI 1))]) (st2 := []) (σ2 := t2) (fun f => rfl) (by decide) ?_
        refine pi_go 3 (pc' := 74) (l' := [some (.ref 56), some (.int (nI a)), some (.int (nI b)), some (.int (nI 0)), some (.int (z_ct W.up W.lo W.ns a (nI b) set)), some (.int (nI set + nI 1)), some (.int (nI 1))]) (st' := []) (σ' := t2) (fun f => rfl) ?_
        rw [show nI set + nI 1 = nI (set + 1) from nI_add _ 1]
        refine pi_go 1 (pc' := 6) (l' := [some (.ref 56), some (.int (nI a)), some (.int (nI b)), some (.int (nI 0)), some (.int (z_ct W.up W.lo W.ns a (nI b) set)), some (.int (nI (set + 1))), some (.int (nI 1))]) (st' := []) (σ' := t2) (fun f => rfl) ?_
        rw [show some (Value.int (z_ct W.up W.lo W.ns a (nI b) set)) = some (Value.int (z_ct W.up W.lo W.ns a (nI b) (set + 1))) from congrArg (fun z => some (Value.int z)) (by rw [z_ct_s, if_pos (Or.inl h1), if_pos b2])]
        exact ih1 _ _ (pi_fr_t2 rt2 (pi_fr_t2 hrz1 (pi_fr_rf))) (gt2)
      · refine pi_ct 1 (c := nI 0 = 0) (pc' := 62) (l' := [some (.ref 56), some (.int (nI a)), some (.int (nI b)), some (.int (nI 0)), some (.int (z_ct W.up W.lo W.ns a (nI b) set)), some (.int (nI set)), some (.int (nI 1))]) (st' := []) (σ' := t2) (pc2 := 67) (l2 := [some (.ref 56), some (.int (nI a)), some (.int (nI b)), some (.int (nI 0)), some (.int (z_ct W.up W.lo W.ns a (nI b) set)), some (.int (nI set)), some (.int (nI 1))]) (st2 := []) (σ2 := t2) (fun f => rfl) (by decide) ?_
        refine pi_go 4 (pc' := 74) (l' := [some (.ref 56), some (.int (nI a)), some (.int (nI b)), some (.int (nI 0)), some (.int (nI set)), some (.int (nI set + nI 1)), some (.int (nI 1))]) (st' := []) (σ' := t2) (fun f => rfl) ?_
        rw [show nI set + nI 1 = nI (set + 1) from nI_add _ 1]
        refine pi_go 1 (pc' := 6) (l' := [some (.ref 56), some (.int (nI a)), some (.int (nI b)), some (.int (nI 0)), some (.int (nI set)), some (.int (nI (set + 1))), some (.int (nI 1))]) (st' := []) (σ' := t2) (fun f => rfl) ?_
        rw [show some (Value.int (nI set)) = some (Value.int (z_ct W.up W.lo W.ns a (nI b) (set + 1))) from congrArg (fun z => some (Value.int z)) (by rw [z_ct_s, if_pos (Or.inl h1), if_neg b2])]
        exact ih1 _ _ (pi_fr_t2 rt2 (pi_fr_t2 hrz1 (pi_fr_rf))) (gt2)
    · refine pi_ca 2 (m' := 102) (l' := [some (.int (nI set)), none, none]) (σ' := z1) (pc2 := 28) (l2 := [some (.ref 56), some (.int (nI a)), some (.int (nI b)), some (.int (nI 0)), some (.int (z_ct W.up W.lo W.ns a (nI b) set)), some (.int (nI set)), j6]) (t := []) (fun f => rfl) (pi_M_ones (nI set)) ?_
      rintro _ _ ⟨rfl, rfl⟩
      refine pi_ca 2 (m' := 102) (l' := [some (.int (z_ct W.up W.lo W.ns a (nI b) set)), none, none]) (σ' := z1) (pc2 := 33) (l2 := [some (.ref 56), some (.int (nI a)), some (.int (nI b)), some (.int (nI 0)), some (.int (z_ct W.up W.lo W.ns a (nI b) set)), some (.int (nI set)), j6]) (t := [.int (z_ones (nI set))]) (fun f => rfl) (pi_M_ones (z_ct W.up W.lo W.ns a (nI b) set)) ?_
      rintro _ _ ⟨rfl, rfl⟩
      refine pi_if 1 (c := z_ones (z_ct W.up W.lo W.ns a (nI b) set) ≤ z_ones (nI set)) (pc' := 40) (l' := [some (.ref 56), some (.int (nI a)), some (.int (nI b)), some (.int (nI 0)), some (.int (z_ct W.up W.lo W.ns a (nI b) set)), some (.int (nI set)), j6]) (st' := []) (σ' := z1) (pc2 := 36) (l2 := [some (.ref 56), some (.int (nI a)), some (.int (nI b)), some (.int (nI 0)), some (.int (z_ct W.up W.lo W.ns a (nI b) set)), some (.int (nI set)), j6]) (st2 := []) (σ2 := z1) (fun f => rfl) (fun h3 => ?_) (fun h3 => ?_)
      · refine pi_ct 4 (c := nI 0 = 0) (pc' := 67) (l' := [some (.ref 56), some (.int (nI a)), some (.int (nI b)), some (.int (nI 0)), some (.int (z_ct W.up W.lo W.ns a (nI b) set)), some (.int (nI set)), some (.int (nI 0))]) (st' := []) (σ' := z1) (pc2 := 48) (l2 := [some (.ref 56), some (.int (nI a)), some (.int (nI b)), some (.int (nI 0)), some (.int (z_ct W.up W.lo W.ns a (nI b) set)), some (.int (nI set)), some (.int (nI 0))]) (st2 := []) (σ2 := z1) (fun f => rfl) (by decide) ?_
        refine pi_go 3 (pc' := 74) (l' := [some (.ref 56), some (.int (nI a)), some (.int (nI b)), some (.int (nI 0)), some (.int (z_ct W.up W.lo W.ns a (nI b) set)), some (.int (nI set + nI 1)), some (.int (nI 0))]) (st' := []) (σ' := z1) (fun f => rfl) ?_
        rw [show nI set + nI 1 = nI (set + 1) from nI_add _ 1]
        refine pi_go 1 (pc' := 6) (l' := [some (.ref 56), some (.int (nI a)), some (.int (nI b)), some (.int (nI 0)), some (.int (z_ct W.up W.lo W.ns a (nI b) set)), some (.int (nI (set + 1))), some (.int (nI 0))]) (st' := []) (σ' := z1) (fun f => rfl) ?_
        rw [show some (Value.int (z_ct W.up W.lo W.ns a (nI b) set)) = some (Value.int (z_ct W.up W.lo W.ns a (nI b) (set + 1))) from congrArg (fun z => some (Value.int z)) (by rw [z_ct_s, if_neg (fun q => q.elim h1 (fun q => Int32.not_lt.mpr h3 q))])]
        exact ih1 _ _ (pi_fr_t2 hrz1 (pi_fr_rf)) (hx1)
      · refine pi_cf 5 (c := nI 1 = 0) (pc' := 48) (l' := [some (.ref 56), some (.int (nI a)), some (.int (nI b)), some (.int (nI 0)), some (.int (z_ct W.up W.lo W.ns a (nI b) set)), some (.int (nI set)), some (.int (nI 1))]) (st' := []) (σ' := z1) (pc2 := 67) (l2 := [some (.ref 56), some (.int (nI a)), some (.int (nI b)), some (.int (nI 0)), some (.int (z_ct W.up W.lo W.ns a (nI b) set)), some (.int (nI set)), some (.int (nI 1))]) (st2 := []) (σ2 := z1) (fun f => rfl) (by decide) ?_
        refine pi_ca 4 (m' := 143) (l' := [some (.ref 56), some (.int (nI a)), some (.int (nI set)), none, none, none, none]) (σ' := z1) (pc2 := 55) (l2 := [some (.ref 56), some (.int (nI a)), some (.int (nI b)), some (.int (nI 0)), some (.int (z_ct W.up W.lo W.ns a (nI b) set)), some (.int (nI set)), some (.int (nI 1))]) (t := []) (fun f => rfl) (pi_M_reaches hx1 (by omega) (nI set)) ?_
        rintro _ t3 ⟨rfl, gt3, rt3⟩
        refine pi_ca 2 (m' := 101) (l' := [some (.int (z_rc W.up W.lo W.ns a (nI set))), some (.int (nI b))]) (σ' := t3) (pc2 := 59) (l2 := [some (.ref 56), some (.int (nI a)), some (.int (nI b)), some (.int (nI 0)), some (.int (z_ct W.up W.lo W.ns a (nI b) set)), some (.int (nI set)), some (.int (nI 1))]) (t := []) (fun f => rfl) (pi_M_isIn2 (z_rc W.up W.lo W.ns a (nI set)) (nI b)) ?_
        rintro _ _ (⟨b4, rfl, rfl⟩ | ⟨b4, rfl, rfl⟩)
        · refine pi_cf 1 (c := nI 1 = 0) (pc' := 67) (l' := [some (.ref 56), some (.int (nI a)), some (.int (nI b)), some (.int (nI 0)), some (.int (z_ct W.up W.lo W.ns a (nI b) set)), some (.int (nI set)), some (.int (nI 1))]) (st' := []) (σ' := t3) (pc2 := 62) (l2 := [some (.ref 56), some (.int (nI a)), some (.int (nI b)), some (.int (nI 0)), some (.int (z_ct W.up W.lo W.ns a (nI b) set)), some (.int (nI set)), some (.int (nI 1))]) (st2 := []) (σ2 := t3) (fun f => rfl) (by decide) ?_
          refine pi_go 3 (pc' := 74) (l' := [some (.ref 56), some (.int (nI a)), some (.int (nI b)), some (.int (nI 0)), some (.int (z_ct W.up W.lo W.ns a (nI b) set)), some (.int (nI set + nI 1)), some (.int (nI 1))]) (st' := []) (σ' := t3) (fun f => rfl) ?_
          rw [show nI set + nI 1 = nI (set + 1) from nI_add _ 1]
          refine pi_go 1 (pc' := 6) (l' := [some (.ref 56), some (.int (nI a)), some (.int (nI b)), some (.int (nI 0)), some (.int (z_ct W.up W.lo W.ns a (nI b) set)), some (.int (nI (set + 1))), some (.int (nI 1))]) (st' := []) (σ' := t3) (fun f => rfl) ?_
          rw [show some (Value.int (z_ct W.up W.lo W.ns a (nI b) set)) = some (Value.int (z_ct W.up W.lo W.ns a (nI b) (set + 1))) from congrArg (fun z => some (Value.int z)) (by rw [z_ct_s, if_pos (Or.inr (Int32.not_le.mp h3)), if_pos b4])]
          exact ih1 _ _ (pi_fr_t2 rt3 (pi_fr_t2 hrz1 (pi_fr_rf))) (gt3)
        · refine pi_ct 1 (c := nI 0 = 0) (pc' := 62) (l' := [some (.ref 56), some (.int (nI a)), some (.int (nI b)), some (.int (nI 0)), some (.int (z_ct W.up W.lo W.ns a (nI b) set)), some (.int (nI set)), some (.int (nI 1))]) (st' := []) (σ' := t3) (pc2 := 67) (l2 := [some (.ref 56), some (.int (nI a)), some (.int (nI b)), some (.int (nI 0)), some (.int (z_ct W.up W.lo W.ns a (nI b) set)), some (.int (nI set)), some (.int (nI 1))]) (st2 := []) (σ2 := t3) (fun f => rfl) (by decide) ?_
          refine pi_go 4 (pc' := 74) (l' := [some (.ref 56), some (.int (nI a)), some (.int (nI b)), some (.int (nI 0)), some (.int (nI set)), some (.int (nI set + nI 1)), some (.int (nI 1))]) (st' := []) (σ' := t3) (fun f => rfl) ?_
          rw [show nI set + nI 1 = nI (set + 1) from nI_add _ 1]
          refine pi_go 1 (pc' := 6) (l' := [some (.ref 56), some (.int (nI a)), some (.int (nI b)), some (.int (nI 0)), some (.int (nI set)), some (.int (nI (set + 1))), some (.int (nI 1))]) (st' := []) (σ' := t3) (fun f => rfl) ?_
          rw [show some (Value.int (nI set)) = some (Value.int (z_ct W.up W.lo W.ns a (nI b) (set + 1))) from congrArg (fun z => some (Value.int z)) (by rw [z_ct_s, if_pos (Or.inr (Int32.not_le.mp h3)), if_neg b4])]
          exact ih1 _ _ (pi_fr_t2 rt3 (pi_fr_t2 hrz1 (pi_fr_rf))) (gt3)
set_option maxRecDepth 20000 in
theorem pi_M_cutOf1 {xs : Nat → Int32} {L d : Nat} {W : zW} {σ : pi_S} (ht : z_MT W σ) {a b : Nat} (ha : a < 8) (hb : b < 8)  : pi_wp xs L (d + 6) 146 0 [some (.ref 56), some (.int (nI a)), some (.int (nI b)), some (.int (nI 1)), none, none, none] [] σ (fun v s => v = some (.int (z_ct W.up W.lo W.ns a (nI b) (2 ^ W.ns))) ∧ z_MT W s ∧ pi_fr z_RC s σ) := by
  have hk := ht.mr.wk
  have hnd8 := hk.wd.nd8
  have hns12 := hk.wd.ns12
  have hn60 := hk.nine
  have hnf := hk.nf
  have hnw := hk.nw
  have hnc := hk.nc
  have hn08 := hk.wd.n0
  have hn140 := hk.wd.n1
  have hpw : 2 ^ W.ns ≤ 2 ^ 12 := Nat.pow_le_pow_right (by decide) hns12
  have hpw0 : 0 < 2 ^ W.ns := Nat.two_pow_pos _
  refine pi_go 4 (pc' := 6) (l' := [some (.ref 56), some (.int (nI a)), some (.int (nI b)), some (.int (nI 1)), some (.int (-1)), some (.int (nI 0)), none]) (st' := []) (σ' := σ) (fun f => rfl) ?_
  rw [show some (Value.int (-1)) = some (Value.int (z_ct W.up W.lo W.ns a (nI b) 0)) from rfl]
  suffices hl1 : ∀ set, set ≤ 2 ^ W.ns → ∀ (j6 : Option Value), ∀ (z1 : pi_S), pi_fr z_RC z1 σ → z_MT W z1 → pi_wp xs L (d + 6) 146 6 [some (.ref 56), some (.int (nI a)), some (.int (nI b)), some (.int (nI 1)), some (.int (z_ct W.up W.lo W.ns a (nI b) set)), some (.int (nI set)), j6] [] z1 (fun v s => v = some (.int (z_ct W.up W.lo W.ns a (nI b) (2 ^ W.ns))) ∧ z_MT W s ∧ pi_fr z_RC s σ) from hl1 0 (by omega) _ _ (pi_fr_rf) (ht)
  refine pi_lp0 ?_ ?_
  · intro j6 z1 hrz1 hx1
    refine pi_go 4 (pc' := 13) (l' := [some (.ref 56), some (.int (nI a)), some (.int (nI b)), some (.int (nI 1)), some (.int (z_ct W.up W.lo W.ns a (nI b) (2 ^ W.ns))), some (.int (nI (2 ^ W.ns))), j6]) (st' := [.int (z1 56 4), .int (nI 1), .int (nI (2 ^ W.ns))]) (σ' := z1) (fun f => rfl) ?_
    refine pi_tp (y := nI W.ns) (hx1.d4) ?_
    refine pi_go 1 (pc' := 14) (l' := [some (.ref 56), some (.int (nI a)), some (.int (nI b)), some (.int (nI 1)), some (.int (z_ct W.up W.lo W.ns a (nI b) (2 ^ W.ns))), some (.int (nI (2 ^ W.ns))), j6]) (st' := [.int (nI 1 <<< (nI W.ns &&& 31)), .int (nI (2 ^ W.ns))]) (σ' := z1) (fun f => rfl) ?_
    refine pi_tp (y := nI (2 ^ W.ns)) (z_shl _ (by omega)) ?_
    refine pi_ct 1 (c := nI (2 ^ W.ns) ≤ nI (2 ^ W.ns)) (pc' := 77) (l' := [some (.ref 56), some (.int (nI a)), some (.int (nI b)), some (.int (nI 1)), some (.int (z_ct W.up W.lo W.ns a (nI b) (2 ^ W.ns))), some (.int (nI (2 ^ W.ns))), j6]) (st' := []) (σ' := z1) (pc2 := 17) (l2 := [some (.ref 56), some (.int (nI a)), some (.int (nI b)), some (.int (nI 1)), some (.int (z_ct W.up W.lo W.ns a (nI b) (2 ^ W.ns))), some (.int (nI (2 ^ W.ns))), j6]) (st2 := []) (σ2 := z1) (fun f => rfl) ((show nI (2 ^ W.ns) ≤ nI (2 ^ W.ns) ↔ _ from nI_leI (by omega) (by omega)).mpr (by omega)) ?_
    refine pi_cf 2 (c := nI 1 = 0) (pc' := 89) (l' := [some (.ref 56), some (.int (nI a)), some (.int (nI b)), some (.int (nI 1)), some (.int (z_ct W.up W.lo W.ns a (nI b) (2 ^ W.ns))), some (.int (nI (2 ^ W.ns))), j6]) (st' := []) (σ' := z1) (pc2 := 81) (l2 := [some (.ref 56), some (.int (nI a)), some (.int (nI b)), some (.int (nI 1)), some (.int (z_ct W.up W.lo W.ns a (nI b) (2 ^ W.ns))), some (.int (nI (2 ^ W.ns))), j6]) (st2 := []) (σ2 := z1) (fun f => rfl) (by decide) ?_
    refine pi_rt 2 (v := some (.int (z_ct W.up W.lo W.ns a (nI b) (2 ^ W.ns)))) (σ' := z1) (fun f => rfl) ?_
    exact ⟨rfl, hx1, pi_fr_t2 hrz1 (pi_fr_rf)⟩
  · intro set hi1 ih1 j6 z1 hrz1 hx1
    refine pi_go 4 (pc' := 13) (l' := [some (.ref 56), some (.int (nI a)), some (.int (nI b)), some (.int (nI 1)), some (.int (z_ct W.up W.lo W.ns a (nI b) set)), some (.int (nI set)), j6]) (st' := [.int (z1 56 4), .int (nI 1), .int (nI set)]) (σ' := z1) (fun f => rfl) ?_
    refine pi_tp (y := nI W.ns) (hx1.d4) ?_
    refine pi_go 1 (pc' := 14) (l' := [some (.ref 56), some (.int (nI a)), some (.int (nI b)), some (.int (nI 1)), some (.int (z_ct W.up W.lo W.ns a (nI b) set)), some (.int (nI set)), j6]) (st' := [.int (nI 1 <<< (nI W.ns &&& 31)), .int (nI set)]) (σ' := z1) (fun f => rfl) ?_
    refine pi_tp (y := nI (2 ^ W.ns)) (z_shl _ (by omega)) ?_
    refine pi_cf 1 (c := nI (2 ^ W.ns) ≤ nI set) (pc' := 17) (l' := [some (.ref 56), some (.int (nI a)), some (.int (nI b)), some (.int (nI 1)), some (.int (z_ct W.up W.lo W.ns a (nI b) set)), some (.int (nI set)), j6]) (st' := []) (σ' := z1) (pc2 := 77) (l2 := [some (.ref 56), some (.int (nI a)), some (.int (nI b)), some (.int (nI 1)), some (.int (z_ct W.up W.lo W.ns a (nI b) set)), some (.int (nI set)), j6]) (st2 := []) (σ2 := z1) (fun f => rfl) (fun zq => absurd ((show nI (2 ^ W.ns) ≤ nI set ↔ _ from nI_leI (by omega) (by omega)).mp zq) (by omega)) ?_
    refine pi_if 3 (c := z_ct W.up W.lo W.ns a (nI b) set = (-1)) (pc' := 36) (l' := [some (.ref 56), some (.int (nI a)), some (.int (nI b)), some (.int (nI 1)), some (.int (z_ct W.up W.lo W.ns a (nI b) set)), some (.int (nI set)), j6]) (st' := []) (σ' := z1) (pc2 := 23) (l2 := [some (.ref 56), some (.int (nI a)), some (.int (nI b)), some (.int (nI 1)), some (.int (z_ct W.up W.lo W.ns a (nI b) set)), some (.int (nI set)), j6]) (st2 := []) (σ2 := z1) (fun f => rfl) (fun h1 => ?_) (fun h1 => ?_)
    · refine pi_cf 5 (c := nI 1 = 0) (pc' := 48) (l' := [some (.ref 56), some (.int (nI a)), some (.int (nI b)), some (.int (nI 1)), some (.int (z_ct W.up W.lo W.ns a (nI b) set)), some (.int (nI set)), some (.int (nI 1))]) (st' := []) (σ' := z1) (pc2 := 67) (l2 := [some (.ref 56), some (.int (nI a)), some (.int (nI b)), some (.int (nI 1)), some (.int (z_ct W.up W.lo W.ns a (nI b) set)), some (.int (nI set)), some (.int (nI 1))]) (st2 := []) (σ2 := z1) (fun f => rfl) (by decide) ?_
      refine pi_ca 4 (m' := 143) (l' := [some (.ref 56), some (.int (nI a)), some (.int (nI set)), none, none, none, none]) (σ' := z1) (pc2 := 55) (l2 := [some (.ref 56), some (.int (nI a)), some (.int (nI b)), some (.int (nI 1)), some (.int (z_ct W.up W.lo W.ns a (nI b) set)), some (.int (nI set)), some (.int (nI 1))]) (t := []) (fun f => rfl) (pi_M_reaches hx1 (by omega) (nI set)) ?_
      rintro _ t2 ⟨rfl, gt2, rt2⟩
      refine pi_ca 2 (m' := 101) (l' := [some (.int (z_rc W.up W.lo W.ns a (nI set))), some (.int (nI b))]) (σ' := t2) (pc2 := 59) (l2 := [some (.ref 56), some (.int (nI a)), some (.int (nI b)), some (.int (nI 1)), some (.int (z_ct W.up W.lo W.ns a (nI b) set)), some (.int (nI set)), some (.int (nI 1))]) (t := []) (fun f => rfl) (pi_M_isIn2 (z_rc W.up W.lo W.ns a (nI set)) (nI b)) ?_
      rintro _ _ (⟨b2, rfl, rfl⟩ | ⟨b2, rfl, rfl⟩)
      · refine pi_cf 1 (c := nI 1 = 0) (pc' := 67) (l' := [some (.ref 56), some (.int (nI a)), some (.int (nI b)), some (.int (nI 1)), some (.int (z_ct W.up W.lo W.ns a (nI b) set)), some (.int (nI set)), some (.int (nI 1))]) (st' := []) (σ' := t2) (pc2 := 62) (l2 := [some (.ref 56), some (.int (nI a)), some (.int (nI b)), some (.int (nI 1)), some (.int (z_ct W.up W.lo W.ns a (nI b) set)), some (.int (nI set)), some (.int (nI 1))]) (st2 := []) (σ2 := t2) (fun f => rfl) (by decide) ?_
        refine pi_go 3 (pc' := 74) (l' := [some (.ref 56), some (.int (nI a)), some (.int (nI b)), some (.int (nI 1)), some (.int (z_ct W.up W.lo W.ns a (nI b) set)), some (.int (nI set + nI 1)), some (.int (nI 1))]) (st' := []) (σ' := t2) (fun f => rfl) ?_
        rw [show nI set + nI 1 = nI (set + 1) from nI_add _ 1]
        refine pi_go 1 (pc' := 6) (l' := [some (.ref 56), some (.int (nI a)), some (.int (nI b)), some (.int (nI 1)), some (.int (z_ct W.up W.lo W.ns a (nI b) set)), some (.int (nI (set + 1))), some (.int (nI 1))]) (st' := []) (σ' := t2) (fun f => rfl) ?_
        rw [show some (Value.int (z_ct W.up W.lo W.ns a (nI b) set)) = some (Value.int (z_ct W.up W.lo W.ns a (nI b) (set + 1))) from congrArg (fun z => some (Value.int z)) (by rw [z_ct_s, if_pos (Or.inl h1), if_pos b2])]
        exact ih1 _ _ (pi_fr_t2 rt2 (pi_fr_t2 hrz1 (pi_fr_rf))) (gt2)
      · refine pi_ct 1 (c := nI 0 = 0) (pc' := 62) (l' := [some (.ref 56), some (.int (nI a)), some (.int (nI b)), some (.int (nI 1)), some (.int (z_ct W.up W.lo W.ns a (nI b) set)), some (.int (nI set)), some (.int (nI 1))]) (st' := []) (σ' := t2) (pc2 := 67) (l2 := [some (.ref 56), some (.int (nI a)), some (.int (nI b)), some (.int (nI 1)), some (.int (z_ct W.up W.lo W.ns a (nI b) set)), some (.int (nI set)), some (.int (nI 1))]) (st2 := []) (σ2 := t2) (fun f => rfl) (by decide) ?_
        refine pi_go 4 (pc' := 74) (l' := [some (.ref 56), some (.int (nI a)), some (.int (nI b)), some (.int (nI 1)), some (.int (nI set)), some (.int (nI set + nI 1)), some (.int (nI 1))]) (st' := []) (σ' := t2) (fun f => rfl) ?_
        rw [show nI set + nI 1 = nI (set + 1) from nI_add _ 1]
        refine pi_go 1 (pc' := 6) (l' := [some (.ref 56), some (.int (nI a)), some (.int (nI b)), some (.int (nI 1)), some (.int (nI set)), some (.int (nI (set + 1))), some (.int (nI 1))]) (st' := []) (σ' := t2) (fun f => rfl) ?_
        rw [show some (Value.int (nI set)) = some (Value.int (z_ct W.up W.lo W.ns a (nI b) (set + 1))) from congrArg (fun z => some (Value.int z)) (by rw [z_ct_s, if_pos (Or.inl h1), if_neg b2])]
        exact ih1 _ _ (pi_fr_t2 rt2 (pi_fr_t2 hrz1 (pi_fr_rf))) (gt2)
    · refine pi_ca 2 (m' := 102) (l' := [some (.int (nI set)), none, none]) (σ' := z1) (pc2 := 28) (l2 := [some (.ref 56), some (.int (nI a)), some (.int (nI b)), some (.int (nI 1)), some (.int (z_ct W.up W.lo W.ns a (nI b) set)), some (.int (nI set)), j6]) (t := []) (fun f => rfl) (pi_M_ones (nI set)) ?_
      rintro _ _ ⟨rfl, rfl⟩
      refine pi_ca 2 (m' := 102) (l' := [some (.int (z_ct W.up W.lo W.ns a (nI b) set)), none, none]) (σ' := z1) (pc2 := 33) (l2 := [some (.ref 56), some (.int (nI a)), some (.int (nI b)), some (.int (nI 1)), some (.int (z_ct W.up W.lo W.ns a (nI b) set)), some (.int (nI set)), j6]) (t := [.int (z_ones (nI set))]) (fun f => rfl) (pi_M_ones (z_ct W.up W.lo W.ns a (nI b) set)) ?_
      rintro _ _ ⟨rfl, rfl⟩
      refine pi_if 1 (c := z_ones (z_ct W.up W.lo W.ns a (nI b) set) ≤ z_ones (nI set)) (pc' := 40) (l' := [some (.ref 56), some (.int (nI a)), some (.int (nI b)), some (.int (nI 1)), some (.int (z_ct W.up W.lo W.ns a (nI b) set)), some (.int (nI set)), j6]) (st' := []) (σ' := z1) (pc2 := 36) (l2 := [some (.ref 56), some (.int (nI a)), some (.int (nI b)), some (.int (nI 1)), some (.int (z_ct W.up W.lo W.ns a (nI b) set)), some (.int (nI set)), j6]) (st2 := []) (σ2 := z1) (fun f => rfl) (fun h3 => ?_) (fun h3 => ?_)
      · refine pi_ct 4 (c := nI 0 = 0) (pc' := 67) (l' := [some (.ref 56), some (.int (nI a)), some (.int (nI b)), some (.int (nI 1)), some (.int (z_ct W.up W.lo W.ns a (nI b) set)), some (.int (nI set)), some (.int (nI 0))]) (st' := []) (σ' := z1) (pc2 := 48) (l2 := [some (.ref 56), some (.int (nI a)), some (.int (nI b)), some (.int (nI 1)), some (.int (z_ct W.up W.lo W.ns a (nI b) set)), some (.int (nI set)), some (.int (nI 0))]) (st2 := []) (σ2 := z1) (fun f => rfl) (by decide) ?_
        refine pi_go 3 (pc' := 74) (l' := [some (.ref 56), some (.int (nI a)), some (.int (nI b)), some (.int (nI 1)), some (.int (z_ct W.up W.lo W.ns a (nI b) set)), some (.int (nI set + nI 1)), some (.int (nI 0))]) (st' := []) (σ' := z1) (fun f => rfl) ?_
        rw [show nI set + nI 1 = nI (set + 1) from nI_add _ 1]
        refine pi_go 1 (pc' := 6) (l' := [some (.ref 56), some (.int (nI a)), some (.int (nI b)), some (.int (nI 1)), some (.int (z_ct W.up W.lo W.ns a (nI b) set)), some (.int (nI (set + 1))), some (.int (nI 0))]) (st' := []) (σ' := z1) (fun f => rfl) ?_
        rw [show some (Value.int (z_ct W.up W.lo W.ns a (nI b) set)) = some (Value.int (z_ct W.up W.lo W.ns a (nI b) (set + 1))) from congrArg (fun z => some (Value.int z)) (by rw [z_ct_s, if_neg (fun q => q.elim h1 (fun q => Int32.not_lt.mpr h3 q))])]
        exact ih1 _ _ (pi_fr_t2 hrz1 (pi_fr_rf)) (hx1)
      · refine pi_cf 5 (c := nI 1 = 0) (pc' := 48) (l' := [some (.ref 56), some (.int (nI a)), some (.int (nI b)), some (.int (nI 1)), some (.int (z_ct W.up W.lo W.ns a (nI b) set)), some (.int (nI set)), some (.int (nI 1))]) (st' := []) (σ' := z1) (pc2 := 67) (l2 := [some (.ref 56), some (.int (nI a)), some (.int (nI b)), some (.int (nI 1)), some (.int (z_ct W.up W.lo W.ns a (nI b) set)), some (.int (nI set)), some (.int (nI 1))]) (st2 := []) (σ2 := z1) (fun f => rfl) (by decide) ?_
        refine pi_ca 4 (m' := 143) (l' := [some (.ref 56), some (.int (nI a)), some (.int (nI set)), none, none, none, none]) (σ' := z1) (pc2 := 55) (l2 := [some (.ref 56), some (.int (nI a)), some (.int (nI b)), some (.int (nI 1)), some (.int (z_ct W.up W.lo W.ns a (nI b) set)), some (.int (nI set)), some (.int (nI 1))]) (t := []) (fun f => rfl) (pi_M_reaches hx1 (by omega) (nI set)) ?_
        rintro _ t3 ⟨rfl, gt3, rt3⟩
        refine pi_ca 2 (m' := 101) (l' := [some (.int (z_rc W.up W.lo W.ns a (nI set))), some (.int (nI b))]) (σ' := t3) (pc2 := 59) (l2 := [some (.ref 56), some (.int (nI a)), some (.int (nI b)), some (.int (nI 1)), some (.int (z_ct W.up W.lo W.ns a (nI b) set)), some (.int (nI set)), some (.int (nI 1))]) (t := []) (fun f => rfl) (pi_M_isIn2 (z_rc W.up W.lo W.ns a (nI set)) (nI b)) ?_
        rintro _ _ (⟨b4, rfl, rfl⟩ | ⟨b4, rfl, rfl⟩)
        · refine pi_cf 1 (c := nI 1 = 0) (pc' := 67) (l' := [some (.ref 56), some (.int (nI a)), some (.int (nI b)), some (.int (nI 1)), some (.int (z_ct W.up W.lo W.ns a (nI b) set)), some (.int (nI set)), some (.int (nI 1))]) (st' := []) (σ' := t3) (pc2 := 62) (l2 := [some (.ref 56), some (.int (nI a)), some (.int (nI b)), some (.int (nI 1)), some (.int (z_ct W.up W.lo W.ns a (nI b) set)), some (.int (nI set)), some (.int (nI 1))]) (st2 := []) (σ2 := t3) (fun f => rfl) (by decide) ?_
          refine pi_go 3 (pc' := 74) (l' := [some (.ref 56), some (.int (nI a)), some (.int (nI b)), some (.int (nI 1)), some (.int (z_ct W.up W.lo W.ns a (nI b) set)), some (.int (nI set + nI 1)), some (.int (nI 1))]) (st' := []) (σ' := t3) (fun f => rfl) ?_
          rw [show nI set + nI 1 = nI (set + 1) from nI_add _ 1]
          refine pi_go 1 (pc' := 6) (l' := [some (.ref 56), some (.int (nI a)), some (.int (nI b)), some (.int (nI 1)), some (.int (z_ct W.up W.lo W.ns a (nI b) set)), some (.int (nI (set + 1))), some (.int (nI 1))]) (st' := []) (σ' := t3) (fun f => rfl) ?_
          rw [show some (Value.int (z_ct W.up W.lo W.ns a (nI b) set)) = some (Value.int (z_ct W.up W.lo W.ns a (nI b) (set + 1))) from congrArg (fun z => some (Value.int z)) (by rw [z_ct_s, if_pos (Or.inr (Int32.not_le.mp h3)), if_pos b4])]
          exact ih1 _ _ (pi_fr_t2 rt3 (pi_fr_t2 hrz1 (pi_fr_rf))) (gt3)
        · refine pi_ct 1 (c := nI 0 = 0) (pc' := 62) (l' := [some (.ref 56), some (.int (nI a)), some (.int (nI b)), some (.int (nI 1)), some (.int (z_ct W.up W.lo W.ns a (nI b) set)), some (.int (nI set)), some (.int (nI 1))]) (st' := []) (σ' := t3) (pc2 := 67) (l2 := [some (.ref 56), some (.int (nI a)), some (.int (nI b)), some (.int (nI 1)), some (.int (z_ct W.up W.lo W.ns a (nI b) set)), some (.int (nI set)), some (.int (nI 1))]) (st2 := []) (σ2 := t3) (fun f => rfl) (by decide) ?_
          refine pi_go 4 (pc' := 74) (l' := [some (.ref 56), some (.int (nI a)), some (.int (nI b)), some (.int (nI 1)), some (.int (nI set)), some (.int (nI set + nI 1)), some (.int (nI 1))]) (st' := []) (σ' := t3) (fun f => rfl) ?_
          rw [show nI set + nI 1 = nI (set + 1) from nI_add _ 1]
          refine pi_go 1 (pc' := 6) (l' := [some (.ref 56), some (.int (nI a)), some (.int (nI b)), some (.int (nI 1)), some (.int (nI set)), some (.int (nI (set + 1))), some (.int (nI 1))]) (st' := []) (σ' := t3) (fun f => rfl) ?_
          rw [show some (Value.int (nI set)) = some (Value.int (z_ct W.up W.lo W.ns a (nI b) (set + 1))) from congrArg (fun z => some (Value.int z)) (by rw [z_ct_s, if_pos (Or.inr (Int32.not_le.mp h3)), if_neg b4])]
          exact ih1 _ _ (pi_fr_t2 rt3 (pi_fr_t2 hrz1 (pi_fr_rf))) (gt3)
/-! longs that are numbers -/
def nL (n : Nat) : Int64 := Int64.ofNat n
theorem nL_toInt {n : Nat} (h : n < 2 ^ 31) : (nL n).toInt = (n : Int) := by
  unfold nL
  rw [Int64.toInt_ofNat_of_lt (by omega)]
theorem nL_inj {a b : Nat} (ha : a < 2 ^ 31) (hb : b < 2 ^ 31) (h : nL a = nL b) : a = b := by
  have := congrArg Int64.toInt h
  rw [nL_toInt ha, nL_toInt hb] at this
  omega
theorem nL_bmod {z : Int} (h0 : 0 ≤ z) (h : z < 2 ^ 62) : z.bmod (2 ^ 64) = z := Int.bmod_eq_of_le (by omega) (by omega)
theorem nL_div {a b : Nat} (ha : a < 2 ^ 31) (hb : b < 2 ^ 31) : nL a / nL b = nL (a / b) := by
  apply Int64.toInt_inj.mp
  have h1 : a / b ≤ a := Nat.div_le_self a b
  rw [Int64.toInt_div, nL_toInt ha, nL_toInt hb, nL_toInt (by omega), ← Int.ofNat_tdiv]
  generalize a / b = q at h1 ⊢
  exact nL_bmod (by omega) (by omega)
theorem nL_rem {a b : Nat} (ha : a < 2 ^ 31) (hb : b < 2 ^ 31) : nL a - nL a / nL b * nL b = nL (a % b) := by
  apply Int64.toInt_inj.mp
  have h1 : a / b ≤ a := Nat.div_le_self a b
  have h2 : a / b * b ≤ a := Nat.div_mul_le_self a b
  have h3 : a % b = a - a / b * b := by
    have := Nat.div_add_mod a b
    rw [Nat.mul_comm] at this
    omega
  have h4 : a % b ≤ a := Nat.mod_le a b
  rw [nL_div ha hb, Int64.toInt_sub, Int64.toInt_mul, nL_toInt ha, nL_toInt hb, nL_toInt (by omega), nL_toInt (by omega)]
  have h5 : ((a / b : Nat) : Int) * (b : Int) = ((a / b * b : Nat) : Int) := (Int.natCast_mul _ _).symm
  rw [h5, nL_bmod (z := ((a / b * b : Nat) : Int)) (by omega) (by omega), nL_bmod (by omega) (by omega)]
  omega
theorem nL_cmp0 {y : Nat} (hy : y < 2 ^ 31) (h : y ≠ 0) : ¬ lg_cmp (nL y) (Int64.ofNat 0) = 0 := by
  have h1 : (nL y).toInt = y := nL_toInt hy
  have h2 : (Int64.ofNat 0).toInt = 0 := by decide
  unfold lg_cmp
  have h3 : ¬ nL y = Int64.ofNat 0 := fun q => by
    have := congrArg Int64.toInt q
    omega
  have h4 : ¬ nL y < Int64.ofNat 0 := fun q => by
    have := Int64.lt_iff_toInt_lt.mp q
    omega
  simp only [h3, h4, if_false]
  split <;> decide
theorem nL_i2l {n : Nat} (h : n < 2 ^ 31) : (nI n).toInt64 = nL n := by
  apply Int64.toInt_inj.mp
  rw [nL_toInt h, Int32.toInt_toInt64, nI_toInt h]
theorem nL_ne0 {y : Nat} (hy : y < 2 ^ 31) (h : y ≠ 0) : ¬ nL y = 0 := fun q => h (nL_inj hy (by omega) (q.trans (show (0 : Int64) = nL 0 from rfl)))
set_option maxRecDepth 20000 in
theorem pi_M_low0 {xs : Nat → Int32} {L d : Nat} {σ : pi_S} {t : Nat} (ht : t < 2 ^ 30)  : pi_wp xs L d 104 0 [some (.long (nL t)), none, some (.long (nL 16)), none, some (.int (nI 0)), none, none, none, none, none, none] [] σ (fun v s => v = some (.long (nL (t / Nat.gcd t 16))) ∧ σ = s) := by
  have hgle : Nat.gcd t 16 ≤ 16 := Nat.le_of_dvd (by omega) (Nat.gcd_dvd_right t 16)
  refine pi_go 4 (pc' := 6) (l' := [some (.long (nL t)), none, some (.long (nL 16)), none, some (.int (nI 0)), some (.long (nL t)), none, some (.long (nL 16)), none, none, none]) (st' := []) (σ' := σ) (fun f => rfl) ?_
  suffices hl : ∀ n y x, y ≤ n → y < 2 ^ 31 → x < 2 ^ 31 → Nat.gcd x y = Nat.gcd t 16 → ∀ (j9 : Option Value), pi_wp xs L d 104 6 [some (.long (nL t)), none, some (.long (nL 16)), none, some (.int (nI 0)), some (.long (nL x)), none, some (.long (nL y)), none, j9, none] [] σ (fun v s => v = some (.long (nL (t / Nat.gcd t 16))) ∧ σ = s) from hl 16 16 t (Nat.le_refl 16) (by omega) (by omega) rfl _
  intro n
  induction n with
  | zero =>
    intro y x hyn hy hx hg j9
    have hy0 : y = 0 := Nat.le_zero.mp hyn
    subst hy0
    rw [Nat.gcd_zero_right] at hg
    subst hg
    have hgp : 0 < Nat.gcd t 16 := Nat.gcd_pos_of_pos_right t (by omega)
    refine pi_ct 4 (c := lg_cmp (nL 0) (Int64.ofNat 0) = 0) (pc' := 31) (l' := [some (.long (nL t)), none, some (.long (nL 16)), none, some (.int (nI 0)), some (.long (nL (Nat.gcd t 16))), none, some (.long (nL 0)), none, j9, none]) (st' := []) (σ' := σ) (pc2 := 13) (l2 := [some (.long (nL t)), none, some (.long (nL 16)), none, some (.int (nI 0)), some (.long (nL (Nat.gcd t 16))), none, some (.long (nL 0)), none, j9, none]) (st2 := []) (σ2 := σ) (fun f => rfl) (show lg_cmp (nL 0) (Int64.ofNat 0) = 0 from rfl) ?_
    refine pi_ct 2 (c := nI 0 = 0) (pc' := 36) (l' := [some (.long (nL t)), none, some (.long (nL 16)), none, some (.int (nI 0)), some (.long (nL (Nat.gcd t 16))), none, some (.long (nL 0)), none, j9, none]) (st' := []) (σ' := σ) (pc2 := 43) (l2 := [some (.long (nL t)), none, some (.long (nL 16)), none, some (.int (nI 0)), some (.long (nL (Nat.gcd t 16))), none, some (.long (nL 0)), none, j9, none]) (st2 := []) (σ2 := σ) (fun f => rfl) (by decide) ?_
    refine pi_gn 3 (c := nL (Nat.gcd t 16) = 0) (pc' := 40) (l' := [some (.long (nL t)), none, some (.long (nL 16)), none, some (.int (nI 0)), some (.long (nL (Nat.gcd t 16))), none, some (.long (nL 0)), none, j9, none]) (st' := [.long ((nL t) / (nL (Nat.gcd t 16)))]) (σ' := σ) (fun f => rfl) (nL_ne0 (by omega) (by omega)) ?_
    refine pi_rt 2 (v := some (.long ((nL t) / (nL (Nat.gcd t 16))))) (σ' := σ) (fun f => rfl) ?_
    exact ⟨congrArg (fun z => some (Value.long z)) (nL_div (by omega) (by omega)), rfl⟩
  | succ n ih =>
    intro y x hyn hy hx hg j9
    by_cases hy0 : y = 0
    · subst hy0
      rw [Nat.gcd_zero_right] at hg
      subst hg
      have hgp : 0 < Nat.gcd t 16 := Nat.gcd_pos_of_pos_right t (by omega)
      refine pi_ct 4 (c := lg_cmp (nL 0) (Int64.ofNat 0) = 0) (pc' := 31) (l' := [some (.long (nL t)), none, some (.long (nL 16)), none, some (.int (nI 0)), some (.long (nL (Nat.gcd t 16))), none, some (.long (nL 0)), none, j9, none]) (st' := []) (σ' := σ) (pc2 := 13) (l2 := [some (.long (nL t)), none, some (.long (nL 16)), none, some (.int (nI 0)), some (.long (nL (Nat.gcd t 16))), none, some (.long (nL 0)), none, j9, none]) (st2 := []) (σ2 := σ) (fun f => rfl) (show lg_cmp (nL 0) (Int64.ofNat 0) = 0 from rfl) ?_
      refine pi_ct 2 (c := nI 0 = 0) (pc' := 36) (l' := [some (.long (nL t)), none, some (.long (nL 16)), none, some (.int (nI 0)), some (.long (nL (Nat.gcd t 16))), none, some (.long (nL 0)), none, j9, none]) (st' := []) (σ' := σ) (pc2 := 43) (l2 := [some (.long (nL t)), none, some (.long (nL 16)), none, some (.int (nI 0)), some (.long (nL (Nat.gcd t 16))), none, some (.long (nL 0)), none, j9, none]) (st2 := []) (σ2 := σ) (fun f => rfl) (by decide) ?_
      refine pi_gn 3 (c := nL (Nat.gcd t 16) = 0) (pc' := 40) (l' := [some (.long (nL t)), none, some (.long (nL 16)), none, some (.int (nI 0)), some (.long (nL (Nat.gcd t 16))), none, some (.long (nL 0)), none, j9, none]) (st' := [.long ((nL t) / (nL (Nat.gcd t 16)))]) (σ' := σ) (fun f => rfl) (nL_ne0 (by omega) (by omega)) ?_
      refine pi_rt 2 (v := some (.long ((nL t) / (nL (Nat.gcd t 16))))) (σ' := σ) (fun f => rfl) ?_
      exact ⟨congrArg (fun z => some (Value.long z)) (nL_div (by omega) (by omega)), rfl⟩
    · have hlt : x % y < y := Nat.mod_lt x (by omega)
      refine pi_cf 4 (c := lg_cmp (nL y) (Int64.ofNat 0) = 0) (pc' := 13) (l' := [some (.long (nL t)), none, some (.long (nL 16)), none, some (.int (nI 0)), some (.long (nL x)), none, some (.long (nL y)), none, j9, none]) (st' := []) (σ' := σ) (pc2 := 31) (l2 := [some (.long (nL t)), none, some (.long (nL 16)), none, some (.int (nI 0)), some (.long (nL x)), none, some (.long (nL y)), none, j9, none]) (st2 := []) (σ2 := σ) (fun f => rfl) (nL_cmp0 hy hy0) ?_
      refine pi_gn 3 (c := nL y = 0) (pc' := 18) (l' := [some (.long (nL t)), none, some (.long (nL 16)), none, some (.int (nI 0)), some (.long (nL x)), none, some (.long (nL y)), none, j9, none]) (st' := [.long ((nL x) - (nL x) / (nL y) * (nL y))]) (σ' := σ) (fun f => rfl) (nL_ne0 hy hy0) ?_
      refine pi_go 6 (pc' := 6) (l' := [some (.long (nL t)), none, some (.long (nL 16)), none, some (.int (nI 0)), some (.long (nL y)), none, some (.long ((nL x) - (nL x) / (nL y) * (nL y))), none, some (.long ((nL x) - (nL x) / (nL y) * (nL y))), none]) (st' := []) (σ' := σ) (fun f => rfl) ?_
      rw [nL_rem hx hy]
      exact ih (x % y) y (by omega) (by omega) hy (by rw [Nat.gcd_comm, ← Nat.gcd_rec, Nat.gcd_comm]; exact hg) _
set_option maxRecDepth 20000 in
theorem pi_M_low1 {xs : Nat → Int32} {L d : Nat} {σ : pi_S} {t : Nat} (ht : t < 2 ^ 30)  : pi_wp xs L d 104 0 [some (.long (nL t)), none, some (.long (nL 16)), none, some (.int (nI 1)), none, none, none, none, none, none] [] σ (fun v s => v = some (.long (nL (16 / Nat.gcd t 16))) ∧ σ = s) := by
  have hgle : Nat.gcd t 16 ≤ 16 := Nat.le_of_dvd (by omega) (Nat.gcd_dvd_right t 16)
  refine pi_go 4 (pc' := 6) (l' := [some (.long (nL t)), none, some (.long (nL 16)), none, some (.int (nI 1)), some (.long (nL t)), none, some (.long (nL 16)), none, none, none]) (st' := []) (σ' := σ) (fun f => rfl) ?_
  suffices hl : ∀ n y x, y ≤ n → y < 2 ^ 31 → x < 2 ^ 31 → Nat.gcd x y = Nat.gcd t 16 → ∀ (j9 : Option Value), pi_wp xs L d 104 6 [some (.long (nL t)), none, some (.long (nL 16)), none, some (.int (nI 1)), some (.long (nL x)), none, some (.long (nL y)), none, j9, none] [] σ (fun v s => v = some (.long (nL (16 / Nat.gcd t 16))) ∧ σ = s) from hl 16 16 t (Nat.le_refl 16) (by omega) (by omega) rfl _
  intro n
  induction n with
  | zero =>
    intro y x hyn hy hx hg j9
    have hy0 : y = 0 := Nat.le_zero.mp hyn
    subst hy0
    rw [Nat.gcd_zero_right] at hg
    subst hg
    have hgp : 0 < Nat.gcd t 16 := Nat.gcd_pos_of_pos_right t (by omega)
    refine pi_ct 4 (c := lg_cmp (nL 0) (Int64.ofNat 0) = 0) (pc' := 31) (l' := [some (.long (nL t)), none, some (.long (nL 16)), none, some (.int (nI 1)), some (.long (nL (Nat.gcd t 16))), none, some (.long (nL 0)), none, j9, none]) (st' := []) (σ' := σ) (pc2 := 13) (l2 := [some (.long (nL t)), none, some (.long (nL 16)), none, some (.int (nI 1)), some (.long (nL (Nat.gcd t 16))), none, some (.long (nL 0)), none, j9, none]) (st2 := []) (σ2 := σ) (fun f => rfl) (show lg_cmp (nL 0) (Int64.ofNat 0) = 0 from rfl) ?_
    refine pi_cf 2 (c := nI 1 = 0) (pc' := 43) (l' := [some (.long (nL t)), none, some (.long (nL 16)), none, some (.int (nI 1)), some (.long (nL (Nat.gcd t 16))), none, some (.long (nL 0)), none, j9, none]) (st' := []) (σ' := σ) (pc2 := 36) (l2 := [some (.long (nL t)), none, some (.long (nL 16)), none, some (.int (nI 1)), some (.long (nL (Nat.gcd t 16))), none, some (.long (nL 0)), none, j9, none]) (st2 := []) (σ2 := σ) (fun f => rfl) (by decide) ?_
    refine pi_gn 3 (c := nL (Nat.gcd t 16) = 0) (pc' := 47) (l' := [some (.long (nL t)), none, some (.long (nL 16)), none, some (.int (nI 1)), some (.long (nL (Nat.gcd t 16))), none, some (.long (nL 0)), none, j9, none]) (st' := [.long ((nL 16) / (nL (Nat.gcd t 16)))]) (σ' := σ) (fun f => rfl) (nL_ne0 (by omega) (by omega)) ?_
    refine pi_rt 1 (v := some (.long ((nL 16) / (nL (Nat.gcd t 16))))) (σ' := σ) (fun f => rfl) ?_
    exact ⟨congrArg (fun z => some (Value.long z)) (nL_div (by omega) (by omega)), rfl⟩
  | succ n ih =>
    intro y x hyn hy hx hg j9
    by_cases hy0 : y = 0
    · subst hy0
      rw [Nat.gcd_zero_right] at hg
      subst hg
      have hgp : 0 < Nat.gcd t 16 := Nat.gcd_pos_of_pos_right t (by omega)
      refine pi_ct 4 (c := lg_cmp (nL 0) (Int64.ofNat 0) = 0) (pc' := 31) (l' := [some (.long (nL t)), none, some (.long (nL 16)), none, some (.int (nI 1)), some (.long (nL (Nat.gcd t 16))), none, some (.long (nL 0)), none, j9, none]) (st' := []) (σ' := σ) (pc2 := 13) (l2 := [some (.long (nL t)), none, some (.long (nL 16)), none, some (.int (nI 1)), some (.long (nL (Nat.gcd t 16))), none, some (.long (nL 0)), none, j9, none]) (st2 := []) (σ2 := σ) (fun f => rfl) (show lg_cmp (nL 0) (Int64.ofNat 0) = 0 from rfl) ?_
      refine pi_cf 2 (c := nI 1 = 0) (pc' := 43) (l' := [some (.long (nL t)), none, some (.long (nL 16)), none, some (.int (nI 1)), some (.long (nL (Nat.gcd t 16))), none, some (.long (nL 0)), none, j9, none]) (st' := []) (σ' := σ) (pc2 := 36) (l2 := [some (.long (nL t)), none, some (.long (nL 16)), none, some (.int (nI 1)), some (.long (nL (Nat.gcd t 16))), none, some (.long (nL 0)), none, j9, none]) (st2 := []) (σ2 := σ) (fun f => rfl) (by decide) ?_
      refine pi_gn 3 (c := nL (Nat.gcd t 16) = 0) (pc' := 47) (l' := [some (.long (nL t)), none, some (.long (nL 16)), none, some (.int (nI 1)), some (.long (nL (Nat.gcd t 16))), none, some (.long (nL 0)), none, j9, none]) (st' := [.long ((nL 16) / (nL (Nat.gcd t 16)))]) (σ' := σ) (fun f => rfl) (nL_ne0 (by omega) (by omega)) ?_
      refine pi_rt 1 (v := some (.long ((nL 16) / (nL (Nat.gcd t 16))))) (σ' := σ) (fun f => rfl) ?_
      exact ⟨congrArg (fun z => some (Value.long z)) (nL_div (by omega) (by omega)), rfl⟩
    · have hlt : x % y < y := Nat.mod_lt x (by omega)
      refine pi_cf 4 (c := lg_cmp (nL y) (Int64.ofNat 0) = 0) (pc' := 13) (l' := [some (.long (nL t)), none, some (.long (nL 16)), none, some (.int (nI 1)), some (.long (nL x)), none, some (.long (nL y)), none, j9, none]) (st' := []) (σ' := σ) (pc2 := 31) (l2 := [some (.long (nL t)), none, some (.long (nL 16)), none, some (.int (nI 1)), some (.long (nL x)), none, some (.long (nL y)), none, j9, none]) (st2 := []) (σ2 := σ) (fun f => rfl) (nL_cmp0 hy hy0) ?_
      refine pi_gn 3 (c := nL y = 0) (pc' := 18) (l' := [some (.long (nL t)), none, some (.long (nL 16)), none, some (.int (nI 1)), some (.long (nL x)), none, some (.long (nL y)), none, j9, none]) (st' := [.long ((nL x) - (nL x) / (nL y) * (nL y))]) (σ' := σ) (fun f => rfl) (nL_ne0 hy hy0) ?_
      refine pi_go 6 (pc' := 6) (l' := [some (.long (nL t)), none, some (.long (nL 16)), none, some (.int (nI 1)), some (.long (nL y)), none, some (.long ((nL x) - (nL x) / (nL y) * (nL y))), none, some (.long ((nL x) - (nL x) / (nL y) * (nL y))), none]) (st' := []) (σ' := σ) (fun f => rfl) ?_
      rw [nL_rem hx hy]
      exact ih (x % y) y (by omega) (by omega) hy (by rw [Nat.gcd_comm, ← Nat.gcd_rec, Nat.gcd_comm]; exact hg) _
set_option maxRecDepth 20000 in
theorem pi_M_oddsOf0 {xs : Nat → Int32} {L d : Nat} {W : zW} {σ : pi_S} (hm : z_MR W σ) {x t : Nat} (hmean : z_mean W (nI x) (-1) = nI t) (ht30 : t < 2 ^ 30)  : pi_wp xs L (d + 7) 153 0 [some (.ref 56), some (.int (nI x)), some (.int (nI 0))] [] σ (fun v s => v = some (.long (nL (t / Nat.gcd t 16))) ∧ z_MT W s ∧ pi_fr z_RC s σ) := by
  have hk := hm.wk
  have hnd8 := hk.wd.nd8
  have hns12 := hk.wd.ns12
  have hn60 := hk.nine
  have hnf := hk.nf
  have hnw := hk.nw
  have hnc := hk.nc
  have hn08 := hk.wd.n0
  have hn140 := hk.wd.n1
  refine pi_ca 4 (m' := 152) (l' := [some (.ref 56), some (.int (nI x)), some (.int (-1)), none]) (σ' := σ) (pc2 := 6) (l2 := [some (.ref 56), some (.int (nI x)), some (.int (nI 0))]) (t := []) (fun f => rfl) (pi_M_meanBy hm (nI x) (-1)) ?_
  rintro _ t1 ⟨rfl, gt1, rt1⟩
  refine pi_go 1 (pc' := 7) (l' := [some (.ref 56), some (.int (nI x)), some (.int (nI 0))]) (st' := [.long (Int32.toInt64 (z_mean W (nI x) (-1)))]) (σ' := t1) (fun f => rfl) ?_
  rw [show z_mean W (nI x) (-1) = nI t from hmean, nL_i2l (by omega)]
  refine pi_ca 3 (m' := 104) (l' := [some (.long (nL t)), none, some (.long (nL 16)), none, some (.int (nI 0)), none, none, none, none, none, none]) (σ' := t1) (pc2 := 14) (l2 := [some (.ref 56), some (.int (nI x)), some (.int (nI 0))]) (t := []) (fun f => rfl) (pi_M_low0 (by omega)) ?_
  rintro _ _ ⟨rfl, rfl⟩
  refine pi_rt 1 (v := some (.long (nL (t / Nat.gcd t 16)))) (σ' := t1) (fun f => rfl) ?_
  exact ⟨rfl, gt1, pi_fr_t2 rt1 (pi_fr_rf)⟩
set_option maxRecDepth 20000 in
theorem pi_M_oddsOf1 {xs : Nat → Int32} {L d : Nat} {W : zW} {σ : pi_S} (hm : z_MR W σ) {x t : Nat} (hmean : z_mean W (nI x) (-1) = nI t) (ht30 : t < 2 ^ 30)  : pi_wp xs L (d + 7) 153 0 [some (.ref 56), some (.int (nI x)), some (.int (nI 1))] [] σ (fun v s => v = some (.long (nL (16 / Nat.gcd t 16))) ∧ z_MT W s ∧ pi_fr z_RC s σ) := by
  have hk := hm.wk
  have hnd8 := hk.wd.nd8
  have hns12 := hk.wd.ns12
  have hn60 := hk.nine
  have hnf := hk.nf
  have hnw := hk.nw
  have hnc := hk.nc
  have hn08 := hk.wd.n0
  have hn140 := hk.wd.n1
  refine pi_ca 4 (m' := 152) (l' := [some (.ref 56), some (.int (nI x)), some (.int (-1)), none]) (σ' := σ) (pc2 := 6) (l2 := [some (.ref 56), some (.int (nI x)), some (.int (nI 1))]) (t := []) (fun f => rfl) (pi_M_meanBy hm (nI x) (-1)) ?_
  rintro _ t1 ⟨rfl, gt1, rt1⟩
  refine pi_go 1 (pc' := 7) (l' := [some (.ref 56), some (.int (nI x)), some (.int (nI 1))]) (st' := [.long (Int32.toInt64 (z_mean W (nI x) (-1)))]) (σ' := t1) (fun f => rfl) ?_
  rw [show z_mean W (nI x) (-1) = nI t from hmean, nL_i2l (by omega)]
  refine pi_ca 3 (m' := 104) (l' := [some (.long (nL t)), none, some (.long (nL 16)), none, some (.int (nI 1)), none, none, none, none, none, none]) (σ' := t1) (pc2 := 14) (l2 := [some (.ref 56), some (.int (nI x)), some (.int (nI 1))]) (t := []) (fun f => rfl) (pi_M_low1 (by omega)) ?_
  rintro _ _ ⟨rfl, rfl⟩
  refine pi_rt 1 (v := some (.long (nL (16 / Nat.gcd t 16)))) (σ' := t1) (fun f => rfl) ?_
  exact ⟨rfl, gt1, pi_fr_t2 rt1 (pi_fr_rf)⟩
