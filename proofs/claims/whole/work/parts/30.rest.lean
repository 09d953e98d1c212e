set_option maxRecDepth 20000 in
theorem pi_C_fineAt_c {xs : Nat → Int32} {L d : Nat} {W : zW} {σ : pi_S} (hc : z_CK W σ) {dr : Nat} (hd : dr < 8)  : pi_wp xs L (d + 2) 16 0 [some (.ref 33), some (.int (nI dr)), none, none] [] σ (fun v s => v = some (.int (z_fine W.rt (σ 35) dr)) ∧ σ = s) := by
  have hk := hc.p.wk
  have hnd8 := hk.wd.nd8
  have hns12 := hk.wd.ns12
  have hn60 := hk.nine
  have hnf := hk.nf
  have hnw := hk.nw
  have hnc := hk.nc
  have hn08 := hk.wd.n0
  have hn140 := hk.wd.n1
  refine pi_go 4 (pc' := 4) (l' := [some (.ref 33), some (.int (nI dr)), some (.int (nI 0)), some (.int (nI 0))]) (st' := []) (σ' := σ) (fun f => rfl) ?_
  suffices hl1 : ∀ i, i ≤ 5 → pi_wp xs L (d + 2) 16 4 [some (.ref 33), some (.int (nI dr)), some (.int (pi_lp (fun k a => a + σ 35 (5 * dr + k) * W.rt k) i (nI 0))), some (.int (nI i))] [] σ (fun v s => v = some (.int (z_fine W.rt (σ 35) dr)) ∧ σ = s) from hl1 0 (by omega) 
  refine pi_lp0 ?_ ?_
  · refine pi_ct 3 (c := nI 5 ≤ nI 5) (pc' := 37) (l' := [some (.ref 33), some (.int (nI dr)), some (.int (pi_lp (fun k a => a + σ 35 (5 * dr + k) * W.rt k) 5 (nI 0))), some (.int (nI 5))]) (st' := []) (σ' := σ) (pc2 := 9) (l2 := [some (.ref 33), some (.int (nI dr)), some (.int (pi_lp (fun k a => a + σ 35 (5 * dr + k) * W.rt k) 5 (nI 0))), some (.int (nI 5))]) (st2 := []) (σ2 := σ) (fun f => rfl) (by decide) ?_
    refine pi_rt 2 (v := some (.int (pi_lp (fun k a => a + σ 35 (5 * dr + k) * W.rt k) 5 (nI 0)))) (σ' := σ) (fun f => rfl) ?_
    exact ⟨rfl, rfl⟩
  · intro i hi1 ih1
    refine pi_cf 3 (c := nI 5 ≤ nI i) (pc' := 9) (l' := [some (.ref 33), some (.int (nI dr)), some (.int (pi_lp (fun k a => a + σ 35 (5 * dr + k) * W.rt k) i (nI 0))), some (.int (nI i))]) (st' := []) (σ' := σ) (pc2 := 37) (l2 := [some (.ref 33), some (.int (nI dr)), some (.int (pi_lp (fun k a => a + σ 35 (5 * dr + k) * W.rt k) i (nI 0))), some (.int (nI i))]) (st2 := []) (σ2 := σ) (fun f => rfl) (fun zq => absurd ((show nI 5 ≤ nI i ↔ _ from nI_leI (by omega) (by omega)).mp zq) (by omega)) ?_
    refine pi_ai 6 (u := i) (n := 5) (g := σ 13) (pc' := 19) (l' := [some (.ref 33), some (.int (nI dr)), some (.int (pi_lp (fun k a => a + σ 35 (5 * dr + k) * W.rt k) i (nI 0))), some (.int (nI i))]) (t := [.int (pi_lp (fun k a => a + σ 35 (5 * dr + k) * W.rt k) i (nI 0))]) (σ' := σ) (fun f => rfl) (by omega) (by omega) ?_
    refine pi_tp (y := W.rt i) ((hc.p.rt i (by omega))) ?_
    refine pi_ca 5 (m' := 22) (l' := [some (.ref 34), some (.int (nI dr)), some (.int (nI i))]) (σ' := σ) (pc2 := 28) (l2 := [some (.ref 33), some (.int (nI dr)), some (.int (pi_lp (fun k a => a + σ 35 (5 * dr + k) * W.rt k) i (nI 0))), some (.int (nI i))]) (t := [.int (W.rt i), .int (pi_lp (fun k a => a + σ 35 (5 * dr + k) * W.rt k) i (nI 0))]) (fun f => rfl) (pi_C_barrowsAt_c (by omega) (by omega)) ?_
    rintro _ _ ⟨rfl, rfl⟩
    refine pi_go 4 (pc' := 34) (l' := [some (.ref 33), some (.int (nI dr)), some (.int ((pi_lp (fun k a => a + σ 35 (5 * dr + k) * W.rt k) i (nI 0)) + ((W.rt i) * ((σ 35) (5 * dr + i))))), some (.int (nI i + nI 1))]) (st' := []) (σ' := σ) (fun f => rfl) ?_
    rw [show nI i + nI 1 = nI (i + 1) from nI_add _ 1]
    refine pi_go 1 (pc' := 4) (l' := [some (.ref 33), some (.int (nI dr)), some (.int ((pi_lp (fun k a => a + σ 35 (5 * dr + k) * W.rt k) i (nI 0)) + ((W.rt i) * ((σ 35) (5 * dr + i))))), some (.int (nI (i + 1)))]) (st' := []) (σ' := σ) (fun f => rfl) ?_
    rw [show some (Value.int ((pi_lp (fun k a => a + σ 35 (5 * dr + k) * W.rt k) i (nI 0)) + ((W.rt i) * ((σ 35) (5 * dr + i))))) = some (Value.int (pi_lp (fun k a => a + σ 35 (5 * dr + k) * W.rt k) (i + 1) (nI 0))) from congrArg (fun z => some (Value.int z)) (congrArg (fun z => pi_lp (fun k a => a + σ 35 (5 * dr + k) * W.rt k) i (nI 0) + z) (Int32.mul_comm _ _))]
    exact ih1 
set_option maxRecDepth 20000 in
theorem pi_C_fineAt_t {xs : Nat → Int32} {L d : Nat} {W : zW} {σ : pi_S} (hc : z_CK W σ) {dr : Nat} (hd : dr < 8)  : pi_wp xs L (d + 2) 16 0 [some (.ref 37), some (.int (nI dr)), none, none] [] σ (fun v s => v = some (.int (z_fine W.rt (σ 39) dr)) ∧ σ = s) := by
  have hk := hc.p.wk
  have hnd8 := hk.wd.nd8
  have hns12 := hk.wd.ns12
  have hn60 := hk.nine
  have hnf := hk.nf
  have hnw := hk.nw
  have hnc := hk.nc
  have hn08 := hk.wd.n0
  have hn140 := hk.wd.n1
  refine pi_go 4 (pc' := 4) (l' := [some (.ref 37), some (.int (nI dr)), some (.int (nI 0)), some (.int (nI 0))]) (st' := []) (σ' := σ) (fun f => rfl) ?_
  suffices hl1 : ∀ i, i ≤ 5 → pi_wp xs L (d + 2) 16 4 [some (.ref 37), some (.int (nI dr)), some (.int (pi_lp (fun k a => a + σ 39 (5 * dr + k) * W.rt k) i (nI 0))), some (.int (nI i))] [] σ (fun v s => v = some (.int (z_fine W.rt (σ 39) dr)) ∧ σ = s) from hl1 0 (by omega) 
  refine pi_lp0 ?_ ?_
  · refine pi_ct 3 (c := nI 5 ≤ nI 5) (pc' := 37) (l' := [some (.ref 37), some (.int (nI dr)), some (.int (pi_lp (fun k a => a + σ 39 (5 * dr + k) * W.rt k) 5 (nI 0))), some (.int (nI 5))]) (st' := []) (σ' := σ) (pc2 := 9) (l2 := [some (.ref 37), some (.int (nI dr)), some (.int (pi_lp (fun k a => a + σ 39 (5 * dr + k) * W.rt k) 5 (nI 0))), some (.int (nI 5))]) (st2 := []) (σ2 := σ) (fun f => rfl) (by decide) ?_
    refine pi_rt 2 (v := some (.int (pi_lp (fun k a => a + σ 39 (5 * dr + k) * W.rt k) 5 (nI 0)))) (σ' := σ) (fun f => rfl) ?_
    exact ⟨rfl, rfl⟩
  · intro i hi1 ih1
    refine pi_cf 3 (c := nI 5 ≤ nI i) (pc' := 9) (l' := [some (.ref 37), some (.int (nI dr)), some (.int (pi_lp (fun k a => a + σ 39 (5 * dr + k) * W.rt k) i (nI 0))), some (.int (nI i))]) (st' := []) (σ' := σ) (pc2 := 37) (l2 := [some (.ref 37), some (.int (nI dr)), some (.int (pi_lp (fun k a => a + σ 39 (5 * dr + k) * W.rt k) i (nI 0))), some (.int (nI i))]) (st2 := []) (σ2 := σ) (fun f => rfl) (fun zq => absurd ((show nI 5 ≤ nI i ↔ _ from nI_leI (by omega) (by omega)).mp zq) (by omega)) ?_
    refine pi_ai 6 (u := i) (n := 5) (g := σ 13) (pc' := 19) (l' := [some (.ref 37), some (.int (nI dr)), some (.int (pi_lp (fun k a => a + σ 39 (5 * dr + k) * W.rt k) i (nI 0))), some (.int (nI i))]) (t := [.int (pi_lp (fun k a => a + σ 39 (5 * dr + k) * W.rt k) i (nI 0))]) (σ' := σ) (fun f => rfl) (by omega) (by omega) ?_
    refine pi_tp (y := W.rt i) ((hc.p.rt i (by omega))) ?_
    refine pi_ca 5 (m' := 22) (l' := [some (.ref 38), some (.int (nI dr)), some (.int (nI i))]) (σ' := σ) (pc2 := 28) (l2 := [some (.ref 37), some (.int (nI dr)), some (.int (pi_lp (fun k a => a + σ 39 (5 * dr + k) * W.rt k) i (nI 0))), some (.int (nI i))]) (t := [.int (W.rt i), .int (pi_lp (fun k a => a + σ 39 (5 * dr + k) * W.rt k) i (nI 0))]) (fun f => rfl) (pi_C_barrowsAt_t (by omega) (by omega)) ?_
    rintro _ _ ⟨rfl, rfl⟩
    refine pi_go 4 (pc' := 34) (l' := [some (.ref 37), some (.int (nI dr)), some (.int ((pi_lp (fun k a => a + σ 39 (5 * dr + k) * W.rt k) i (nI 0)) + ((W.rt i) * ((σ 39) (5 * dr + i))))), some (.int (nI i + nI 1))]) (st' := []) (σ' := σ) (fun f => rfl) ?_
    rw [show nI i + nI 1 = nI (i + 1) from nI_add _ 1]
    refine pi_go 1 (pc' := 4) (l' := [some (.ref 37), some (.int (nI dr)), some (.int ((pi_lp (fun k a => a + σ 39 (5 * dr + k) * W.rt k) i (nI 0)) + ((W.rt i) * ((σ 39) (5 * dr + i))))), some (.int (nI (i + 1)))]) (st' := []) (σ' := σ) (fun f => rfl) ?_
    rw [show some (Value.int ((pi_lp (fun k a => a + σ 39 (5 * dr + k) * W.rt k) i (nI 0)) + ((W.rt i) * ((σ 39) (5 * dr + i))))) = some (Value.int (pi_lp (fun k a => a + σ 39 (5 * dr + k) * W.rt k) (i + 1) (nI 0))) from congrArg (fun z => some (Value.int z)) (congrArg (fun z => pi_lp (fun k a => a + σ 39 (5 * dr + k) * W.rt k) i (nI 0) + z) (Int32.mul_comm _ _))]
    exact ih1 
set_option maxRecDepth 20000 in
theorem pi_C_fines_c {xs : Nat → Int32} {L d : Nat} {W : zW} {σ : pi_S} (hc : z_CK W σ)  : pi_wp xs L (d + 3) 17 0 [some (.ref 33), none, none] [] σ (fun v s => v = some (.int (z_fines W.rt (σ 35) W.nd)) ∧ σ = s) := by
  have hk := hc.p.wk
  have hnd8 := hk.wd.nd8
  have hns12 := hk.wd.ns12
  have hn60 := hk.nine
  have hnf := hk.nf
  have hnw := hk.nw
  have hnc := hk.nc
  have hn08 := hk.wd.n0
  have hn140 := hk.wd.n1
  refine pi_go 4 (pc' := 4) (l' := [some (.ref 33), some (.int (nI 0)), some (.int (nI 0))]) (st' := []) (σ' := σ) (fun f => rfl) ?_
  suffices hl1 : ∀ i, i ≤ W.nd → pi_wp xs L (d + 3) 17 4 [some (.ref 33), some (.int (pi_lp (fun d a => a + z_fine W.rt (σ 35) d) i (nI 0))), some (.int (nI i))] [] σ (fun v s => v = some (.int (z_fines W.rt (σ 35) W.nd)) ∧ σ = s) from hl1 0 (by omega) 
  refine pi_lp0 ?_ ?_
  · refine pi_go 4 (pc' := 12) (l' := [some (.ref 33), some (.int (pi_lp (fun d a => a + z_fine W.rt (σ 35) d) W.nd (nI 0))), some (.int (nI W.nd))]) (st' := [.int (σ 1 8), .int (nI W.nd)]) (σ' := σ) (fun f => rfl) ?_
    refine pi_tp (y := nI W.nd) (hc.t.d) ?_
    refine pi_ct 1 (c := nI W.nd ≤ nI W.nd) (pc' := 29) (l' := [some (.ref 33), some (.int (pi_lp (fun d a => a + z_fine W.rt (σ 35) d) W.nd (nI 0))), some (.int (nI W.nd))]) (st' := []) (σ' := σ) (pc2 := 15) (l2 := [some (.ref 33), some (.int (pi_lp (fun d a => a + z_fine W.rt (σ 35) d) W.nd (nI 0))), some (.int (nI W.nd))]) (st2 := []) (σ2 := σ) (fun f => rfl) ((show nI W.nd ≤ nI W.nd ↔ _ from nI_leI (by omega) (by omega)).mpr (by omega)) ?_
    refine pi_rt 2 (v := some (.int (pi_lp (fun d a => a + z_fine W.rt (σ 35) d) W.nd (nI 0)))) (σ' := σ) (fun f => rfl) ?_
    exact ⟨rfl, rfl⟩
  · intro i hi1 ih1
    refine pi_go 4 (pc' := 12) (l' := [some (.ref 33), some (.int (pi_lp (fun d a => a + z_fine W.rt (σ 35) d) i (nI 0))), some (.int (nI i))]) (st' := [.int (σ 1 8), .int (nI i)]) (σ' := σ) (fun f => rfl) ?_
    refine pi_tp (y := nI W.nd) (hc.t.d) ?_
    refine pi_cf 1 (c := nI W.nd ≤ nI i) (pc' := 15) (l' := [some (.ref 33), some (.int (pi_lp (fun d a => a + z_fine W.rt (σ 35) d) i (nI 0))), some (.int (nI i))]) (st' := []) (σ' := σ) (pc2 := 29) (l2 := [some (.ref 33), some (.int (pi_lp (fun d a => a + z_fine W.rt (σ 35) d) i (nI 0))), some (.int (nI i))]) (st2 := []) (σ2 := σ) (fun f => rfl) (fun zq => absurd ((show nI W.nd ≤ nI i ↔ _ from nI_leI (by omega) (by omega)).mp zq) (by omega)) ?_
    refine pi_ca 4 (m' := 16) (l' := [some (.ref 33), some (.int (nI i)), none, none]) (σ' := σ) (pc2 := 21) (l2 := [some (.ref 33), some (.int (pi_lp (fun d a => a + z_fine W.rt (σ 35) d) i (nI 0))), some (.int (nI i))]) (t := [.int (pi_lp (fun d a => a + z_fine W.rt (σ 35) d) i (nI 0))]) (fun f => rfl) (pi_C_fineAt_c hc (by omega)) ?_
    rintro _ _ ⟨rfl, rfl⟩
    refine pi_go 3 (pc' := 26) (l' := [some (.ref 33), some (.int ((pi_lp (fun d a => a + z_fine W.rt (σ 35) d) i (nI 0)) + (z_fine W.rt (σ 35) i))), some (.int (nI i + nI 1))]) (st' := []) (σ' := σ) (fun f => rfl) ?_
    rw [show nI i + nI 1 = nI (i + 1) from nI_add _ 1]
    refine pi_go 1 (pc' := 4) (l' := [some (.ref 33), some (.int ((pi_lp (fun d a => a + z_fine W.rt (σ 35) d) i (nI 0)) + (z_fine W.rt (σ 35) i))), some (.int (nI (i + 1)))]) (st' := []) (σ' := σ) (fun f => rfl) ?_
    exact ih1 
set_option maxRecDepth 20000 in
theorem pi_C_asTold_c {xs : Nat → Int32} {L d : Nat} {W : zW} {σ : pi_S} (hc : z_CK W σ)  : pi_wp xs L d 3 0 [some (.ref 33)] [] σ (fun v s => v = none ∧ s 33 5 = -1 ∧ s 33 6 = nI W.nw ∧ s 33 7 = -1 ∧ s 33 8 = -1 ∧ pi_fs 33 [5, 6, 7, 8] s σ ∧ pi_fr [33] s σ) := by
  refine pi_go 3 (pc' := 5) (l' := [some (.ref 33)]) (st' := []) (σ' := (pi_up σ 33 5 (-1))) (fun f => rfl) ?_
  generalize es1 : pi_up σ 33 5 (-1) = s1
  refine pi_go 5 (pc' := 16) (l' := [some (.ref 33)]) (st' := [.int (s1 22 5), .ref 33]) (σ' := s1) (fun f => rfl) ?_
  refine pi_tp (y := nI W.nw) ((congrFun ((congrFun es1 22).symm.trans (pi_up_ne _ _ _ (by decide))) 5).trans (hc.p.nw)) ?_
  refine pi_go 1 (pc' := 19) (l' := [some (.ref 33)]) (st' := []) (σ' := (pi_up s1 33 6 (nI W.nw))) (fun f => rfl) ?_
  generalize es2 : pi_up s1 33 6 (nI W.nw) = s2
  refine pi_go 3 (pc' := 24) (l' := [some (.ref 33)]) (st' := []) (σ' := (pi_up s2 33 7 (-1))) (fun f => rfl) ?_
  generalize es3 : pi_up s2 33 7 (-1) = s3
  refine pi_go 3 (pc' := 29) (l' := [some (.ref 33)]) (st' := []) (σ' := (pi_up s3 33 8 (-1))) (fun f => rfl) ?_
  generalize es4 : pi_up s3 33 8 (-1) = s4
  refine pi_rt 1 (v := none) (σ' := s4) (fun f => rfl) ?_
  exact ⟨rfl, (congrFun (congrFun es4 33) 5).symm.trans ((pi_up_sn _ _ _ (by decide)).trans ((congrFun (congrFun es3 33) 5).symm.trans ((pi_up_sn _ _ _ (by decide)).trans ((congrFun (congrFun es2 33) 5).symm.trans ((pi_up_sn _ _ _ (by decide)).trans ((congrFun (congrFun es1 33) 5).symm.trans (pi_up_ss _ _ _ _))))))), (congrFun (congrFun es4 33) 6).symm.trans ((pi_up_sn _ _ _ (by decide)).trans ((congrFun (congrFun es3 33) 6).symm.trans ((pi_up_sn _ _ _ (by decide)).trans ((congrFun (congrFun es2 33) 6).symm.trans (pi_up_ss _ _ _ _))))), (congrFun (congrFun es4 33) 7).symm.trans ((pi_up_sn _ _ _ (by decide)).trans ((congrFun (congrFun es3 33) 7).symm.trans (pi_up_ss _ _ _ _))), (congrFun (congrFun es4 33) 8).symm.trans (pi_up_ss _ _ _ _), pi_fs_up es4 (by decide) (pi_fs_up es3 (by decide) (pi_fs_up es2 (by decide) (pi_fs_up es1 (by decide) (pi_fs_rf)))), pi_fr_of es4 (by decide) (pi_fr_of es3 (by decide) (pi_fr_of es2 (by decide) (pi_fr_of es1 (by decide) (pi_fr_rf))))⟩
set_option maxRecDepth 20000 in
theorem pi_C_fines_t {xs : Nat → Int32} {L d : Nat} {W : zW} {σ : pi_S} (hc : z_CK W σ)  : pi_wp xs L (d + 3) 17 0 [some (.ref 37), none, none] [] σ (fun v s => v = some (.int (z_fines W.rt (σ 39) W.nd)) ∧ σ = s) := by
  have hk := hc.p.wk
  have hnd8 := hk.wd.nd8
  have hns12 := hk.wd.ns12
  have hn60 := hk.nine
  have hnf := hk.nf
  have hnw := hk.nw
  have hnc := hk.nc
  have hn08 := hk.wd.n0
  have hn140 := hk.wd.n1
  refine pi_go 4 (pc' := 4) (l' := [some (.ref 37), some (.int (nI 0)), some (.int (nI 0))]) (st' := []) (σ' := σ) (fun f => rfl) ?_
  suffices hl1 : ∀ i, i ≤ W.nd → pi_wp xs L (d + 3) 17 4 [some (.ref 37), some (.int (pi_lp (fun d a => a + z_fine W.rt (σ 39) d) i (nI 0))), some (.int (nI i))] [] σ (fun v s => v = some (.int (z_fines W.rt (σ 39) W.nd)) ∧ σ = s) from hl1 0 (by omega) 
  refine pi_lp0 ?_ ?_
  · refine pi_go 4 (pc' := 12) (l' := [some (.ref 37), some (.int (pi_lp (fun d a => a + z_fine W.rt (σ 39) d) W.nd (nI 0))), some (.int (nI W.nd))]) (st' := [.int (σ 1 8), .int (nI W.nd)]) (σ' := σ) (fun f => rfl) ?_
    refine pi_tp (y := nI W.nd) (hc.t.d) ?_
    refine pi_ct 1 (c := nI W.nd ≤ nI W.nd) (pc' := 29) (l' := [some (.ref 37), some (.int (pi_lp (fun d a => a + z_fine W.rt (σ 39) d) W.nd (nI 0))), some (.int (nI W.nd))]) (st' := []) (σ' := σ) (pc2 := 15) (l2 := [some (.ref 37), some (.int (pi_lp (fun d a => a + z_fine W.rt (σ 39) d) W.nd (nI 0))), some (.int (nI W.nd))]) (st2 := []) (σ2 := σ) (fun f => rfl) ((show nI W.nd ≤ nI W.nd ↔ _ from nI_leI (by omega) (by omega)).mpr (by omega)) ?_
    refine pi_rt 2 (v := some (.int (pi_lp (fun d a => a + z_fine W.rt (σ 39) d) W.nd (nI 0)))) (σ' := σ) (fun f => rfl) ?_
    exact ⟨rfl, rfl⟩
  · intro i hi1 ih1
    refine pi_go 4 (pc' := 12) (l' := [some (.ref 37), some (.int (pi_lp (fun d a => a + z_fine W.rt (σ 39) d) i (nI 0))), some (.int (nI i))]) (st' := [.int (σ 1 8), .int (nI i)]) (σ' := σ) (fun f => rfl) ?_
    refine pi_tp (y := nI W.nd) (hc.t.d) ?_
    refine pi_cf 1 (c := nI W.nd ≤ nI i) (pc' := 15) (l' := [some (.ref 37), some (.int (pi_lp (fun d a => a + z_fine W.rt (σ 39) d) i (nI 0))), some (.int (nI i))]) (st' := []) (σ' := σ) (pc2 := 29) (l2 := [some (.ref 37), some (.int (pi_lp (fun d a => a + z_fine W.rt (σ 39) d) i (nI 0))), some (.int (nI i))]) (st2 := []) (σ2 := σ) (fun f => rfl) (fun zq => absurd ((show nI W.nd ≤ nI i ↔ _ from nI_leI (by omega) (by omega)).mp zq) (by omega)) ?_
    refine pi_ca 4 (m' := 16) (l' := [some (.ref 37), some (.int (nI i)), none, none]) (σ' := σ) (pc2 := 21) (l2 := [some (.ref 37), some (.int (pi_lp (fun d a => a + z_fine W.rt (σ 39) d) i (nI 0))), some (.int (nI i))]) (t := [.int (pi_lp (fun d a => a + z_fine W.rt (σ 39) d) i (nI 0))]) (fun f => rfl) (pi_C_fineAt_t hc (by omega)) ?_
    rintro _ _ ⟨rfl, rfl⟩
    refine pi_go 3 (pc' := 26) (l' := [some (.ref 37), some (.int ((pi_lp (fun d a => a + z_fine W.rt (σ 39) d) i (nI 0)) + (z_fine W.rt (σ 39) i))), some (.int (nI i + nI 1))]) (st' := []) (σ' := σ) (fun f => rfl) ?_
    rw [show nI i + nI 1 = nI (i + 1) from nI_add _ 1]
    refine pi_go 1 (pc' := 4) (l' := [some (.ref 37), some (.int ((pi_lp (fun d a => a + z_fine W.rt (σ 39) d) i (nI 0)) + (z_fine W.rt (σ 39) i))), some (.int (nI (i + 1)))]) (st' := []) (σ' := σ) (fun f => rfl) ?_
    exact ih1 
set_option maxRecDepth 20000 in
theorem pi_C_asTold_t {xs : Nat → Int32} {L d : Nat} {W : zW} {σ : pi_S} (hc : z_CK W σ)  : pi_wp xs L d 3 0 [some (.ref 37)] [] σ (fun v s => v = none ∧ s 37 5 = -1 ∧ s 37 6 = nI W.nw ∧ s 37 7 = -1 ∧ s 37 8 = -1 ∧ pi_fs 37 [5, 6, 7, 8] s σ ∧ pi_fr [37] s σ) := by
  refine pi_go 3 (pc' := 5) (l' := [some (.ref 37)]) (st' := []) (σ' := (pi_up σ 37 5 (-1))) (fun f => rfl) ?_
  generalize es1 : pi_up σ 37 5 (-1) = s1
  refine pi_go 5 (pc' := 16) (l' := [some (.ref 37)]) (st' := [.int (s1 22 5), .ref 37]) (σ' := s1) (fun f => rfl) ?_
  refine pi_tp (y := nI W.nw) ((congrFun ((congrFun es1 22).symm.trans (pi_up_ne _ _ _ (by decide))) 5).trans (hc.p.nw)) ?_
  refine pi_go 1 (pc' := 19) (l' := [some (.ref 37)]) (st' := []) (σ' := (pi_up s1 37 6 (nI W.nw))) (fun f => rfl) ?_
  generalize es2 : pi_up s1 37 6 (nI W.nw) = s2
  refine pi_go 3 (pc' := 24) (l' := [some (.ref 37)]) (st' := []) (σ' := (pi_up s2 37 7 (-1))) (fun f => rfl) ?_
  generalize es3 : pi_up s2 37 7 (-1) = s3
  refine pi_go 3 (pc' := 29) (l' := [some (.ref 37)]) (st' := []) (σ' := (pi_up s3 37 8 (-1))) (fun f => rfl) ?_
  generalize es4 : pi_up s3 37 8 (-1) = s4
  refine pi_rt 1 (v := none) (σ' := s4) (fun f => rfl) ?_
  exact ⟨rfl, (congrFun (congrFun es4 37) 5).symm.trans ((pi_up_sn _ _ _ (by decide)).trans ((congrFun (congrFun es3 37) 5).symm.trans ((pi_up_sn _ _ _ (by decide)).trans ((congrFun (congrFun es2 37) 5).symm.trans ((pi_up_sn _ _ _ (by decide)).trans ((congrFun (congrFun es1 37) 5).symm.trans (pi_up_ss _ _ _ _))))))), (congrFun (congrFun es4 37) 6).symm.trans ((pi_up_sn _ _ _ (by decide)).trans ((congrFun (congrFun es3 37) 6).symm.trans ((pi_up_sn _ _ _ (by decide)).trans ((congrFun (congrFun es2 37) 6).symm.trans (pi_up_ss _ _ _ _))))), (congrFun (congrFun es4 37) 7).symm.trans ((pi_up_sn _ _ _ (by decide)).trans ((congrFun (congrFun es3 37) 7).symm.trans (pi_up_ss _ _ _ _))), (congrFun (congrFun es4 37) 8).symm.trans (pi_up_ss _ _ _ _), pi_fs_up es4 (by decide) (pi_fs_up es3 (by decide) (pi_fs_up es2 (by decide) (pi_fs_up es1 (by decide) (pi_fs_rf)))), pi_fr_of es4 (by decide) (pi_fr_of es3 (by decide) (pi_fr_of es2 (by decide) (pi_fr_of es1 (by decide) (pi_fr_rf))))⟩
set_option maxRecDepth 20000 in
theorem pi_C_supRain {xs : Nat → Int32} {L d : Nat} {σ : pi_S} (x : Int32)  : pi_wp xs L d 4 0 [some (.ref 37), some (.int x)] [] σ (fun v s => v = none ∧ s 37 5 = x ∧ pi_fs 37 [5] s σ ∧ pi_fr [37] s σ) := by
  refine pi_go 3 (pc' := 5) (l' := [some (.ref 37), some (.int x)]) (st' := []) (σ' := (pi_up σ 37 5 x)) (fun f => rfl) ?_
  generalize es1 : pi_up σ 37 5 x = s1
  refine pi_rt 1 (v := none) (σ' := s1) (fun f => rfl) ?_
  exact ⟨rfl, (congrFun (congrFun es1 37) 5).symm.trans (pi_up_ss _ _ _ _), pi_fs_up es1 (by decide) (pi_fs_rf), pi_fr_of es1 (by decide) (pi_fr_rf)⟩
set_option maxRecDepth 20000 in
theorem pi_C_supCart {xs : Nat → Int32} {L d : Nat} {σ : pi_S} (x : Int32)  : pi_wp xs L d 6 0 [some (.ref 37), some (.int x)] [] σ (fun v s => v = none ∧ s 37 7 = x ∧ pi_fs 37 [7] s σ ∧ pi_fr [37] s σ) := by
  refine pi_go 3 (pc' := 5) (l' := [some (.ref 37), some (.int x)]) (st' := []) (σ' := (pi_up σ 37 7 x)) (fun f => rfl) ?_
  generalize es1 : pi_up σ 37 7 x = s1
  refine pi_rt 1 (v := none) (σ' := s1) (fun f => rfl) ?_
  exact ⟨rfl, (congrFun (congrFun es1 37) 7).symm.trans (pi_up_ss _ _ _ _), pi_fs_up es1 (by decide) (pi_fs_rf), pi_fr_of es1 (by decide) (pi_fr_rf)⟩
set_option maxRecDepth 20000 in
theorem pi_C_supBar {xs : Nat → Int32} {L d : Nat} {σ : pi_S} (x y z : Int32)  : pi_wp xs L d 7 0 [some (.ref 37), some (.int x), some (.int y), some (.int z)] [] σ (fun v s => v = none ∧ s 37 8 = x ∧ s 37 9 = y ∧ s 37 10 = z ∧ pi_fs 37 [8, 9, 10] s σ ∧ pi_fr [37] s σ) := by
  refine pi_go 3 (pc' := 5) (l' := [some (.ref 37), some (.int x), some (.int y), some (.int z)]) (st' := []) (σ' := (pi_up σ 37 8 x)) (fun f => rfl) ?_
  generalize es1 : pi_up σ 37 8 x = s1
  refine pi_go 3 (pc' := 10) (l' := [some (.ref 37), some (.int x), some (.int y), some (.int z)]) (st' := []) (σ' := (pi_up s1 37 9 y)) (fun f => rfl) ?_
  generalize es2 : pi_up s1 37 9 y = s2
  refine pi_go 3 (pc' := 15) (l' := [some (.ref 37), some (.int x), some (.int y), some (.int z)]) (st' := []) (σ' := (pi_up s2 37 10 z)) (fun f => rfl) ?_
  generalize es3 : pi_up s2 37 10 z = s3
  refine pi_rt 1 (v := none) (σ' := s3) (fun f => rfl) ?_
  exact ⟨rfl, (congrFun (congrFun es3 37) 8).symm.trans ((pi_up_sn _ _ _ (by decide)).trans ((congrFun (congrFun es2 37) 8).symm.trans ((pi_up_sn _ _ _ (by decide)).trans ((congrFun (congrFun es1 37) 8).symm.trans (pi_up_ss _ _ _ _))))), (congrFun (congrFun es3 37) 9).symm.trans ((pi_up_sn _ _ _ (by decide)).trans ((congrFun (congrFun es2 37) 9).symm.trans (pi_up_ss _ _ _ _))), (congrFun (congrFun es3 37) 10).symm.trans (pi_up_ss _ _ _ _), pi_fs_up es3 (by decide) (pi_fs_up es2 (by decide) (pi_fs_up es1 (by decide) (pi_fs_rf))), pi_fr_of es3 (by decide) (pi_fr_of es2 (by decide) (pi_fr_of es1 (by decide) (pi_fr_rf)))⟩
set_option maxRecDepth 20000 in
theorem pi_C_supSw {xs : Nat → Int32} {L d : Nat} {W : zW} {σ : pi_S} (hc : z_CK W σ) {x : Nat} (hx : x ≤ W.nw)  : pi_wp xs L d 5 0 [some (.ref 37), some (.int (nI x))] [] σ (fun v s => v = none ∧ s 37 6 = nI x ∧ pi_fs 37 [6] s σ ∧ pi_fr [37] s σ) := by
  have hk := hc.p.wk
  have hnd8 := hk.wd.nd8
  have hns12 := hk.wd.ns12
  have hn60 := hk.nine
  have hnf := hk.nf
  have hnw := hk.nw
  have hnc := hk.nc
  have hn08 := hk.wd.n0
  have hn140 := hk.wd.n1
  refine pi_go 6 (pc' := 12) (l' := [some (.ref 37), some (.int (nI x))]) (st' := [.int (σ 22 5), .int (nI x), .ref 37]) (σ' := σ) (fun f => rfl) ?_
  refine pi_tp (y := nI W.nw) (hc.p.nw) ?_
  refine pi_go 1 (pc' := 15) (l' := [some (.ref 37), some (.int (nI x))]) (st' := [.int (if nI W.nw < nI x then nI W.nw else nI x), .ref 37]) (σ' := σ) (fun f => rfl) ?_
  refine pi_tp (y := nI x) (if_neg (fun q => absurd ((nI_ltI (by omega) (by omega)).mp q) (by omega))) ?_
  refine pi_go 1 (pc' := 18) (l' := [some (.ref 37), some (.int (nI x))]) (st' := []) (σ' := (pi_up σ 37 6 (nI x))) (fun f => rfl) ?_
  generalize es1 : pi_up σ 37 6 (nI x) = s1
  refine pi_rt 1 (v := none) (σ' := s1) (fun f => rfl) ?_
  exact ⟨rfl, (congrFun (congrFun es1 37) 6).symm.trans (pi_up_ss _ _ _ _), pi_fs_up es1 (by decide) (pi_fs_rf), pi_fr_of es1 (by decide) (pi_fr_rf)⟩
def z_TL (σ : pi_S) : Prop := (∀ k, 40 ≤ k → σ 35 k = nI 0) ∧ (∀ k, 40 ≤ k → σ 36 k = nI 0) ∧ (∀ k, 40 ≤ k → σ 39 k = nI 0) ∧ ∀ k, 40 ≤ k → σ 40 k = nI 0
theorem z_CR.tl {W : zW} {σ : pi_S} (h : z_CR W σ) : z_TL σ := by
  have hz := z_R_tail h.k.p.wk (-1) (-1) 0 (fun _ => 0) (W.nine + 1)
  exact ⟨fun k hk => (congrFun h.b k).trans (hz.1 k hk), fun k hk => (congrFun h.y k).trans (hz.2 k hk), h.jc, h.jd⟩
set_option maxRecDepth 20000 in
theorem pi_C_settled {xs : Nat → Int32} {L d : Nat} {W : zW} {σ : pi_S} (hc : z_CK W σ) (hL : z_TL σ) (x : Int32)  : pi_wp xs L (d + 5) 97 0 [some (.ref 0), some (.int x)] [] σ (fun v s => v = some (.int x) ∧ z_CR W s ∧ pi_fr [33, 35, 36] s σ) := by
  have hk := hc.p.wk
  have hnd8 := hk.wd.nd8
  have hns12 := hk.wd.ns12
  have hn60 := hk.nine
  have hnf := hk.nf
  have hnw := hk.nw
  have hnc := hk.nc
  have hn08 := hk.wd.n0
  have hn140 := hk.wd.n1
  refine pi_ca 3 (m' := 3) (l' := [some (.ref 33)]) (σ' := σ) (pc2 := 7) (l2 := [some (.ref 0), some (.int x)]) (t := []) (fun f => rfl) (pi_C_asTold_c hc) ?_
  rintro _ t1 ⟨rfl, gt1_5, gt1_6, gt1_7, gt1_8, kt1, rt1⟩
  refine pi_go 5 (pc' := 18) (l' := [some (.ref 0), some (.int x)]) (st' := [.int (t1 12 3), .ref 33]) (σ' := t1) (fun f => rfl) ?_
  refine pi_tp (y := nI W.nine) ((congrFun (rt1 12 (by decide)) 3).trans (hc.p.nine)) ?_
  refine pi_ca 1 (m' := 8) (l' := [some (.ref 33), some (.int (nI W.nine)), none]) (σ' := t1) (pc2 := 21) (l2 := [some (.ref 0), some (.int x)]) (t := []) (fun f => rfl) (pi_C_run_c (z_CK.of hc (pi_fr_tr rt1 (by decide) (pi_fr_rf))) (la := W.nine) (kw := W.nw) (by omega) (gt1_5) (gt1_6) (by omega) (gt1_7) (md := 0) (mk := 0) (gt1_8) (by omega) (by omega) (fun m hm q => absurd q (z_nIm m (by omega))) (fun k hk1 => (congrFun ((rt1 35 (by decide)).trans (rfl)) k).trans (hL.1 k hk1)) (fun k hk1 => (congrFun ((rt1 36 (by decide)).trans (rfl)) k).trans (hL.2.1 k hk1))) ?_
  rintro _ t2 ⟨rfl, gt2_1, gt2_2, gt2_3, kt2, rt2⟩
  refine pi_rt 2 (v := some (.int x)) (σ' := t2) (fun f => rfl) ?_
  have hfr : pi_fr [33, 35, 36] t2 σ := pi_fr_tr rt2 (by decide) (pi_fr_tr rt1 (by decide) (pi_fr_rf))
  exact ⟨rfl, z_CR.mk (hc.of (pi_fr_tr hfr (by decide) pi_fr_rf)) ((gt2_1).trans (congrArg (fun z => z.1.1) (z_Rc_A W (-1) 0 0 (fun _ => 0) (W.nine + 1) (by omega)))) ((gt2_2).trans (congrArg (fun z => z.1.2) (z_Rc_A W (-1) 0 0 (fun _ => 0) (W.nine + 1) (by omega)))) ((gt2_3).trans (congrArg (fun z => z.2) (z_Rc_A W (-1) 0 0 (fun _ => 0) (W.nine + 1) (by omega)))) (fun k hk1 => (congrFun (hfr 39 (by decide)) k).trans (hL.2.2.1 k hk1)) (fun k hk1 => (congrFun (hfr 40 (by decide)) k).trans (hL.2.2.2 k hk1)), hfr⟩
set_option maxRecDepth 20000 in
theorem pi_C_toNine {xs : Nat → Int32} {L d : Nat} {W : zW} {σ : pi_S} (hc : z_CK W σ) {a : Int32}  : pi_wp xs L d 95 0 [some (.ref 0), some (.int a)] [] σ (fun v s => (z_B (W.nine + 1) a ∧ v = some (.int (nI 1)) ∧ σ = s) ∨ (¬ z_B (W.nine + 1) a ∧ v = some (.int (nI 0)) ∧ σ = s)) := by
  have hk := hc.p.wk
  have hnd8 := hk.wd.nd8
  have hns12 := hk.wd.ns12
  have hn60 := hk.nine
  have hnf := hk.nf
  have hnw := hk.nw
  have hnc := hk.nc
  have hn08 := hk.wd.n0
  have hn140 := hk.wd.n1
  refine pi_if 2 (c := a < 0) (pc' := 19) (l' := [some (.ref 0), some (.int a)]) (st' := []) (σ' := σ) (pc2 := 4) (l2 := [some (.ref 0), some (.int a)]) (st2 := []) (σ2 := σ) (fun f => rfl) (fun h1 => ?_) (fun h1 => ?_)
  · refine pi_rb 2 (c := (nI 0) &&& 1 = nI 0) (v := some (.int (nI 0))) (σ' := σ) (fun f => rfl) (by decide) ?_
    exact Or.inr ⟨fun q => Int32.not_lt.mpr ((z_B_in (by omega)).mpr q).1 h1, rfl, rfl⟩
  · refine pi_go 4 (pc' := 12) (l' := [some (.ref 0), some (.int a)]) (st' := [.int (σ 12 3), .int a]) (σ' := σ) (fun f => rfl) ?_
    refine pi_tp (y := nI W.nine) (hc.p.nine) ?_
    refine pi_if 1 (c := nI W.nine < a) (pc' := 19) (l' := [some (.ref 0), some (.int a)]) (st' := []) (σ' := σ) (pc2 := 15) (l2 := [some (.ref 0), some (.int a)]) (st2 := []) (σ2 := σ) (fun f => rfl) (fun h2 => ?_) (fun h2 => ?_)
    · refine pi_rb 2 (c := (nI 0) &&& 1 = nI 0) (v := some (.int (nI 0))) (σ' := σ) (fun f => rfl) (by decide) ?_
      exact Or.inr ⟨fun q => Int32.not_lt.mpr ((z_B_in (by omega)).mpr q).2 h2, rfl, rfl⟩
    · refine pi_rb 3 (c := (nI 1) &&& 1 = nI 1) (v := some (.int (nI 1))) (σ' := σ) (fun f => rfl) (by decide) ?_
      exact Or.inl ⟨(z_B_in (by omega)).mp ⟨Int32.not_lt.mp h1, Int32.not_lt.mp h2⟩, rfl, rfl⟩
theorem pi_C_toNineT {xs : Nat → Int32} {L d : Nat} {W : zW} {σ : pi_S} (hc : z_CK W σ) {a : Nat} (h : a ≤ W.nine) : pi_wp xs L d 95 0 [some (.ref 0), some (.int (nI a))] [] σ (fun v s => v = some (.int (nI 1)) ∧ σ = s) :=
  pi_mo (fun v s q => q.elim (fun q => q.2) (fun q => absurd ⟨a, by omega, rfl⟩ q.1)) (pi_C_toNine hc)
theorem z_RcA1 (W : zW) (n : Nat) (h : n < 2 ^ 31) : z_Rc W (-1) W.nw (-1) (-1) 0 0 n = (z_R W (-1) (-1) 0 (fun _ => 0) n).1 := z_Rc_A W (-1) 0 0 (fun _ => 0) n h
set_option maxRecDepth 20000 in
theorem pi_C_behind_c {xs : Nat → Int32} {L d : Nat} {W : zW} {σ : pi_S} (hc : z_CK W σ)  : pi_wp xs L (d + 5) 98 0 [some (.ref 0), some (.int (nI W.nine))] [] σ (fun v s => v = some (.ref 33) ∧ σ = s) := by
  have hk := hc.p.wk
  have hnd8 := hk.wd.nd8
  have hns12 := hk.wd.ns12
  have hn60 := hk.nine
  have hnf := hk.nf
  have hnw := hk.nw
  have hnc := hk.nc
  have hn08 := hk.wd.n0
  have hn140 := hk.wd.n1
  refine pi_go 4 (pc' := 8) (l' := [some (.ref 0), some (.int (nI W.nine))]) (st' := [.int (σ 12 3), .int (nI W.nine)]) (σ' := σ) (fun f => rfl) ?_
  refine pi_tp (y := nI W.nine) (hc.p.nine) ?_
  refine pi_cf 1 (c := nI W.nine < nI W.nine) (pc' := 11) (l' := [some (.ref 0), some (.int (nI W.nine))]) (st' := []) (σ' := σ) (pc2 := 16) (l2 := [some (.ref 0), some (.int (nI W.nine))]) (st2 := []) (σ2 := σ) (fun f => rfl) (fun zq => absurd ((show nI W.nine < nI W.nine ↔ _ from nI_ltI (by omega) (by omega)).mp zq) (by omega)) ?_
  refine pi_rt 3 (v := some (.ref 33)) (σ' := σ) (fun f => rfl) ?_
  exact ⟨rfl, rfl⟩
set_option maxRecDepth 20000 in
theorem pi_C_behind_t {xs : Nat → Int32} {L d : Nat} {W : zW} {σ : pi_S} (hR : z_CR W σ) {mi : Nat} (hmi : mi < W.nine)  : pi_wp xs L (d + 5) 98 0 [some (.ref 0), some (.int (nI mi))] [] σ (fun v s => v = some (.ref 37) ∧ s 39 = (z_R W (-1) (-1) 0 (fun _ => 0) (mi + 1)).1.1.1 ∧ s 40 = (z_R W (-1) (-1) 0 (fun _ => 0) (mi + 1)).1.1.2 ∧ z_CR W s ∧ pi_fr z_CJ s σ) := by
  have hk := hR.k.p.wk
  have hnd8 := hk.wd.nd8
  have hns12 := hk.wd.ns12
  have hn60 := hk.nine
  have hnf := hk.nf
  have hnw := hk.nw
  have hnc := hk.nc
  have hn08 := hk.wd.n0
  have hn140 := hk.wd.n1
  refine pi_go 4 (pc' := 8) (l' := [some (.ref 0), some (.int (nI mi))]) (st' := [.int (σ 12 3), .int (nI mi)]) (σ' := σ) (fun f => rfl) ?_
  refine pi_tp (y := nI W.nine) (hR.k.p.nine) ?_
  refine pi_ct 1 (c := nI mi < nI W.nine) (pc' := 16) (l' := [some (.ref 0), some (.int (nI mi))]) (st' := []) (σ' := σ) (pc2 := 11) (l2 := [some (.ref 0), some (.int (nI mi))]) (st2 := []) (σ2 := σ) (fun f => rfl) ((nI_ltI (by omega) (by omega)).mpr hmi) ?_
  refine pi_ca 3 (m' := 3) (l' := [some (.ref 37)]) (σ' := σ) (pc2 := 23) (l2 := [some (.ref 0), some (.int (nI mi))]) (t := []) (fun f => rfl) (pi_C_asTold_t hR.k) ?_
  rintro _ t1 ⟨rfl, gt1_5, gt1_6, gt1_7, gt1_8, kt1, rt1⟩
  refine pi_ca 4 (m' := 8) (l' := [some (.ref 37), some (.int (nI mi)), none]) (σ' := t1) (pc2 := 31) (l2 := [some (.ref 0), some (.int (nI mi))]) (t := []) (fun f => rfl) (pi_C_run_t (z_CK.of hR.k (pi_fr_tr rt1 (by decide) (pi_fr_rf))) (la := mi) (kw := W.nw) (by omega) (gt1_5) (gt1_6) (by omega) (gt1_7) (md := 0) (mk := 0) (gt1_8) (by omega) (by omega) (fun m hm q => absurd q (z_nIm m (by omega))) (fun k hk1 => (congrFun (rt1 39 (by decide)) k).trans ((hR.jc) k hk1)) (fun k hk1 => (congrFun (rt1 40 (by decide)) k).trans ((hR.jd) k hk1))) ?_
  rintro _ t2 ⟨rfl, gt2_1, gt2_2, gt2_3, kt2, rt2⟩
  refine pi_rt 3 (v := some (.ref 37)) (σ' := t2) (fun f => rfl) ?_
  exact ⟨rfl, (gt2_1).trans (congrArg (fun z => z.1.1) (z_RcA1 W (mi + 1) (by omega))), (gt2_2).trans (congrArg (fun z => z.1.2) (z_RcA1 W (mi + 1) (by omega))), (hR.of (pi_fr_tr rt2 (by decide) (pi_fr_tr rt1 (by decide) (pi_fr_rf))) (fun k hk1 => (congrFun (gt2_1) k).trans ((z_Rc_tail hk (by omega) (by omega) (by omega) _).1 k hk1)) (fun k hk1 => (congrFun (gt2_2) k).trans ((z_Rc_tail hk (by omega) (by omega) (by omega) _).2 k hk1))), pi_fr_tr rt2 (by decide) (pi_fr_tr rt1 (by decide) (pi_fr_rf))⟩
theorem z_mean_c (W : zW) (x but : Int32) : nI 0 + z_wf W (nI 0) but * (nI 16 - x) + z_wf W (nI 1) but * x = z_mean W x but := by
  rw [z_mean, Int32.mul_comm (z_wf W (nI 0) but), Int32.mul_comm (z_wf W (nI 1) but), show nI 0 = (0 : Int32) from rfl, Int32.zero_add, Int32.add_comm]
theorem z_wfA (W : zW) (h : W.nine < 60) (r : Int32) : z_fines W.rt (z_Rc W r W.nw (-1) (-1) 0 0 (W.nine + 1)).1.1 W.nd = z_wf W r (-1) := by
  rw [z_Rc_A W r 0 0 (fun _ => 0) (W.nine + 1) (by omega)]; rfl
theorem z_wfB (W : zW) (h : W.nine < 60) (h0 : ¬ W.nw = 0) (hw : W.nw ≤ 24) (r : Int32) : z_fines W.rt (z_Rc W r (W.nw - 1) (-1) (-1) 0 0 (W.nine + 1)).1.1 W.nd = z_wf W r (nI W.nw - nI 1) := by
  rw [z_Rc_B W r 0 0 (fun _ => 0) h0 hw (W.nine + 1) (by omega)]; rfl
set_option maxRecDepth 20000 in
theorem pi_C_meanA {xs : Nat → Int32} {L d : Nat} {W : zW} {σ : pi_S} (hR : z_CR W σ) (x : Int32)   : pi_wp xs L (d + 5) 99 0 [some (.ref 0), some (.int x), some (.int (nI W.nw)), none, none] [] σ (fun v s => v = some (.int (z_mean W x (-1))) ∧ z_CR W s ∧ pi_fr z_CJ s σ) := by
  have hk := hR.k.p.wk
  have hnd8 := hk.wd.nd8
  have hns12 := hk.wd.ns12
  have hn60 := hk.nine
  have hnf := hk.nf
  have hnw := hk.nw
  have hnc := hk.nc
  have hn08 := hk.wd.n0
  have hn140 := hk.wd.n1
  refine pi_cf 7 (c := nI 1 < nI 0) (pc' := 11) (l' := [some (.ref 0), some (.int x), some (.int (nI W.nw)), some (.int (nI 0)), some (.int (nI 0))]) (st' := []) (σ' := σ) (pc2 := 80) (l2 := [some (.ref 0), some (.int x), some (.int (nI W.nw)), some (.int (nI 0)), some (.int (nI 0))]) (st2 := []) (σ2 := σ) (fun f => rfl) (by decide) ?_
  refine pi_ca 3 (m' := 3) (l' := [some (.ref 37)]) (σ' := σ) (pc2 := 18) (l2 := [some (.ref 0), some (.int x), some (.int (nI W.nw)), some (.int (nI 0)), some (.int (nI 0))]) (t := []) (fun f => rfl) (pi_C_asTold_t hR.k) ?_
  rintro _ t1 ⟨rfl, gt1_5, gt1_6, gt1_7, gt1_8, kt1, rt1⟩
  refine pi_ca 4 (m' := 4) (l' := [some (.ref 37), some (.int (nI 0))]) (σ' := t1) (pc2 := 27) (l2 := [some (.ref 0), some (.int x), some (.int (nI W.nw)), some (.int (nI 0)), some (.int (nI 0))]) (t := []) (fun f => rfl) (pi_C_supRain (nI 0)) ?_
  rintro _ t2 ⟨rfl, gt2_5, kt2, rt2⟩
  refine pi_ca 4 (m' := 5) (l' := [some (.ref 37), some (.int (nI W.nw))]) (σ' := t2) (pc2 := 35) (l2 := [some (.ref 0), some (.int x), some (.int (nI W.nw)), some (.int (nI 0)), some (.int (nI 0))]) (t := []) (fun f => rfl) (pi_C_supSw (z_CK.of hR.k (pi_fr_tr rt2 (by decide) (pi_fr_tr rt1 (by decide) (pi_fr_rf)))) (x := W.nw) (by omega)) ?_
  rintro _ t3 ⟨rfl, gt3_6, kt3, rt3⟩
  refine pi_go 5 (pc' := 46) (l' := [some (.ref 0), some (.int x), some (.int (nI W.nw)), some (.int (nI 0)), some (.int (nI 0))]) (st' := [.int (t3 12 3), .ref 37]) (σ' := t3) (fun f => rfl) ?_
  refine pi_tp (y := nI W.nine) ((congrFun (rt3 12 (by decide)) 3).trans ((congrFun (rt2 12 (by decide)) 3).trans ((congrFun (rt1 12 (by decide)) 3).trans (hR.k.p.nine)))) ?_
  refine pi_ca 1 (m' := 8) (l' := [some (.ref 37), some (.int (nI W.nine)), none]) (σ' := t3) (pc2 := 49) (l2 := [some (.ref 0), some (.int x), some (.int (nI W.nw)), some (.int (nI 0)), some (.int (nI 0))]) (t := []) (fun f => rfl) (pi_C_run_t (z_CK.of hR.k (pi_fr_tr rt3 (by decide) (pi_fr_tr rt2 (by decide) (pi_fr_tr rt1 (by decide) (pi_fr_rf))))) (la := W.nine) (kw := W.nw) (by omega) ((kt3 5 (by decide)).trans (gt2_5)) (gt3_6) (by omega) ((kt3 7 (by decide)).trans ((kt2 7 (by decide)).trans (gt1_7))) (md := 0) (mk := 0) ((kt3 8 (by decide)).trans ((kt2 8 (by decide)).trans (gt1_8))) (by omega) (by omega) (fun m hm q => absurd q (z_nIm m (by omega))) (fun k hk1 => (congrFun (rt3 39 (by decide)) k).trans ((fun k hk1 => (congrFun (rt2 39 (by decide)) k).trans ((fun k hk1 => (congrFun (rt1 39 (by decide)) k).trans ((hR.jc) k hk1)) k hk1)) k hk1)) (fun k hk1 => (congrFun (rt3 40 (by decide)) k).trans ((fun k hk1 => (congrFun (rt2 40 (by decide)) k).trans ((fun k hk1 => (congrFun (rt1 40 (by decide)) k).trans ((hR.jd) k hk1)) k hk1)) k hk1))) ?_
  rintro _ t4 ⟨rfl, gt4_1, gt4_2, gt4_3, kt4, rt4⟩
  refine pi_ca 4 (m' := 17) (l' := [some (.ref 37), none, none]) (σ' := t4) (pc2 := 57) (l2 := [some (.ref 0), some (.int x), some (.int (nI W.nw)), some (.int (nI 0)), some (.int (nI 0))]) (t := [.int (nI 0)]) (fun f => rfl) (pi_C_fines_t (z_CK.of hR.k (pi_fr_tr rt4 (by decide) (pi_fr_tr rt3 (by decide) (pi_fr_tr rt2 (by decide) (pi_fr_tr rt1 (by decide) (pi_fr_rf))))))) ?_
  rintro _ _ ⟨rfl, rfl⟩
  refine pi_tp (y := z_fines W.rt ((z_Rc W (nI 0) W.nw (-1) (-1) 0 0 (W.nine + 1)).1.1) W.nd) (z_fines_c rfl (gt4_1) _) ?_
  refine pi_cf 3 (c := nI 0 = nI 1) (pc' := 67) (l' := [some (.ref 0), some (.int x), some (.int (nI W.nw)), some (.int (nI 0)), some (.int (nI 0))]) (st' := [.int (z_fines W.rt ((z_Rc W (nI 0) W.nw (-1) (-1) 0 0 (W.nine + 1)).1.1) W.nd), .int (nI 0)]) (σ' := t4) (pc2 := 63) (l2 := [some (.ref 0), some (.int x), some (.int (nI W.nw)), some (.int (nI 0)), some (.int (nI 0))]) (st2 := [.int (z_fines W.rt ((z_Rc W (nI 0) W.nw (-1) (-1) 0 0 (W.nine + 1)).1.1) W.nd), .int (nI 0)]) (σ2 := t4) (fun f => rfl) (by decide) ?_
  refine pi_cf 11 (c := nI 1 < nI 1) (pc' := 11) (l' := [some (.ref 0), some (.int x), some (.int (nI W.nw)), some (.int ((nI 0) + ((z_fines W.rt ((z_Rc W (nI 0) W.nw (-1) (-1) 0 0 (W.nine + 1)).1.1) W.nd) * ((nI 16) - x)))), some (.int (nI 1))]) (st' := []) (σ' := t4) (pc2 := 80) (l2 := [some (.ref 0), some (.int x), some (.int (nI W.nw)), some (.int ((nI 0) + ((z_fines W.rt ((z_Rc W (nI 0) W.nw (-1) (-1) 0 0 (W.nine + 1)).1.1) W.nd) * ((nI 16) - x)))), some (.int (nI 1))]) (st2 := []) (σ2 := t4) (fun f => rfl) (by decide) ?_
  refine pi_ca 3 (m' := 3) (l' := [some (.ref 37)]) (σ' := t4) (pc2 := 18) (l2 := [some (.ref 0), some (.int x), some (.int (nI W.nw)), some (.int ((nI 0) + ((z_fines W.rt ((z_Rc W (nI 0) W.nw (-1) (-1) 0 0 (W.nine + 1)).1.1) W.nd) * ((nI 16) - x)))), some (.int (nI 1))]) (t := []) (fun f => rfl) (pi_C_asTold_t (z_CK.of hR.k (pi_fr_tr rt4 (by decide) (pi_fr_tr rt3 (by decide) (pi_fr_tr rt2 (by decide) (pi_fr_tr rt1 (by decide) (pi_fr_rf))))))) ?_
  rintro _ t5 ⟨rfl, gt5_5, gt5_6, gt5_7, gt5_8, kt5, rt5⟩
  refine pi_ca 4 (m' := 4) (l' := [some (.ref 37), some (.int (nI 1))]) (σ' := t5) (pc2 := 27) (l2 := [some (.ref 0), some (.int x), some (.int (nI W.nw)), some (.int ((nI 0) + ((z_fines W.rt ((z_Rc W (nI 0) W.nw (-1) (-1) 0 0 (W.nine + 1)).1.1) W.nd) * ((nI 16) - x)))), some (.int (nI 1))]) (t := []) (fun f => rfl) (pi_C_supRain (nI 1)) ?_
  rintro _ t6 ⟨rfl, gt6_5, kt6, rt6⟩
  refine pi_ca 4 (m' := 5) (l' := [some (.ref 37), some (.int (nI W.nw))]) (σ' := t6) (pc2 := 35) (l2 := [some (.ref 0), some (.int x), some (.int (nI W.nw)), some (.int ((nI 0) + ((z_fines W.rt ((z_Rc W (nI 0) W.nw (-1) (-1) 0 0 (W.nine + 1)).1.1) W.nd) * ((nI 16) - x)))), some (.int (nI 1))]) (t := []) (fun f => rfl) (pi_C_supSw (z_CK.of hR.k (pi_fr_tr rt6 (by decide) (pi_fr_tr rt5 (by decide) (pi_fr_tr rt4 (by decide) (pi_fr_tr rt3 (by decide) (pi_fr_tr rt2 (by decide) (pi_fr_tr rt1 (by decide) (pi_fr_rf)))))))) (x := W.nw) (by omega)) ?_
  rintro _ t7 ⟨rfl, gt7_6, kt7, rt7⟩
  refine pi_go 5 (pc' := 46) (l' := [some (.ref 0), some (.int x), some (.int (nI W.nw)), some (.int ((nI 0) + ((z_fines W.rt ((z_Rc W (nI 0) W.nw (-1) (-1) 0 0 (W.nine + 1)).1.1) W.nd) * ((nI 16) - x)))), some (.int (nI 1))]) (st' := [.int (t7 12 3), .ref 37]) (σ' := t7) (fun f => rfl) ?_
  refine pi_tp (y := nI W.nine) ((congrFun (rt7 12 (by decide)) 3).trans ((congrFun (rt6 12 (by decide)) 3).trans ((congrFun (rt5 12 (by decide)) 3).trans ((congrFun (rt4 12 (by decide)) 3).trans ((congrFun (rt3 12 (by decide)) 3).trans ((congrFun (rt2 12 (by decide)) 3).trans ((congrFun (rt1 12 (by decide)) 3).trans (hR.k.p.nine)))))))) ?_
  refine pi_ca 1 (m' := 8) (l' := [some (.ref 37), some (.int (nI W.nine)), none]) (σ' := t7) (pc2 := 49) (l2 := [some (.ref 0), some (.int x), some (.int (nI W.nw)), some (.int ((nI 0) + ((z_fines W.rt ((z_Rc W (nI 0) W.nw (-1) (-1) 0 0 (W.nine + 1)).1.1) W.nd) * ((nI 16) - x)))), some (.int (nI 1))]) (t := []) (fun f => rfl) (pi_C_run_t (z_CK.of hR.k (pi_fr_tr rt7 (by decide) (pi_fr_tr rt6 (by decide) (pi_fr_tr rt5 (by decide) (pi_fr_tr rt4 (by decide) (pi_fr_tr rt3 (by decide) (pi_fr_tr rt2 (by decide) (pi_fr_tr rt1 (by decide) (pi_fr_rf))))))))) (la := W.nine) (kw := W.nw) (by omega) ((kt7 5 (by decide)).trans (gt6_5)) (gt7_6) (by omega) ((kt7 7 (by decide)).trans ((kt6 7 (by decide)).trans (gt5_7))) (md := 0) (mk := 0) ((kt7 8 (by decide)).trans ((kt6 8 (by decide)).trans (gt5_8))) (by omega) (by omega) (fun m hm q => absurd q (z_nIm m (by omega))) (fun k hk1 => (congrFun (rt7 39 (by decide)) k).trans ((fun k hk1 => (congrFun (rt6 39 (by decide)) k).trans ((fun k hk1 => (congrFun (rt5 39 (by decide)) k).trans ((fun k hk1 => (congrFun (gt4_1) k).trans ((z_Rc_tail hk (by omega) (by omega) (by omega) _).1 k hk1)) k hk1)) k hk1)) k hk1)) (fun k hk1 => (congrFun (rt7 40 (by decide)) k).trans ((fun k hk1 => (congrFun (rt6 40 (by decide)) k).trans ((fun k hk1 => (congrFun (rt5 40 (by decide)) k).trans ((fun k hk1 => (congrFun (gt4_2) k).trans ((z_Rc_tail hk (by omega) (by omega) (by omega) _).2 k hk1)) k hk1)) k hk1)) k hk1))) ?_
  rintro _ t8 ⟨rfl, gt8_1, gt8_2, gt8_3, kt8, rt8⟩
  refine pi_ca 4 (m' := 17) (l' := [some (.ref 37), none, none]) (σ' := t8) (pc2 := 57) (l2 := [some (.ref 0), some (.int x), some (.int (nI W.nw)), some (.int ((nI 0) + ((z_fines W.rt ((z_Rc W (nI 0) W.nw (-1) (-1) 0 0 (W.nine + 1)).1.1) W.nd) * ((nI 16) - x)))), some (.int (nI 1))]) (t := [.int ((nI 0) + ((z_fines W.rt ((z_Rc W (nI 0) W.nw (-1) (-1) 0 0 (W.nine + 1)).1.1) W.nd) * ((nI 16) - x)))]) (fun f => rfl) (pi_C_fines_t (z_CK.of hR.k (pi_fr_tr rt8 (by decide) (pi_fr_tr rt7 (by decide) (pi_fr_tr rt6 (by decide) (pi_fr_tr rt5 (by decide) (pi_fr_tr rt4 (by decide) (pi_fr_tr rt3 (by decide) (pi_fr_tr rt2 (by decide) (pi_fr_tr rt1 (by decide) (pi_fr_rf))))))))))) ?_
  rintro _ _ ⟨rfl, rfl⟩
  refine pi_tp (y := z_fines W.rt ((z_Rc W (nI 1) W.nw (-1) (-1) 0 0 (W.nine + 1)).1.1) W.nd) (z_fines_c rfl (gt8_1) _) ?_
  refine pi_ct 3 (c := nI 1 = nI 1) (pc' := 63) (l' := [some (.ref 0), some (.int x), some (.int (nI W.nw)), some (.int ((nI 0) + ((z_fines W.rt ((z_Rc W (nI 0) W.nw (-1) (-1) 0 0 (W.nine + 1)).1.1) W.nd) * ((nI 16) - x)))), some (.int (nI 1))]) (st' := [.int (z_fines W.rt ((z_Rc W (nI 1) W.nw (-1) (-1) 0 0 (W.nine + 1)).1.1) W.nd), .int ((nI 0) + ((z_fines W.rt ((z_Rc W (nI 0) W.nw (-1) (-1) 0 0 (W.nine + 1)).1.1) W.nd) * ((nI 16) - x)))]) (σ' := t8) (pc2 := 67) (l2 := [some (.ref 0), some (.int x), some (.int (nI W.nw)), some (.int ((nI 0) + ((z_fines W.rt ((z_Rc W (nI 0) W.nw (-1) (-1) 0 0 (W.nine + 1)).1.1) W.nd) * ((nI 16) - x)))), some (.int (nI 1))]) (st2 := [.int (z_fines W.rt ((z_Rc W (nI 1) W.nw (-1) (-1) 0 0 (W.nine + 1)).1.1) W.nd), .int ((nI 0) + ((z_fines W.rt ((z_Rc W (nI 0) W.nw (-1) (-1) 0 0 (W.nine + 1)).1.1) W.nd) * ((nI 16) - x)))]) (σ2 := t8) (fun f => rfl) (by decide) ?_
  refine pi_ct 10 (c := nI 1 < nI 2) (pc' := 80) (l' := [some (.ref 0), some (.int x), some (.int (nI W.nw)), some (.int (((nI 0) + ((z_fines W.rt ((z_Rc W (nI 0) W.nw (-1) (-1) 0 0 (W.nine + 1)).1.1) W.nd) * ((nI 16) - x))) + ((z_fines W.rt ((z_Rc W (nI 1) W.nw (-1) (-1) 0 0 (W.nine + 1)).1.1) W.nd) * x))), some (.int (nI 2))]) (st' := []) (σ' := t8) (pc2 := 11) (l2 := [some (.ref 0), some (.int x), some (.int (nI W.nw)), some (.int (((nI 0) + ((z_fines W.rt ((z_Rc W (nI 0) W.nw (-1) (-1) 0 0 (W.nine + 1)).1.1) W.nd) * ((nI 16) - x))) + ((z_fines W.rt ((z_Rc W (nI 1) W.nw (-1) (-1) 0 0 (W.nine + 1)).1.1) W.nd) * x))), some (.int (nI 2))]) (st2 := []) (σ2 := t8) (fun f => rfl) (by decide) ?_
  refine pi_rt 2 (v := some (.int (((nI 0) + ((z_fines W.rt ((z_Rc W (nI 0) W.nw (-1) (-1) 0 0 (W.nine + 1)).1.1) W.nd) * ((nI 16) - x))) + ((z_fines W.rt ((z_Rc W (nI 1) W.nw (-1) (-1) 0 0 (W.nine + 1)).1.1) W.nd) * x)))) (σ' := t8) (fun f => rfl) ?_
  exact ⟨congrArg (fun z => some (Value.int z)) (show ((nI 0) + ((z_fines W.rt ((z_Rc W (nI 0) W.nw (-1) (-1) 0 0 (W.nine + 1)).1.1) W.nd) * ((nI 16) - x))) + ((z_fines W.rt ((z_Rc W (nI 1) W.nw (-1) (-1) 0 0 (W.nine + 1)).1.1) W.nd) * x) = z_mean W x (-1) from by rw [z_wfA W hn60 (nI 0), z_wfA W hn60 (nI 1)]; exact z_mean_c W x _), (hR.of (pi_fr_tr rt8 (by decide) (pi_fr_tr rt7 (by decide) (pi_fr_tr rt6 (by decide) (pi_fr_tr rt5 (by decide) (pi_fr_tr rt4 (by decide) (pi_fr_tr rt3 (by decide) (pi_fr_tr rt2 (by decide) (pi_fr_tr rt1 (by decide) (pi_fr_rf))))))))) (fun k hk1 => (congrFun (gt8_1) k).trans ((z_Rc_tail hk (by omega) (by omega) (by omega) _).1 k hk1)) (fun k hk1 => (congrFun (gt8_2) k).trans ((z_Rc_tail hk (by omega) (by omega) (by omega) _).2 k hk1))), pi_fr_tr rt8 (by decide) (pi_fr_tr rt7 (by decide) (pi_fr_tr rt6 (by decide) (pi_fr_tr rt5 (by decide) (pi_fr_tr rt4 (by decide) (pi_fr_tr rt3 (by decide) (pi_fr_tr rt2 (by decide) (pi_fr_tr rt1 (by decide) (pi_fr_rf))))))))⟩
set_option maxRecDepth 20000 in
theorem pi_C_meanB {xs : Nat → Int32} {L d : Nat} {W : zW} {σ : pi_S} (hR : z_CR W σ) (x : Int32) (h0 : ¬ W.nw = 0)  : pi_wp xs L (d + 5) 99 0 [some (.ref 0), some (.int x), some (.int (nI (W.nw - 1))), none, none] [] σ (fun v s => v = some (.int (z_mean W x (nI W.nw - nI 1))) ∧ z_CR W s ∧ pi_fr z_CJ s σ) := by
  have hk := hR.k.p.wk
  have hnd8 := hk.wd.nd8
  have hns12 := hk.wd.ns12
  have hn60 := hk.nine
  have hnf := hk.nf
  have hnw := hk.nw
  have hnc := hk.nc
  have hn08 := hk.wd.n0
  have hn140 := hk.wd.n1
  refine pi_cf 7 (c := nI 1 < nI 0) (pc' := 11) (l' := [some (.ref 0), some (.int x), some (.int (nI (W.nw - 1))), some (.int (nI 0)), some (.int (nI 0))]) (st' := []) (σ' := σ) (pc2 := 80) (l2 := [some (.ref 0), some (.int x), some (.int (nI (W.nw - 1))), some (.int (nI 0)), some (.int (nI 0))]) (st2 := []) (σ2 := σ) (fun f => rfl) (by decide) ?_
  refine pi_ca 3 (m' := 3) (l' := [some (.ref 37)]) (σ' := σ) (pc2 := 18) (l2 := [some (.ref 0), some (.int x), some (.int (nI (W.nw - 1))), some (.int (nI 0)), some (.int (nI 0))]) (t := []) (fun f => rfl) (pi_C_asTold_t hR.k) ?_
  rintro _ t1 ⟨rfl, gt1_5, gt1_6, gt1_7, gt1_8, kt1, rt1⟩
  refine pi_ca 4 (m' := 4) (l' := [some (.ref 37), some (.int (nI 0))]) (σ' := t1) (pc2 := 27) (l2 := [some (.ref 0), some (.int x), some (.int (nI (W.nw - 1))), some (.int (nI 0)), some (.int (nI 0))]) (t := []) (fun f => rfl) (pi_C_supRain (nI 0)) ?_
  rintro _ t2 ⟨rfl, gt2_5, kt2, rt2⟩
  refine pi_ca 4 (m' := 5) (l' := [some (.ref 37), some (.int (nI (W.nw - 1)))]) (σ' := t2) (pc2 := 35) (l2 := [some (.ref 0), some (.int x), some (.int (nI (W.nw - 1))), some (.int (nI 0)), some (.int (nI 0))]) (t := []) (fun f => rfl) (pi_C_supSw (z_CK.of hR.k (pi_fr_tr rt2 (by decide) (pi_fr_tr rt1 (by decide) (pi_fr_rf)))) (x := W.nw - 1) (by omega)) ?_
  rintro _ t3 ⟨rfl, gt3_6, kt3, rt3⟩
  refine pi_go 5 (pc' := 46) (l' := [some (.ref 0), some (.int x), some (.int (nI (W.nw - 1))), some (.int (nI 0)), some (.int (nI 0))]) (st' := [.int (t3 12 3), .ref 37]) (σ' := t3) (fun f => rfl) ?_
  refine pi_tp (y := nI W.nine) ((congrFun (rt3 12 (by decide)) 3).trans ((congrFun (rt2 12 (by decide)) 3).trans ((congrFun (rt1 12 (by decide)) 3).trans (hR.k.p.nine)))) ?_
  refine pi_ca 1 (m' := 8) (l' := [some (.ref 37), some (.int (nI W.nine)), none]) (σ' := t3) (pc2 := 49) (l2 := [some (.ref 0), some (.int x), some (.int (nI (W.nw - 1))), some (.int (nI 0)), some (.int (nI 0))]) (t := []) (fun f => rfl) (pi_C_run_t (z_CK.of hR.k (pi_fr_tr rt3 (by decide) (pi_fr_tr rt2 (by decide) (pi_fr_tr rt1 (by decide) (pi_fr_rf))))) (la := W.nine) (kw := W.nw - 1) (by omega) ((kt3 5 (by decide)).trans (gt2_5)) (gt3_6) (by omega) ((kt3 7 (by decide)).trans ((kt2 7 (by decide)).trans (gt1_7))) (md := 0) (mk := 0) ((kt3 8 (by decide)).trans ((kt2 8 (by decide)).trans (gt1_8))) (by omega) (by omega) (fun m hm q => absurd q (z_nIm m (by omega))) (fun k hk1 => (congrFun (rt3 39 (by decide)) k).trans ((fun k hk1 => (congrFun (rt2 39 (by decide)) k).trans ((fun k hk1 => (congrFun (rt1 39 (by decide)) k).trans ((hR.jc) k hk1)) k hk1)) k hk1)) (fun k hk1 => (congrFun (rt3 40 (by decide)) k).trans ((fun k hk1 => (congrFun (rt2 40 (by decide)) k).trans ((fun k hk1 => (congrFun (rt1 40 (by decide)) k).trans ((hR.jd) k hk1)) k hk1)) k hk1))) ?_
  rintro _ t4 ⟨rfl, gt4_1, gt4_2, gt4_3, kt4, rt4⟩
  refine pi_ca 4 (m' := 17) (l' := [some (.ref 37), none, none]) (σ' := t4) (pc2 := 57) (l2 := [some (.ref 0), some (.int x), some (.int (nI (W.nw - 1))), some (.int (nI 0)), some (.int (nI 0))]) (t := [.int (nI 0)]) (fun f => rfl) (pi_C_fines_t (z_CK.of hR.k (pi_fr_tr rt4 (by decide) (pi_fr_tr rt3 (by decide) (pi_fr_tr rt2 (by decide) (pi_fr_tr rt1 (by decide) (pi_fr_rf))))))) ?_
  rintro _ _ ⟨rfl, rfl⟩
  refine pi_tp (y := z_fines W.rt ((z_Rc W (nI 0) (W.nw - 1) (-1) (-1) 0 0 (W.nine + 1)).1.1) W.nd) (z_fines_c rfl (gt4_1) _) ?_
  refine pi_cf 3 (c := nI 0 = nI 1) (pc' := 67) (l' := [some (.ref 0), some (.int x), some (.int (nI (W.nw - 1))), some (.int (nI 0)), some (.int (nI 0))]) (st' := [.int (z_fines W.rt ((z_Rc W (nI 0) (W.nw - 1) (-1) (-1) 0 0 (W.nine + 1)).1.1) W.nd), .int (nI 0)]) (σ' := t4) (pc2 := 63) (l2 := [some (.ref 0), some (.int x), some (.int (nI (W.nw - 1))), some (.int (nI 0)), some (.int (nI 0))]) (st2 := [.int (z_fines W.rt ((z_Rc W (nI 0) (W.nw - 1) (-1) (-1) 0 0 (W.nine + 1)).1.1) W.nd), .int (nI 0)]) (σ2 := t4) (fun f => rfl) (by decide) ?_
  refine pi_cf 11 (c := nI 1 < nI 1) (pc' := 11) (l' := [some (.ref 0), some (.int x), some (.int (nI (W.nw - 1))), some (.int ((nI 0) + ((z_fines W.rt ((z_Rc W (nI 0) (W.nw - 1) (-1) (-1) 0 0 (W.nine + 1)).1.1) W.nd) * ((nI 16) - x)))), some (.int (nI 1))]) (st' := []) (σ' := t4) (pc2 := 80) (l2 := [some (.ref 0), some (.int x), some (.int (nI (W.nw - 1))), some (.int ((nI 0) + ((z_fines W.rt ((z_Rc W (nI 0) (W.nw - 1) (-1) (-1) 0 0 (W.nine + 1)).1.1) W.nd) * ((nI 16) - x)))), some (.int (nI 1))]) (st2 := []) (σ2 := t4) (fun f => rfl) (by decide) ?_
  refine pi_ca 3 (m' := 3) (l' := [some (.ref 37)]) (σ' := t4) (pc2 := 18) (l2 := [some (.ref 0), some (.int x), some (.int (nI (W.nw - 1))), some (.int ((nI 0) + ((z_fines W.rt ((z_Rc W (nI 0) (W.nw - 1) (-1) (-1) 0 0 (W.nine + 1)).1.1) W.nd) * ((nI 16) - x)))), some (.int (nI 1))]) (t := []) (fun f => rfl) (pi_C_asTold_t (z_CK.of hR.k (pi_fr_tr rt4 (by decide) (pi_fr_tr rt3 (by decide) (pi_fr_tr rt2 (by decide) (pi_fr_tr rt1 (by decide) (pi_fr_rf))))))) ?_
  rintro _ t5 ⟨rfl, gt5_5, gt5_6, gt5_7, gt5_8, kt5, rt5⟩
  refine pi_ca 4 (m' := 4) (l' := [some (.ref 37), some (.int (nI 1))]) (σ' := t5) (pc2 := 27) (l2 := [some (.ref 0), some (.int x), some (.int (nI (W.nw - 1))), some (.int ((nI 0) + ((z_fines W.rt ((z_Rc W (nI 0) (W.nw - 1) (-1) (-1) 0 0 (W.nine + 1)).1.1) W.nd) * ((nI 16) - x)))), some (.int (nI 1))]) (t := []) (fun f => rfl) (pi_C_supRain (nI 1)) ?_
  rintro _ t6 ⟨rfl, gt6_5, kt6, rt6⟩
  refine pi_ca 4 (m' := 5) (l' := [some (.ref 37), some (.int (nI (W.nw - 1)))]) (σ' := t6) (pc2 := 35) (l2 := [some (.ref 0), some (.int x), some (.int (nI (W.nw - 1))), some (.int ((nI 0) + ((z_fines W.rt ((z_Rc W (nI 0) (W.nw - 1) (-1) (-1) 0 0 (W.nine + 1)).1.1) W.nd) * ((nI 16) - x)))), some (.int (nI 1))]) (t := []) (fun f => rfl) (pi_C_supSw (z_CK.of hR.k (pi_fr_tr rt6 (by decide) (pi_fr_tr rt5 (by decide) (pi_fr_tr rt4 (by decide) (pi_fr_tr rt3 (by decide) (pi_fr_tr rt2 (by decide) (pi_fr_tr rt1 (by decide) (pi_fr_rf)))))))) (x := W.nw - 1) (by omega)) ?_
  rintro _ t7 ⟨rfl, gt7_6, kt7, rt7⟩
  refine pi_go 5 (pc' := 46) (l' := [some (.ref 0), some (.int x), some (.int (nI (W.nw - 1))), some (.int ((nI 0) + ((z_fines W.rt ((z_Rc W (nI 0) (W.nw - 1) (-1) (-1) 0 0 (W.nine + 1)).1.1) W.nd) * ((nI 16) - x)))), some (.int (nI 1))]) (st' := [.int (t7 12 3), .ref 37]) (σ' := t7) (fun f => rfl) ?_
  refine pi_tp (y := nI W.nine) ((congrFun (rt7 12 (by decide)) 3).trans ((congrFun (rt6 12 (by decide)) 3).trans ((congrFun (rt5 12 (by decide)) 3).trans ((congrFun (rt4 12 (by decide)) 3).trans ((congrFun (rt3 12 (by decide)) 3).trans ((congrFun (rt2 12 (by decide)) 3).trans ((congrFun (rt1 12 (by decide)) 3).trans (hR.k.p.nine)))))))) ?_
  refine pi_ca 1 (m' := 8) (l' := [some (.ref 37), some (.int (nI W.nine)), none]) (σ' := t7) (pc2 := 49) (l2 := [some (.ref 0), some (.int x), some (.int (nI (W.nw - 1))), some (.int ((nI 0) + ((z_fines W.rt ((z_Rc W (nI 0) (W.nw - 1) (-1) (-1) 0 0 (W.nine + 1)).1.1) W.nd) * ((nI 16) - x)))), some (.int (nI 1))]) (t := []) (fun f => rfl) (pi_C_run_t (z_CK.of hR.k (pi_fr_tr rt7 (by decide) (pi_fr_tr rt6 (by decide) (pi_fr_tr rt5 (by decide) (pi_fr_tr rt4 (by decide) (pi_fr_tr rt3 (by decide) (pi_fr_tr rt2 (by decide) (pi_fr_tr rt1 (by decide) (pi_fr_rf))))))))) (la := W.nine) (kw := W.nw - 1) (by omega) ((kt7 5 (by decide)).trans (gt6_5)) (gt7_6) (by omega) ((kt7 7 (by decide)).trans ((kt6 7 (by decide)).trans (gt5_7))) (md := 0) (mk := 0) ((kt7 8 (by decide)).trans ((kt6 8 (by decide)).trans (gt5_8))) (by omega) (by omega) (fun m hm q => absurd q (z_nIm m (by omega))) (fun k hk1 => (congrFun (rt7 39 (by decide)) k).trans ((fun k hk1 => (congrFun (rt6 39 (by decide)) k).trans ((fun k hk1 => (congrFun (rt5 39 (by decide)) k).trans ((fun k hk1 => (congrFun (gt4_1) k).trans ((z_Rc_tail hk (by omega) (by omega) (by omega) _).1 k hk1)) k hk1)) k hk1)) k hk1)) (fun k hk1 => (congrFun (rt7 40 (by decide)) k).trans ((fun k hk1 => (congrFun (rt6 40 (by decide)) k).trans ((fun k hk1 => (congrFun (rt5 40 (by decide)) k).trans ((fun k hk1 => (congrFun (gt4_2) k).trans ((z_Rc_tail hk (by omega) (by omega) (by omega) _).2 k hk1)) k hk1)) k hk1)) k hk1))) ?_
  rintro _ t8 ⟨rfl, gt8_1, gt8_2, gt8_3, kt8, rt8⟩
  refine pi_ca 4 (m' := 17) (l' := [some (.ref 37), none, none]) (σ' := t8) (pc2 := 57) (l2 := [some (.ref 0), some (.int x), some (.int (nI (W.nw - 1))), some (.int ((nI 0) + ((z_fines W.rt ((z_Rc W (nI 0) (W.nw - 1) (-1) (-1) 0 0 (W.nine + 1)).1.1) W.nd) * ((nI 16) - x)))), some (.int (nI 1))]) (t := [.int ((nI 0) + ((z_fines W.rt ((z_Rc W (nI 0) (W.nw - 1) (-1) (-1) 0 0 (W.nine + 1)).1.1) W.nd) * ((nI 16) - x)))]) (fun f => rfl) (pi_C_fines_t (z_CK.of hR.k (pi_fr_tr rt8 (by decide) (pi_fr_tr rt7 (by decide) (pi_fr_tr rt6 (by decide) (pi_fr_tr rt5 (by decide) (pi_fr_tr rt4 (by decide) (pi_fr_tr rt3 (by decide) (pi_fr_tr rt2 (by decide) (pi_fr_tr rt1 (by decide) (pi_fr_rf))))))))))) ?_
  rintro _ _ ⟨rfl, rfl⟩
  refine pi_tp (y := z_fines W.rt ((z_Rc W (nI 1) (W.nw - 1) (-1) (-1) 0 0 (W.nine + 1)).1.1) W.nd) (z_fines_c rfl (gt8_1) _) ?_
  refine pi_ct 3 (c := nI 1 = nI 1) (pc' := 63) (l' := [some (.ref 0), some (.int x), some (.int (nI (W.nw - 1))), some (.int ((nI 0) + ((z_fines W.rt ((z_Rc W (nI 0) (W.nw - 1) (-1) (-1) 0 0 (W.nine + 1)).1.1) W.nd) * ((nI 16) - x)))), some (.int (nI 1))]) (st' := [.int (z_fines W.rt ((z_Rc W (nI 1) (W.nw - 1) (-1) (-1) 0 0 (W.nine + 1)).1.1) W.nd), .int ((nI 0) + ((z_fines W.rt ((z_Rc W (nI 0) (W.nw - 1) (-1) (-1) 0 0 (W.nine + 1)).1.1) W.nd) * ((nI 16) - x)))]) (σ' := t8) (pc2 := 67) (l2 := [some (.ref 0), some (.int x), some (.int (nI (W.nw - 1))), some (.int ((nI 0) + ((z_fines W.rt ((z_Rc W (nI 0) (W.nw - 1) (-1) (-1) 0 0 (W.nine + 1)).1.1) W.nd) * ((nI 16) - x)))), some (.int (nI 1))]) (st2 := [.int (z_fines W.rt ((z_Rc W (nI 1) (W.nw - 1) (-1) (-1) 0 0 (W.nine + 1)).1.1) W.nd), .int ((nI 0) + ((z_fines W.rt ((z_Rc W (nI 0) (W.nw - 1) (-1) (-1) 0 0 (W.nine + 1)).1.1) W.nd) * ((nI 16) - x)))]) (σ2 := t8) (fun f => rfl) (by decide) ?_
  refine pi_ct 10 (c := nI 1 < nI 2) (pc' := 80) (l' := [some (.ref 0), some (.int x), some (.int (nI (W.nw - 1))), some (.int (((nI 0) + ((z_fines W.rt ((z_Rc W (nI 0) (W.nw - 1) (-1) (-1) 0 0 (W.nine + 1)).1.1) W.nd) * ((nI 16) - x))) + ((z_fines W.rt ((z_Rc W (nI 1) (W.nw - 1) (-1) (-1) 0 0 (W.nine + 1)).1.1) W.nd) * x))), some (.int (nI 2))]) (st' := []) (σ' := t8) (pc2 := 11) (l2 := [some (.ref 0), some (.int x), some (.int (nI (W.nw - 1))), some (.int (((nI 0) + ((z_fines W.rt ((z_Rc W (nI 0) (W.nw - 1) (-1) (-1) 0 0 (W.nine + 1)).1.1) W.nd) * ((nI 16) - x))) + ((z_fines W.rt ((z_Rc W (nI 1) (W.nw - 1) (-1) (-1) 0 0 (W.nine + 1)).1.1) W.nd) * x))), some (.int (nI 2))]) (st2 := []) (σ2 := t8) (fun f => rfl) (by decide) ?_
  refine pi_rt 2 (v := some (.int (((nI 0) + ((z_fines W.rt ((z_Rc W (nI 0) (W.nw - 1) (-1) (-1) 0 0 (W.nine + 1)).1.1) W.nd) * ((nI 16) - x))) + ((z_fines W.rt ((z_Rc W (nI 1) (W.nw - 1) (-1) (-1) 0 0 (W.nine + 1)).1.1) W.nd) * x)))) (σ' := t8) (fun f => rfl) ?_
  exact ⟨congrArg (fun z => some (Value.int z)) (show ((nI 0) + ((z_fines W.rt ((z_Rc W (nI 0) (W.nw - 1) (-1) (-1) 0 0 (W.nine + 1)).1.1) W.nd) * ((nI 16) - x))) + ((z_fines W.rt ((z_Rc W (nI 1) (W.nw - 1) (-1) (-1) 0 0 (W.nine + 1)).1.1) W.nd) * x) = z_mean W x (nI W.nw - nI 1) from by rw [z_wfB W hn60 h0 hnw (nI 0), z_wfB W hn60 h0 hnw (nI 1)]; exact z_mean_c W x _), (hR.of (pi_fr_tr rt8 (by decide) (pi_fr_tr rt7 (by decide) (pi_fr_tr rt6 (by decide) (pi_fr_tr rt5 (by decide) (pi_fr_tr rt4 (by decide) (pi_fr_tr rt3 (by decide) (pi_fr_tr rt2 (by decide) (pi_fr_tr rt1 (by decide) (pi_fr_rf))))))))) (fun k hk1 => (congrFun (gt8_1) k).trans ((z_Rc_tail hk (by omega) (by omega) (by omega) _).1 k hk1)) (fun k hk1 => (congrFun (gt8_2) k).trans ((z_Rc_tail hk (by omega) (by omega) (by omega) _).2 k hk1))), pi_fr_tr rt8 (by decide) (pi_fr_tr rt7 (by decide) (pi_fr_tr rt6 (by decide) (pi_fr_tr rt5 (by decide) (pi_fr_tr rt4 (by decide) (pi_fr_tr rt3 (by decide) (pi_fr_tr rt2 (by decide) (pi_fr_tr rt1 (by decide) (pi_fr_rf))))))))⟩
