theorem z_hc_n {W : zW} {d i : Nat} (h : z_cbn W d i = false) (h1 : ¬ W.cm i = nI W.nine) : z_cbn W d (i + 1) = false := z_cbn_no h (fun q => h1 q.1)
theorem z_hc_m {W : zW} {d i : Nat} (h : z_cbn W d i = false) (h1 : ¬ W.cd i = d) : z_cbn W d (i + 1) = false := z_cbn_no h (fun q => h1 q.2)
def z_hx (b : Bool) : Int32 := cond b (nI 1) (nI 0)
set_option maxRecDepth 20000 in
theorem pi_C_hasCart {xs : Nat → Int32} {L d : Nat} {W : zW} {σ : pi_S} (hc : z_CK W σ) {dr : Nat} (hd : dr < 8)  : pi_wp xs L d 15 0 [some (.ref 37), some (.int (nI dr)), some (.int (nI W.nine)), none, none] [] σ (fun v s => (z_cb W dr = true ∧ v = some (.int (nI 1)) ∧ σ = s) ∨ (z_cb W dr = false ∧ v = some (.int (nI 0)) ∧ σ = s)) := by
  have hk := hc.p.wk
  have hnd8 := hk.wd.nd8
  have hns12 := hk.wd.ns12
  have hn60 := hk.nine
  have hnf := hk.nf
  have hnw := hk.nw
  have hnc := hk.nc
  have hn08 := hk.wd.n0
  have hn140 := hk.wd.n1
  refine pi_go 6 (pc' := 11) (l' := [some (.ref 37), some (.int (nI dr)), some (.int (nI W.nine)), some (.ref 27), some (.int (nI 0))]) (st' := []) (σ' := σ) (fun f => rfl) ?_
  suffices hl1 : ∀ i, i ≤ W.nc → (z_cbn W dr i = false) → pi_wp xs L d 15 11 [some (.ref 37), some (.int (nI dr)), some (.int (nI W.nine)), some (.ref 27), some (.int (nI i))] [] σ (fun v s => (z_cb W dr = true ∧ v = some (.int (nI 1)) ∧ σ = s) ∨ (z_cb W dr = false ∧ v = some (.int (nI 0)) ∧ σ = s)) from hl1 0 (by omega)  (rfl)
  refine pi_lp0 ?_ ?_
  · intro hx1
    refine pi_go 3 (pc' := 17) (l' := [some (.ref 37), some (.int (nI dr)), some (.int (nI W.nine)), some (.ref 27), some (.int (nI W.nc))]) (st' := [.int (σ 27 5), .int (nI W.nc)]) (σ' := σ) (fun f => rfl) ?_
    refine pi_tp (y := nI W.nc) (hc.p.nc) ?_
    refine pi_ct 1 (c := nI W.nc ≤ nI W.nc) (pc' := 50) (l' := [some (.ref 37), some (.int (nI dr)), some (.int (nI W.nine)), some (.ref 27), some (.int (nI W.nc))]) (st' := []) (σ' := σ) (pc2 := 20) (l2 := [some (.ref 37), some (.int (nI dr)), some (.int (nI W.nine)), some (.ref 27), some (.int (nI W.nc))]) (st2 := []) (σ2 := σ) (fun f => rfl) ((show nI W.nc ≤ nI W.nc ↔ _ from nI_leI (by omega) (by omega)).mpr (by omega)) ?_
    refine pi_rb 2 (c := (nI 0) &&& 1 = nI 0) (v := some (.int (nI 0))) (σ' := σ) (fun f => rfl) (by decide) ?_
    exact Or.inr ⟨hx1, rfl, rfl⟩
  · intro i hi1 ih1 hx1
    have hca := hk.ca i (by omega)
    refine pi_go 3 (pc' := 17) (l' := [some (.ref 37), some (.int (nI dr)), some (.int (nI W.nine)), some (.ref 27), some (.int (nI i))]) (st' := [.int (σ 27 5), .int (nI i)]) (σ' := σ) (fun f => rfl) ?_
    refine pi_tp (y := nI W.nc) (hc.p.nc) ?_
    refine pi_cf 1 (c := nI W.nc ≤ nI i) (pc' := 20) (l' := [some (.ref 37), some (.int (nI dr)), some (.int (nI W.nine)), some (.ref 27), some (.int (nI i))]) (st' := []) (σ' := σ) (pc2 := 50) (l2 := [some (.ref 37), some (.int (nI dr)), some (.int (nI W.nine)), some (.ref 27), some (.int (nI i))]) (st2 := []) (σ2 := σ) (fun f => rfl) (fun zq => absurd ((show nI W.nc ≤ nI i ↔ _ from nI_leI (by omega) (by omega)).mp zq) (by omega)) ?_
    refine pi_ai 4 (u := i) (n := 24) (g := σ 28) (pc' := 27) (l' := [some (.ref 37), some (.int (nI dr)), some (.int (nI W.nine)), some (.ref 27), some (.int (nI i))]) (t := []) (σ' := σ) (fun f => rfl) (by omega) (by omega) ?_
    refine pi_tp (y := W.cm i) ((hc.p.ca i (by omega)).1) ?_
    refine pi_if 2 (c := W.cm i = nI W.nine) (pc' := 31) (l' := [some (.ref 37), some (.int (nI dr)), some (.int (nI W.nine)), some (.ref 27), some (.int (nI i))]) (st' := []) (σ' := σ) (pc2 := 44) (l2 := [some (.ref 37), some (.int (nI dr)), some (.int (nI W.nine)), some (.ref 27), some (.int (nI i))]) (st2 := []) (σ2 := σ) (fun f => rfl) (fun h1 => ?_) (fun h1 => ?_)
    · refine pi_ai 4 (u := i) (n := 24) (g := σ 29) (pc' := 38) (l' := [some (.ref 37), some (.int (nI dr)), some (.int (nI W.nine)), some (.ref 27), some (.int (nI i))]) (t := []) (σ' := σ) (fun f => rfl) (by omega) (by omega) ?_
      refine pi_tp (y := nI (W.cd i)) ((hc.p.ca i (by omega)).2) ?_
      refine pi_if 2 (c := nI (W.cd i) = nI dr) (pc' := 42) (l' := [some (.ref 37), some (.int (nI dr)), some (.int (nI W.nine)), some (.ref 27), some (.int (nI i))]) (st' := []) (σ' := σ) (pc2 := 44) (l2 := [some (.ref 37), some (.int (nI dr)), some (.int (nI W.nine)), some (.ref 27), some (.int (nI i))]) (st2 := []) (σ2 := σ) (fun f => rfl) (fun h2 => ?_) (fun h2 => ?_)
      · replace h2 : (W.cd i) = dr := (nI_eq (by omega) (by omega)).mp h2
        refine pi_rb 2 (c := (nI 1) &&& 1 = nI 1) (v := some (.int (nI 1))) (σ' := σ) (fun f => rfl) (by decide) ?_
        exact Or.inl ⟨z_cbn_y (by omega) h1 h2, rfl, rfl⟩
      · replace h2 : ¬ ((W.cd i) = dr) := fun zq => h2 ((nI_eq (by omega) (by omega)).mpr zq)
        refine pi_go 1 (pc' := 47) (l' := [some (.ref 37), some (.int (nI dr)), some (.int (nI W.nine)), some (.ref 27), some (.int (nI i + nI 1))]) (st' := []) (σ' := σ) (fun f => rfl) ?_
        rw [show nI i + nI 1 = nI (i + 1) from nI_add _ 1]
        refine pi_go 1 (pc' := 11) (l' := [some (.ref 37), some (.int (nI dr)), some (.int (nI W.nine)), some (.ref 27), some (.int (nI (i + 1)))]) (st' := []) (σ' := σ) (fun f => rfl) ?_
        exact ih1  (z_hc_m hx1 h2)
    · refine pi_go 1 (pc' := 47) (l' := [some (.ref 37), some (.int (nI dr)), some (.int (nI W.nine)), some (.ref 27), some (.int (nI i + nI 1))]) (st' := []) (σ' := σ) (fun f => rfl) ?_
      rw [show nI i + nI 1 = nI (i + 1) from nI_add _ 1]
      refine pi_go 1 (pc' := 11) (l' := [some (.ref 37), some (.int (nI dr)), some (.int (nI W.nine)), some (.ref 27), some (.int (nI (i + 1)))]) (st' := []) (σ' := σ) (fun f => rfl) ?_
      exact ih1  (z_hc_n hx1 h1)
set_option maxRecDepth 20000 in
theorem pi_C_begin {xs : Nat → Int32} {L d : Nat} {W : zW} {σ : pi_S} (hc : z_CK W σ)  : pi_wp xs L (d + 3) 30 0 [some (.ref 41), some (.ref 37), none] [] σ (fun v s => v = none ∧ s 41 7 = nI 0 ∧ s 41 8 = z_S (fun d => cond (z_cb W d) (nI 0) (z_fine W.rt (σ 39) d)) W.nd ∧ s 41 9 = z_S (fun d => cond (z_cb W d) (nI 0) (z_fine W.rt (σ 39) d)) W.nd ∧ (∀ d, d < W.nd → s 42 d = z_all (σ 39) d ∧ s 43 d = z_fine W.rt (σ 39) d ∧ s 44 d = z_bI (z_cb W d)) ∧ pi_fr [41, 42, 43, 44] s σ) := by
  have hk := hc.p.wk
  have hnd8 := hk.wd.nd8
  have hns12 := hk.wd.ns12
  have hn60 := hk.nine
  have hnf := hk.nf
  have hnw := hk.nw
  have hnc := hk.nc
  have hn08 := hk.wd.n0
  have hn140 := hk.wd.n1
  refine pi_go 3 (pc' := 5) (l' := [some (.ref 41), some (.ref 37), none]) (st' := []) (σ' := (pi_up σ 41 8 (nI 0))) (fun f => rfl) ?_
  generalize es1 : pi_up σ 41 8 (nI 0) = s1
  refine pi_go 2 (pc' := 7) (l' := [some (.ref 41), some (.ref 37), some (.int (nI 0))]) (st' := []) (σ' := s1) (fun f => rfl) ?_
  suffices hl2 : ∀ i, i ≤ W.nd → ∀ (z2 : pi_S), pi_fr [41, 42, 43, 44] z2 σ → (z2 41 8 = z_S (fun d => cond (z_cb W d) (nI 0) (z_fine W.rt (σ 39) d)) i ∧ ∀ d, d < i → z2 42 d = z_all (σ 39) d ∧ z2 43 d = z_fine W.rt (σ 39) d ∧ z2 44 d = z_bI (z_cb W d)) → pi_wp xs L (d + 3) 30 7 [some (.ref 41), some (.ref 37), some (.int (nI i))] [] z2 (fun v s => v = none ∧ s 41 7 = nI 0 ∧ s 41 8 = z_S (fun d => cond (z_cb W d) (nI 0) (z_fine W.rt (σ 39) d)) W.nd ∧ s 41 9 = z_S (fun d => cond (z_cb W d) (nI 0) (z_fine W.rt (σ 39) d)) W.nd ∧ (∀ d, d < W.nd → s 42 d = z_all (σ 39) d ∧ s 43 d = z_fine W.rt (σ 39) d ∧ s 44 d = z_bI (z_cb W d)) ∧ pi_fr [41, 42, 43, 44] s σ) from hl2 0 (by omega) _ (pi_fr_of es1 (by decide) (pi_fr_rf)) (⟨(congrFun (congrFun es1 41) 8).symm.trans (pi_up_ss _ _ _ _), fun d hd => absurd hd (Nat.not_lt_zero d)⟩)
  refine pi_lp0 ?_ ?_
  · intro z2 hrz2 hx2
    refine pi_go 4 (pc' := 15) (l' := [some (.ref 41), some (.ref 37), some (.int (nI W.nd))]) (st' := [.int (z2 1 8), .int (nI W.nd)]) (σ' := z2) (fun f => rfl) ?_
    refine pi_tp (y := nI W.nd) ((congrFun (hrz2 1 (by decide)) 8).trans (hc.t.d)) ?_
    refine pi_ct 1 (c := nI W.nd ≤ nI W.nd) (pc' := 95) (l' := [some (.ref 41), some (.ref 37), some (.int (nI W.nd))]) (st' := []) (σ' := z2) (pc2 := 18) (l2 := [some (.ref 41), some (.ref 37), some (.int (nI W.nd))]) (st2 := []) (σ2 := z2) (fun f => rfl) ((show nI W.nd ≤ nI W.nd ↔ _ from nI_leI (by omega) (by omega)).mpr (by omega)) ?_
    refine pi_go 3 (pc' := 100) (l' := [some (.ref 41), some (.ref 37), some (.int (nI W.nd))]) (st' := []) (σ' := (pi_up z2 41 7 (nI 0))) (fun f => rfl) ?_
    generalize es3 : pi_up z2 41 7 (nI 0) = s3
    refine pi_go 3 (pc' := 105) (l' := [some (.ref 41), some (.ref 37), some (.int (nI W.nd))]) (st' := [.int (s3 41 8), .ref 41]) (σ' := s3) (fun f => rfl) ?_
    refine pi_tp (y := z_S (fun d => cond (z_cb W d) (nI 0) (z_fine W.rt (σ 39) d)) W.nd) ((congrFun (congrFun es3 41) 8).symm.trans ((pi_up_sn _ _ _ (by decide)).trans (hx2.1))) ?_
    refine pi_go 1 (pc' := 108) (l' := [some (.ref 41), some (.ref 37), some (.int (nI W.nd))]) (st' := []) (σ' := (pi_up s3 41 9 (z_S (fun d => cond (z_cb W d) (nI 0) (z_fine W.rt (σ 39) d)) W.nd))) (fun f => rfl) ?_
    generalize es4 : pi_up s3 41 9 (z_S (fun d => cond (z_cb W d) (nI 0) (z_fine W.rt (σ 39) d)) W.nd) = s4
    refine pi_rt 1 (v := none) (σ' := s4) (fun f => rfl) ?_
    exact ⟨rfl, (congrFun (congrFun es4 41) 7).symm.trans ((pi_up_sn _ _ _ (by decide)).trans ((congrFun (congrFun es3 41) 7).symm.trans (pi_up_ss _ _ _ _))), (congrFun (congrFun es4 41) 8).symm.trans ((pi_up_sn _ _ _ (by decide)).trans ((congrFun (congrFun es3 41) 8).symm.trans ((pi_up_sn _ _ _ (by decide)).trans (hx2.1)))), (congrFun (congrFun es4 41) 9).symm.trans (pi_up_ss _ _ _ _), fun d hd => ⟨(congrFun ((congrFun es4 42).symm.trans ((pi_up_ne _ _ _ (by decide)).trans ((congrFun es3 42).symm.trans ((pi_up_ne _ _ _ (by decide)))))) d).trans (hx2.2 d hd).1, (congrFun ((congrFun es4 43).symm.trans ((pi_up_ne _ _ _ (by decide)).trans ((congrFun es3 43).symm.trans ((pi_up_ne _ _ _ (by decide)))))) d).trans (hx2.2 d hd).2.1, (congrFun ((congrFun es4 44).symm.trans ((pi_up_ne _ _ _ (by decide)).trans ((congrFun es3 44).symm.trans ((pi_up_ne _ _ _ (by decide)))))) d).trans (hx2.2 d hd).2.2⟩, pi_fr_of es4 (by decide) (pi_fr_of es3 (by decide) (pi_fr_tr hrz2 (by decide) (pi_fr_rf)))⟩
  · intro i hi2 ih2 z2 hrz2 hx2
    refine pi_go 4 (pc' := 15) (l' := [some (.ref 41), some (.ref 37), some (.int (nI i))]) (st' := [.int (z2 1 8), .int (nI i)]) (σ' := z2) (fun f => rfl) ?_
    refine pi_tp (y := nI W.nd) ((congrFun (hrz2 1 (by decide)) 8).trans (hc.t.d)) ?_
    refine pi_cf 1 (c := nI W.nd ≤ nI i) (pc' := 18) (l' := [some (.ref 41), some (.ref 37), some (.int (nI i))]) (st' := []) (σ' := z2) (pc2 := 95) (l2 := [some (.ref 41), some (.ref 37), some (.int (nI i))]) (st2 := []) (σ2 := z2) (fun f => rfl) (fun zq => absurd ((show nI W.nd ≤ nI i ↔ _ from nI_leI (by omega) (by omega)).mp zq) (by omega)) ?_
    refine pi_ca 7 (m' := 23) (l' := [some (.ref 38), some (.int (nI i)), none, none]) (σ' := z2) (pc2 := 31) (l2 := [some (.ref 41), some (.ref 37), some (.int (nI i))]) (t := [.int (nI i), .ref 42]) (fun f => rfl) (pi_C_all_t (by omega)) ?_
    rintro _ _ ⟨rfl, rfl⟩
    refine pi_tp (y := z_all (σ 39) i) (congrArg (fun z => z_all z i) ((hrz2 39 (by decide)))) ?_
    refine pi_au 1 (u := i) (n := 8) (a := 42) (x := z_all (σ 39) i) (pc' := 32) (l' := [some (.ref 41), some (.ref 37), some (.int (nI i))]) (t := []) (σ' := z2) (fun f => rfl) (by omega) (by omega) ?_
    generalize es5 : pi_up z2 42 i (z_all (σ 39) i) = s5
    refine pi_ca 6 (m' := 16) (l' := [some (.ref 37), some (.int (nI i)), none, none]) (σ' := s5) (pc2 := 42) (l2 := [some (.ref 41), some (.ref 37), some (.int (nI i))]) (t := [.int (nI i), .ref 43]) (fun f => rfl) (pi_C_fineAt_t (z_CK.of hc (pi_fr_of es5 (by decide) (pi_fr_tr hrz2 (by decide) (pi_fr_rf)))) (by omega)) ?_
    rintro _ _ ⟨rfl, rfl⟩
    refine pi_tp (y := z_fine W.rt (σ 39) i) (z_fine_c rfl ((congrFun es5 39).symm.trans ((pi_up_ne _ _ _ (by decide)).trans ((hrz2 39 (by decide))))) _) ?_
    refine pi_au 1 (u := i) (n := 8) (a := 43) (x := z_fine W.rt (σ 39) i) (pc' := 43) (l' := [some (.ref 41), some (.ref 37), some (.int (nI i))]) (t := []) (σ' := s5) (fun f => rfl) (by omega) (by omega) ?_
    generalize es6 : pi_up s5 43 i (z_fine W.rt (σ 39) i) = s6
    refine pi_go 8 (pc' := 57) (l' := [some (.ref 41), some (.ref 37), some (.int (nI i))]) (st' := [.int (s6 12 3), .int (nI i), .ref 37, .int (nI i), .ref 44]) (σ' := s6) (fun f => rfl) ?_
    refine pi_tp (y := nI W.nine) ((congrFun ((congrFun es6 12).symm.trans (pi_up_ne _ _ _ (by decide))) 3).trans ((congrFun ((congrFun es5 12).symm.trans (pi_up_ne _ _ _ (by decide))) 3).trans ((congrFun (hrz2 12 (by decide)) 3).trans (hc.p.nine)))) ?_
    refine pi_ca 1 (m' := 15) (l' := [some (.ref 37), some (.int (nI i)), some (.int (nI W.nine)), none, none]) (σ' := s6) (pc2 := 60) (l2 := [some (.ref 41), some (.ref 37), some (.int (nI i))]) (t := [.int (nI i), .ref 44]) (fun f => rfl) (pi_C_hasCart (z_CK.of hc (pi_fr_of es6 (by decide) (pi_fr_of es5 (by decide) (pi_fr_tr hrz2 (by decide) (pi_fr_rf))))) (dr := i) (by omega)) ?_
    rintro _ _ (⟨b1, rfl, rfl⟩ | ⟨b1, rfl, rfl⟩)
    · refine pi_au 1 (u := i) (n := 8) (a := 44) (x := vp_nar .boolean (nI 1)) (pc' := 61) (l' := [some (.ref 41), some (.ref 37), some (.int (nI i))]) (t := []) (σ' := s6) (fun f => rfl) (by omega) (by omega) ?_
      generalize es7 : pi_up s6 44 i (vp_nar .boolean (nI 1)) = s7
      refine pi_go 3 (pc' := 66) (l' := [some (.ref 41), some (.ref 37), some (.int (nI i))]) (st' := [.int (s7 41 8), .ref 41]) (σ' := s7) (fun f => rfl) ?_
      refine pi_tp (y := z_S (fun d => cond (z_cb W d) (nI 0) (z_fine W.rt (σ 39) d)) i) ((congrFun ((congrFun es7 41).symm.trans (pi_up_ne _ _ _ (by decide))) 8).trans ((congrFun ((congrFun es6 41).symm.trans (pi_up_ne _ _ _ (by decide))) 8).trans ((congrFun ((congrFun es5 41).symm.trans (pi_up_ne _ _ _ (by decide))) 8).trans (hx2.1)))) ?_
      refine pi_ai 4 (u := i) (n := 8) (g := s7 44) (pc' := 72) (l' := [some (.ref 41), some (.ref 37), some (.int (nI i))]) (t := [.int (z_S (fun d => cond (z_cb W d) (nI 0) (z_fine W.rt (σ 39) d)) i), .ref 41]) (σ' := s7) (fun f => rfl) (by omega) (by omega) ?_
      refine pi_tp (y := vp_nar .boolean (nI 1)) ((congrFun (congrFun es7 44) i).symm.trans (pi_up_ss _ _ _ _)) ?_
      refine pi_cf 1 (c := vp_nar .boolean (nI 1) = 0) (pc' := 75) (l' := [some (.ref 41), some (.ref 37), some (.int (nI i))]) (st' := [.int (z_S (fun d => cond (z_cb W d) (nI 0) (z_fine W.rt (σ 39) d)) i), .ref 41]) (σ' := s7) (pc2 := 79) (l2 := [some (.ref 41), some (.ref 37), some (.int (nI i))]) (st2 := [.int (z_S (fun d => cond (z_cb W d) (nI 0) (z_fine W.rt (σ 39) d)) i), .ref 41]) (σ2 := s7) (fun f => rfl) (by decide) ?_
      refine pi_go 4 (pc' := 89) (l' := [some (.ref 41), some (.ref 37), some (.int (nI i))]) (st' := []) (σ' := (pi_up s7 41 8 ((z_S (fun d => cond (z_cb W d) (nI 0) (z_fine W.rt (σ 39) d)) i) + (nI 0)))) (fun f => rfl) ?_
      generalize es8 : pi_up s7 41 8 ((z_S (fun d => cond (z_cb W d) (nI 0) (z_fine W.rt (σ 39) d)) i) + (nI 0)) = s8
      refine pi_go 1 (pc' := 92) (l' := [some (.ref 41), some (.ref 37), some (.int (nI i + nI 1))]) (st' := []) (σ' := s8) (fun f => rfl) ?_
      rw [show nI i + nI 1 = nI (i + 1) from nI_add _ 1]
      refine pi_go 1 (pc' := 7) (l' := [some (.ref 41), some (.ref 37), some (.int (nI (i + 1)))]) (st' := []) (σ' := s8) (fun f => rfl) ?_
      exact ih2 _ (pi_fr_of es8 (by decide) (pi_fr_of es7 (by decide) (pi_fr_of es6 (by decide) (pi_fr_of es5 (by decide) (pi_fr_tr hrz2 (by decide) (pi_fr_rf)))))) (⟨((congrFun (congrFun es8 41) 8).symm.trans (pi_up_ss _ _ _ _)).trans (by rw [z_S_s, b1]; rfl), lt_s (fun d hd => ⟨(congrFun ((congrFun es8 42).symm.trans ((pi_up_ne _ _ _ (by decide)).trans ((congrFun es7 42).symm.trans ((pi_up_ne _ _ _ (by decide)).trans ((congrFun es6 42).symm.trans ((pi_up_ne _ _ _ (by decide)).trans ((congrFun es5 42).symm.trans ((pi_up_self _ _ _ _))))))))) d).trans ((if_neg (by omega)).trans (hx2.2 d hd).1), (congrFun ((congrFun es8 43).symm.trans ((pi_up_ne _ _ _ (by decide)).trans ((congrFun es7 43).symm.trans ((pi_up_ne _ _ _ (by decide)).trans ((congrFun es6 43).symm.trans ((pi_up_self _ _ _ _).trans (congrArg (fun z => upd z i (z_fine W.rt (σ 39) i)) ((congrFun es5 43).symm.trans ((pi_up_ne _ _ _ (by decide))))))))))) d).trans ((if_neg (by omega)).trans (hx2.2 d hd).2.1), (congrFun ((congrFun es8 44).symm.trans ((pi_up_ne _ _ _ (by decide)).trans ((congrFun es7 44).symm.trans ((pi_up_self _ _ _ _).trans (congrArg (fun z => upd z i (vp_nar .boolean (nI 1))) ((congrFun es6 44).symm.trans ((pi_up_ne _ _ _ (by decide)).trans ((congrFun es5 44).symm.trans ((pi_up_ne _ _ _ (by decide))))))))))) d).trans ((if_neg (by omega)).trans (hx2.2 d hd).2.2)⟩) ⟨(congrFun ((congrFun es8 42).symm.trans ((pi_up_ne _ _ _ (by decide)).trans ((congrFun es7 42).symm.trans ((pi_up_ne _ _ _ (by decide)).trans ((congrFun es6 42).symm.trans ((pi_up_ne _ _ _ (by decide)).trans ((congrFun es5 42).symm.trans ((pi_up_self _ _ _ _))))))))) i).trans (if_pos rfl), (congrFun ((congrFun es8 43).symm.trans ((pi_up_ne _ _ _ (by decide)).trans ((congrFun es7 43).symm.trans ((pi_up_ne _ _ _ (by decide)).trans ((congrFun es6 43).symm.trans ((pi_up_self _ _ _ _).trans (congrArg (fun z => upd z i (z_fine W.rt (σ 39) i)) ((congrFun es5 43).symm.trans ((pi_up_ne _ _ _ (by decide))))))))))) i).trans (if_pos rfl), (congrFun ((congrFun es8 44).symm.trans ((pi_up_ne _ _ _ (by decide)).trans ((congrFun es7 44).symm.trans ((pi_up_self _ _ _ _).trans (congrArg (fun z => upd z i (vp_nar .boolean (nI 1))) ((congrFun es6 44).symm.trans ((pi_up_ne _ _ _ (by decide)).trans ((congrFun es5 44).symm.trans ((pi_up_ne _ _ _ (by decide))))))))))) i).trans ((if_pos rfl).trans (by rw [b1]; decide))⟩⟩)
    · refine pi_au 1 (u := i) (n := 8) (a := 44) (x := vp_nar .boolean (nI 0)) (pc' := 61) (l' := [some (.ref 41), some (.ref 37), some (.int (nI i))]) (t := []) (σ' := s6) (fun f => rfl) (by omega) (by omega) ?_
      generalize es9 : pi_up s6 44 i (vp_nar .boolean (nI 0)) = s9
      refine pi_go 3 (pc' := 66) (l' := [some (.ref 41), some (.ref 37), some (.int (nI i))]) (st' := [.int (s9 41 8), .ref 41]) (σ' := s9) (fun f => rfl) ?_
      refine pi_tp (y := z_S (fun d => cond (z_cb W d) (nI 0) (z_fine W.rt (σ 39) d)) i) ((congrFun ((congrFun es9 41).symm.trans (pi_up_ne _ _ _ (by decide))) 8).trans ((congrFun ((congrFun es6 41).symm.trans (pi_up_ne _ _ _ (by decide))) 8).trans ((congrFun ((congrFun es5 41).symm.trans (pi_up_ne _ _ _ (by decide))) 8).trans (hx2.1)))) ?_
      refine pi_ai 4 (u := i) (n := 8) (g := s9 44) (pc' := 72) (l' := [some (.ref 41), some (.ref 37), some (.int (nI i))]) (t := [.int (z_S (fun d => cond (z_cb W d) (nI 0) (z_fine W.rt (σ 39) d)) i), .ref 41]) (σ' := s9) (fun f => rfl) (by omega) (by omega) ?_
      refine pi_tp (y := vp_nar .boolean (nI 0)) ((congrFun (congrFun es9 44) i).symm.trans (pi_up_ss _ _ _ _)) ?_
      refine pi_ct 1 (c := vp_nar .boolean (nI 0) = 0) (pc' := 79) (l' := [some (.ref 41), some (.ref 37), some (.int (nI i))]) (st' := [.int (z_S (fun d => cond (z_cb W d) (nI 0) (z_fine W.rt (σ 39) d)) i), .ref 41]) (σ' := s9) (pc2 := 75) (l2 := [some (.ref 41), some (.ref 37), some (.int (nI i))]) (st2 := [.int (z_S (fun d => cond (z_cb W d) (nI 0) (z_fine W.rt (σ 39) d)) i), .ref 41]) (σ2 := s9) (fun f => rfl) (by decide) ?_
      refine pi_ai 4 (u := i) (n := 8) (g := s9 43) (pc' := 85) (l' := [some (.ref 41), some (.ref 37), some (.int (nI i))]) (t := [.int (z_S (fun d => cond (z_cb W d) (nI 0) (z_fine W.rt (σ 39) d)) i), .ref 41]) (σ' := s9) (fun f => rfl) (by omega) (by omega) ?_
      refine pi_tp (y := z_fine W.rt (σ 39) i) ((congrFun ((congrFun es9 43).symm.trans (pi_up_ne _ _ _ (by decide))) i).trans ((congrFun (congrFun es6 43) i).symm.trans (pi_up_ss _ _ _ _))) ?_
      refine pi_go 2 (pc' := 89) (l' := [some (.ref 41), some (.ref 37), some (.int (nI i))]) (st' := []) (σ' := (pi_up s9 41 8 ((z_S (fun d => cond (z_cb W d) (nI 0) (z_fine W.rt (σ 39) d)) i) + (z_fine W.rt (σ 39) i)))) (fun f => rfl) ?_
      generalize es10 : pi_up s9 41 8 ((z_S (fun d => cond (z_cb W d) (nI 0) (z_fine W.rt (σ 39) d)) i) + (z_fine W.rt (σ 39) i)) = s10
      refine pi_go 1 (pc' := 92) (l' := [some (.ref 41), some (.ref 37), some (.int (nI i + nI 1))]) (st' := []) (σ' := s10) (fun f => rfl) ?_
      rw [show nI i + nI 1 = nI (i + 1) from nI_add _ 1]
      refine pi_go 1 (pc' := 7) (l' := [some (.ref 41), some (.ref 37), some (.int (nI (i + 1)))]) (st' := []) (σ' := s10) (fun f => rfl) ?_
      exact ih2 _ (pi_fr_of es10 (by decide) (pi_fr_of es9 (by decide) (pi_fr_of es6 (by decide) (pi_fr_of es5 (by decide) (pi_fr_tr hrz2 (by decide) (pi_fr_rf)))))) (⟨((congrFun (congrFun es10 41) 8).symm.trans (pi_up_ss _ _ _ _)).trans (by rw [z_S_s, b1]; rfl), lt_s (fun d hd => ⟨(congrFun ((congrFun es10 42).symm.trans ((pi_up_ne _ _ _ (by decide)).trans ((congrFun es9 42).symm.trans ((pi_up_ne _ _ _ (by decide)).trans ((congrFun es6 42).symm.trans ((pi_up_ne _ _ _ (by decide)).trans ((congrFun es5 42).symm.trans ((pi_up_self _ _ _ _))))))))) d).trans ((if_neg (by omega)).trans (hx2.2 d hd).1), (congrFun ((congrFun es10 43).symm.trans ((pi_up_ne _ _ _ (by decide)).trans ((congrFun es9 43).symm.trans ((pi_up_ne _ _ _ (by decide)).trans ((congrFun es6 43).symm.trans ((pi_up_self _ _ _ _).trans (congrArg (fun z => upd z i (z_fine W.rt (σ 39) i)) ((congrFun es5 43).symm.trans ((pi_up_ne _ _ _ (by decide))))))))))) d).trans ((if_neg (by omega)).trans (hx2.2 d hd).2.1), (congrFun ((congrFun es10 44).symm.trans ((pi_up_ne _ _ _ (by decide)).trans ((congrFun es9 44).symm.trans ((pi_up_self _ _ _ _).trans (congrArg (fun z => upd z i (vp_nar .boolean (nI 0))) ((congrFun es6 44).symm.trans ((pi_up_ne _ _ _ (by decide)).trans ((congrFun es5 44).symm.trans ((pi_up_ne _ _ _ (by decide))))))))))) d).trans ((if_neg (by omega)).trans (hx2.2 d hd).2.2)⟩) ⟨(congrFun ((congrFun es10 42).symm.trans ((pi_up_ne _ _ _ (by decide)).trans ((congrFun es9 42).symm.trans ((pi_up_ne _ _ _ (by decide)).trans ((congrFun es6 42).symm.trans ((pi_up_ne _ _ _ (by decide)).trans ((congrFun es5 42).symm.trans ((pi_up_self _ _ _ _))))))))) i).trans (if_pos rfl), (congrFun ((congrFun es10 43).symm.trans ((pi_up_ne _ _ _ (by decide)).trans ((congrFun es9 43).symm.trans ((pi_up_ne _ _ _ (by decide)).trans ((congrFun es6 43).symm.trans ((pi_up_self _ _ _ _).trans (congrArg (fun z => upd z i (z_fine W.rt (σ 39) i)) ((congrFun es5 43).symm.trans ((pi_up_ne _ _ _ (by decide))))))))))) i).trans (if_pos rfl), (congrFun ((congrFun es10 44).symm.trans ((pi_up_ne _ _ _ (by decide)).trans ((congrFun es9 44).symm.trans ((pi_up_self _ _ _ _).trans (congrArg (fun z => upd z i (vp_nar .boolean (nI 0))) ((congrFun es6 44).symm.trans ((pi_up_ne _ _ _ (by decide)).trans ((congrFun es5 44).symm.trans ((pi_up_ne _ _ _ (by decide))))))))))) i).trans ((if_pos rfl).trans (by rw [b1]; decide))⟩⟩)
set_option maxRecDepth 20000 in
theorem pi_C_move {xs : Nat → Int32} {L d : Nat} {W : zW} {σ : pi_S} (hnd8 : W.nd ≤ 8) (hC : ∀ e, e < W.nd → σ 44 e = z_bI (z_cb W e)) {u l : Nat} (hu : u < W.nd) (hl : l < W.nd) (hul : ¬ u = l) {f : Int32} (h8 : σ 41 8 = f) (m x : Int32)  : pi_wp xs L d 34 0 [some (.ref 41), some (.int (nI u)), some (.int (nI l)), some (.int m), some (.int x)] [] σ (fun v s => v = none ∧ s 42 = upd (upd (σ 42) u (σ 42 u - m)) l (σ 42 l + m) ∧ s 43 = upd (upd (σ 43) u (σ 43 u - x)) l (σ 43 l + x) ∧ s 41 8 = z_f1 W u l f x ∧ pi_fs 41 [8] s σ ∧ pi_fr [41, 42, 43] s σ) := by
  refine pi_ai 5 (u := u) (n := 8) (g := σ 42) (pc' := 7) (l' := [some (.ref 41), some (.int (nI u)), some (.int (nI l)), some (.int m), some (.int x)]) (t := [.int (nI u), .ref 42]) (σ' := σ) (fun f => rfl) (by omega) (by omega) ?_
  refine pi_au 3 (u := u) (n := 8) (a := 42) (x := (σ 42 u) - m) (pc' := 10) (l' := [some (.ref 41), some (.int (nI u)), some (.int (nI l)), some (.int m), some (.int x)]) (t := []) (σ' := σ) (fun f => rfl) (by omega) (by omega) ?_
  generalize es1 : pi_up σ 42 u ((σ 42 u) - m) = s1
  refine pi_ai 5 (u := u) (n := 8) (g := s1 43) (pc' := 17) (l' := [some (.ref 41), some (.int (nI u)), some (.int (nI l)), some (.int m), some (.int x)]) (t := [.int (nI u), .ref 43]) (σ' := s1) (fun f => rfl) (by omega) (by omega) ?_
  refine pi_tp (y := σ 43 u) ((congrFun ((congrFun es1 43).symm.trans (pi_up_ne _ _ _ (by decide))) u)) ?_
  refine pi_au 3 (u := u) (n := 8) (a := 43) (x := (σ 43 u) - x) (pc' := 21) (l' := [some (.ref 41), some (.int (nI u)), some (.int (nI l)), some (.int m), some (.int x)]) (t := []) (σ' := s1) (fun f => rfl) (by omega) (by omega) ?_
  generalize es2 : pi_up s1 43 u ((σ 43 u) - x) = s2
  refine pi_go 3 (pc' := 26) (l' := [some (.ref 41), some (.int (nI u)), some (.int (nI l)), some (.int m), some (.int x)]) (st' := [.int (s2 41 8), .ref 41]) (σ' := s2) (fun f => rfl) ?_
  refine pi_tp (y := f) ((congrFun ((congrFun es2 41).symm.trans (pi_up_ne _ _ _ (by decide))) 8).trans ((congrFun ((congrFun es1 41).symm.trans (pi_up_ne _ _ _ (by decide))) 8).trans (h8))) ?_
  refine pi_ai 4 (u := u) (n := 8) (g := s2 44) (pc' := 32) (l' := [some (.ref 41), some (.int (nI u)), some (.int (nI l)), some (.int m), some (.int x)]) (t := [.int f, .ref 41]) (σ' := s2) (fun f => rfl) (by omega) (by omega) ?_
  refine pi_tp (y := z_bI (z_cb W u)) ((congrFun ((congrFun es2 44).symm.trans (pi_up_ne _ _ _ (by decide))) u).trans ((congrFun ((congrFun es1 44).symm.trans (pi_up_ne _ _ _ (by decide))) u).trans (hC u (by omega)))) ?_
  refine pi_if 1 (c := z_bI (z_cb W u) = 0) (pc' := 39) (l' := [some (.ref 41), some (.int (nI u)), some (.int (nI l)), some (.int m), some (.int x)]) (st' := [.int f, .ref 41]) (σ' := s2) (pc2 := 35) (l2 := [some (.ref 41), some (.int (nI u)), some (.int (nI l)), some (.int m), some (.int x)]) (st2 := [.int f, .ref 41]) (σ2 := s2) (fun f => rfl) (fun h1 => ?_) (fun h1 => ?_)
  · refine pi_go 3 (pc' := 45) (l' := [some (.ref 41), some (.int (nI u)), some (.int (nI l)), some (.int m), some (.int x)]) (st' := []) (σ' := (pi_up s2 41 8 (f - x))) (fun f => rfl) ?_
    generalize es3 : pi_up s2 41 8 (f - x) = s3
    refine pi_ai 5 (u := l) (n := 8) (g := s3 42) (pc' := 52) (l' := [some (.ref 41), some (.int (nI u)), some (.int (nI l)), some (.int m), some (.int x)]) (t := [.int (nI l), .ref 42]) (σ' := s3) (fun f => rfl) (by omega) (by omega) ?_
    refine pi_tp (y := σ 42 l) ((congrFun ((congrFun es3 42).symm.trans (pi_up_ne _ _ _ (by decide))) l).trans ((congrFun ((congrFun es2 42).symm.trans (pi_up_ne _ _ _ (by decide))) l).trans ((congrFun (congrFun es1 42) l).symm.trans ((pi_up_sn _ _ _ (fun q => hul q.symm)))))) ?_
    refine pi_au 3 (u := l) (n := 8) (a := 42) (x := (σ 42 l) + m) (pc' := 55) (l' := [some (.ref 41), some (.int (nI u)), some (.int (nI l)), some (.int m), some (.int x)]) (t := []) (σ' := s3) (fun f => rfl) (by omega) (by omega) ?_
    generalize es4 : pi_up s3 42 l ((σ 42 l) + m) = s4
    refine pi_ai 5 (u := l) (n := 8) (g := s4 43) (pc' := 62) (l' := [some (.ref 41), some (.int (nI u)), some (.int (nI l)), some (.int m), some (.int x)]) (t := [.int (nI l), .ref 43]) (σ' := s4) (fun f => rfl) (by omega) (by omega) ?_
    refine pi_tp (y := σ 43 l) ((congrFun ((congrFun es4 43).symm.trans (pi_up_ne _ _ _ (by decide))) l).trans ((congrFun ((congrFun es3 43).symm.trans (pi_up_ne _ _ _ (by decide))) l).trans ((congrFun (congrFun es2 43) l).symm.trans ((pi_up_sn _ _ _ (fun q => hul q.symm)).trans ((congrFun ((congrFun es1 43).symm.trans (pi_up_ne _ _ _ (by decide))) l)))))) ?_
    refine pi_au 3 (u := l) (n := 8) (a := 43) (x := (σ 43 l) + x) (pc' := 66) (l' := [some (.ref 41), some (.int (nI u)), some (.int (nI l)), some (.int m), some (.int x)]) (t := []) (σ' := s4) (fun f => rfl) (by omega) (by omega) ?_
    generalize es5 : pi_up s4 43 l ((σ 43 l) + x) = s5
    refine pi_go 3 (pc' := 71) (l' := [some (.ref 41), some (.int (nI u)), some (.int (nI l)), some (.int m), some (.int x)]) (st' := [.int (s5 41 8), .ref 41]) (σ' := s5) (fun f => rfl) ?_
    refine pi_tp (y := f - x) ((congrFun ((congrFun es5 41).symm.trans (pi_up_ne _ _ _ (by decide))) 8).trans ((congrFun ((congrFun es4 41).symm.trans (pi_up_ne _ _ _ (by decide))) 8).trans ((congrFun (congrFun es3 41) 8).symm.trans (pi_up_ss _ _ _ _)))) ?_
    refine pi_ai 4 (u := l) (n := 8) (g := s5 44) (pc' := 77) (l' := [some (.ref 41), some (.int (nI u)), some (.int (nI l)), some (.int m), some (.int x)]) (t := [.int (f - x), .ref 41]) (σ' := s5) (fun f => rfl) (by omega) (by omega) ?_
    refine pi_tp (y := z_bI (z_cb W l)) ((congrFun ((congrFun es5 44).symm.trans (pi_up_ne _ _ _ (by decide))) l).trans ((congrFun ((congrFun es4 44).symm.trans (pi_up_ne _ _ _ (by decide))) l).trans ((congrFun ((congrFun es3 44).symm.trans (pi_up_ne _ _ _ (by decide))) l).trans ((congrFun ((congrFun es2 44).symm.trans (pi_up_ne _ _ _ (by decide))) l).trans ((congrFun ((congrFun es1 44).symm.trans (pi_up_ne _ _ _ (by decide))) l).trans (hC l (by omega))))))) ?_
    refine pi_if 1 (c := z_bI (z_cb W l) = 0) (pc' := 84) (l' := [some (.ref 41), some (.int (nI u)), some (.int (nI l)), some (.int m), some (.int x)]) (st' := [.int (f - x), .ref 41]) (σ' := s5) (pc2 := 80) (l2 := [some (.ref 41), some (.int (nI u)), some (.int (nI l)), some (.int m), some (.int x)]) (st2 := [.int (f - x), .ref 41]) (σ2 := s5) (fun f => rfl) (fun h2 => ?_) (fun h2 => ?_)
    · refine pi_go 3 (pc' := 90) (l' := [some (.ref 41), some (.int (nI u)), some (.int (nI l)), some (.int m), some (.int x)]) (st' := []) (σ' := (pi_up s5 41 8 ((f - x) + x))) (fun f => rfl) ?_
      generalize es6 : pi_up s5 41 8 ((f - x) + x) = s6
      refine pi_rt 1 (v := none) (σ' := s6) (fun f => rfl) ?_
      exact ⟨rfl, (congrFun es6 42).symm.trans ((pi_up_ne _ _ _ (by decide)).trans ((congrFun es5 42).symm.trans ((pi_up_ne _ _ _ (by decide)).trans ((congrFun es4 42).symm.trans ((pi_up_self _ _ _ _).trans (congrArg (fun z => upd z l ((σ 42 l) + m)) ((congrFun es3 42).symm.trans ((pi_up_ne _ _ _ (by decide)).trans ((congrFun es2 42).symm.trans ((pi_up_ne _ _ _ (by decide)).trans ((congrFun es1 42).symm.trans ((pi_up_self _ _ _ _))))))))))))), (congrFun es6 43).symm.trans ((pi_up_ne _ _ _ (by decide)).trans ((congrFun es5 43).symm.trans ((pi_up_self _ _ _ _).trans (congrArg (fun z => upd z l ((σ 43 l) + x)) ((congrFun es4 43).symm.trans ((pi_up_ne _ _ _ (by decide)).trans ((congrFun es3 43).symm.trans ((pi_up_ne _ _ _ (by decide)).trans ((congrFun es2 43).symm.trans ((pi_up_self _ _ _ _).trans (congrArg (fun z => upd z u ((σ 43 u) - x)) ((congrFun es1 43).symm.trans ((pi_up_ne _ _ _ (by decide))))))))))))))), ((congrFun (congrFun es6 41) 8).symm.trans (pi_up_ss _ _ _ _)).trans (by unfold z_f1; rw [(show z_cb W u = false from (by have := z_bI_f h1; revert this; cases z_cb W u <;> decide)), (show z_cb W l = false from (by have := z_bI_f h2; revert this; cases z_cb W l <;> decide))]; rfl), pi_fs_up es6 (by decide) (pi_fs_ne es5 (by decide) (pi_fs_ne es4 (by decide) (pi_fs_up es3 (by decide) (pi_fs_ne es2 (by decide) (pi_fs_ne es1 (by decide) (pi_fs_rf)))))), pi_fr_of es6 (by decide) (pi_fr_of es5 (by decide) (pi_fr_of es4 (by decide) (pi_fr_of es3 (by decide) (pi_fr_of es2 (by decide) (pi_fr_of es1 (by decide) (pi_fr_rf))))))⟩
    · refine pi_go 4 (pc' := 90) (l' := [some (.ref 41), some (.int (nI u)), some (.int (nI l)), some (.int m), some (.int x)]) (st' := []) (σ' := (pi_up s5 41 8 ((f - x) + (nI 0)))) (fun f => rfl) ?_
      generalize es7 : pi_up s5 41 8 ((f - x) + (nI 0)) = s7
      refine pi_rt 1 (v := none) (σ' := s7) (fun f => rfl) ?_
      exact ⟨rfl, (congrFun es7 42).symm.trans ((pi_up_ne _ _ _ (by decide)).trans ((congrFun es5 42).symm.trans ((pi_up_ne _ _ _ (by decide)).trans ((congrFun es4 42).symm.trans ((pi_up_self _ _ _ _).trans (congrArg (fun z => upd z l ((σ 42 l) + m)) ((congrFun es3 42).symm.trans ((pi_up_ne _ _ _ (by decide)).trans ((congrFun es2 42).symm.trans ((pi_up_ne _ _ _ (by decide)).trans ((congrFun es1 42).symm.trans ((pi_up_self _ _ _ _))))))))))))), (congrFun es7 43).symm.trans ((pi_up_ne _ _ _ (by decide)).trans ((congrFun es5 43).symm.trans ((pi_up_self _ _ _ _).trans (congrArg (fun z => upd z l ((σ 43 l) + x)) ((congrFun es4 43).symm.trans ((pi_up_ne _ _ _ (by decide)).trans ((congrFun es3 43).symm.trans ((pi_up_ne _ _ _ (by decide)).trans ((congrFun es2 43).symm.trans ((pi_up_self _ _ _ _).trans (congrArg (fun z => upd z u ((σ 43 u) - x)) ((congrFun es1 43).symm.trans ((pi_up_ne _ _ _ (by decide))))))))))))))), ((congrFun (congrFun es7 41) 8).symm.trans (pi_up_ss _ _ _ _)).trans (by unfold z_f1; rw [(show z_cb W u = false from (by have := z_bI_f h1; revert this; cases z_cb W u <;> decide)), (show z_cb W l = true from z_bI_t h2)]; rfl), pi_fs_up es7 (by decide) (pi_fs_ne es5 (by decide) (pi_fs_ne es4 (by decide) (pi_fs_up es3 (by decide) (pi_fs_ne es2 (by decide) (pi_fs_ne es1 (by decide) (pi_fs_rf)))))), pi_fr_of es7 (by decide) (pi_fr_of es5 (by decide) (pi_fr_of es4 (by decide) (pi_fr_of es3 (by decide) (pi_fr_of es2 (by decide) (pi_fr_of es1 (by decide) (pi_fr_rf))))))⟩
  · refine pi_go 4 (pc' := 45) (l' := [some (.ref 41), some (.int (nI u)), some (.int (nI l)), some (.int m), some (.int x)]) (st' := []) (σ' := (pi_up s2 41 8 (f - (nI 0)))) (fun f => rfl) ?_
    generalize es8 : pi_up s2 41 8 (f - (nI 0)) = s8
    refine pi_ai 5 (u := l) (n := 8) (g := s8 42) (pc' := 52) (l' := [some (.ref 41), some (.int (nI u)), some (.int (nI l)), some (.int m), some (.int x)]) (t := [.int (nI l), .ref 42]) (σ' := s8) (fun f => rfl) (by omega) (by omega) ?_
    refine pi_tp (y := σ 42 l) ((congrFun ((congrFun es8 42).symm.trans (pi_up_ne _ _ _ (by decide))) l).trans ((congrFun ((congrFun es2 42).symm.trans (pi_up_ne _ _ _ (by decide))) l).trans ((congrFun (congrFun es1 42) l).symm.trans ((pi_up_sn _ _ _ (fun q => hul q.symm)))))) ?_
    refine pi_au 3 (u := l) (n := 8) (a := 42) (x := (σ 42 l) + m) (pc' := 55) (l' := [some (.ref 41), some (.int (nI u)), some (.int (nI l)), some (.int m), some (.int x)]) (t := []) (σ' := s8) (fun f => rfl) (by omega) (by omega) ?_
    generalize es9 : pi_up s8 42 l ((σ 42 l) + m) = s9
    refine pi_ai 5 (u := l) (n := 8) (g := s9 43) (pc' := 62) (l' := [some (.ref 41), some (.int (nI u)), some (.int (nI l)), some (.int m), some (.int x)]) (t := [.int (nI l), .ref 43]) (σ' := s9) (fun f => rfl) (by omega) (by omega) ?_
    refine pi_tp (y := σ 43 l) ((congrFun ((congrFun es9 43).symm.trans (pi_up_ne _ _ _ (by decide))) l).trans ((congrFun ((congrFun es8 43).symm.trans (pi_up_ne _ _ _ (by decide))) l).trans ((congrFun (congrFun es2 43) l).symm.trans ((pi_up_sn _ _ _ (fun q => hul q.symm)).trans ((congrFun ((congrFun es1 43).symm.trans (pi_up_ne _ _ _ (by decide))) l)))))) ?_
    refine pi_au 3 (u := l) (n := 8) (a := 43) (x := (σ 43 l) + x) (pc' := 66) (l' := [some (.ref 41), some (.int (nI u)), some (.int (nI l)), some (.int m), some (.int x)]) (t := []) (σ' := s9) (fun f => rfl) (by omega) (by omega) ?_
    generalize es10 : pi_up s9 43 l ((σ 43 l) + x) = s10
    refine pi_go 3 (pc' := 71) (l' := [some (.ref 41), some (.int (nI u)), some (.int (nI l)), some (.int m), some (.int x)]) (st' := [.int (s10 41 8), .ref 41]) (σ' := s10) (fun f => rfl) ?_
    refine pi_tp (y := f - (nI 0)) ((congrFun ((congrFun es10 41).symm.trans (pi_up_ne _ _ _ (by decide))) 8).trans ((congrFun ((congrFun es9 41).symm.trans (pi_up_ne _ _ _ (by decide))) 8).trans ((congrFun (congrFun es8 41) 8).symm.trans (pi_up_ss _ _ _ _)))) ?_
    refine pi_ai 4 (u := l) (n := 8) (g := s10 44) (pc' := 77) (l' := [some (.ref 41), some (.int (nI u)), some (.int (nI l)), some (.int m), some (.int x)]) (t := [.int (f - (nI 0)), .ref 41]) (σ' := s10) (fun f => rfl) (by omega) (by omega) ?_
    refine pi_tp (y := z_bI (z_cb W l)) ((congrFun ((congrFun es10 44).symm.trans (pi_up_ne _ _ _ (by decide))) l).trans ((congrFun ((congrFun es9 44).symm.trans (pi_up_ne _ _ _ (by decide))) l).trans ((congrFun ((congrFun es8 44).symm.trans (pi_up_ne _ _ _ (by decide))) l).trans ((congrFun ((congrFun es2 44).symm.trans (pi_up_ne _ _ _ (by decide))) l).trans ((congrFun ((congrFun es1 44).symm.trans (pi_up_ne _ _ _ (by decide))) l).trans (hC l (by omega))))))) ?_
    refine pi_if 1 (c := z_bI (z_cb W l) = 0) (pc' := 84) (l' := [some (.ref 41), some (.int (nI u)), some (.int (nI l)), some (.int m), some (.int x)]) (st' := [.int (f - (nI 0)), .ref 41]) (σ' := s10) (pc2 := 80) (l2 := [some (.ref 41), some (.int (nI u)), some (.int (nI l)), some (.int m), some (.int x)]) (st2 := [.int (f - (nI 0)), .ref 41]) (σ2 := s10) (fun f => rfl) (fun h3 => ?_) (fun h3 => ?_)
    · refine pi_go 3 (pc' := 90) (l' := [some (.ref 41), some (.int (nI u)), some (.int (nI l)), some (.int m), some (.int x)]) (st' := []) (σ' := (pi_up s10 41 8 ((f - (nI 0)) + x))) (fun f => rfl) ?_
      generalize es11 : pi_up s10 41 8 ((f - (nI 0)) + x) = s11
      refine pi_rt 1 (v := none) (σ' := s11) (fun f => rfl) ?_
      exact ⟨rfl, (congrFun es11 42).symm.trans ((pi_up_ne _ _ _ (by decide)).trans ((congrFun es10 42).symm.trans ((pi_up_ne _ _ _ (by decide)).trans ((congrFun es9 42).symm.trans ((pi_up_self _ _ _ _).trans (congrArg (fun z => upd z l ((σ 42 l) + m)) ((congrFun es8 42).symm.trans ((pi_up_ne _ _ _ (by decide)).trans ((congrFun es2 42).symm.trans ((pi_up_ne _ _ _ (by decide)).trans ((congrFun es1 42).symm.trans ((pi_up_self _ _ _ _))))))))))))), (congrFun es11 43).symm.trans ((pi_up_ne _ _ _ (by decide)).trans ((congrFun es10 43).symm.trans ((pi_up_self _ _ _ _).trans (congrArg (fun z => upd z l ((σ 43 l) + x)) ((congrFun es9 43).symm.trans ((pi_up_ne _ _ _ (by decide)).trans ((congrFun es8 43).symm.trans ((pi_up_ne _ _ _ (by decide)).trans ((congrFun es2 43).symm.trans ((pi_up_self _ _ _ _).trans (congrArg (fun z => upd z u ((σ 43 u) - x)) ((congrFun es1 43).symm.trans ((pi_up_ne _ _ _ (by decide))))))))))))))), ((congrFun (congrFun es11 41) 8).symm.trans (pi_up_ss _ _ _ _)).trans (by unfold z_f1; rw [(show z_cb W u = true from z_bI_t h1), (show z_cb W l = false from (by have := z_bI_f h3; revert this; cases z_cb W l <;> decide))]; rfl), pi_fs_up es11 (by decide) (pi_fs_ne es10 (by decide) (pi_fs_ne es9 (by decide) (pi_fs_up es8 (by decide) (pi_fs_ne es2 (by decide) (pi_fs_ne es1 (by decide) (pi_fs_rf)))))), pi_fr_of es11 (by decide) (pi_fr_of es10 (by decide) (pi_fr_of es9 (by decide) (pi_fr_of es8 (by decide) (pi_fr_of es2 (by decide) (pi_fr_of es1 (by decide) (pi_fr_rf))))))⟩
    · refine pi_go 4 (pc' := 90) (l' := [some (.ref 41), some (.int (nI u)), some (.int (nI l)), some (.int m), some (.int x)]) (st' := []) (σ' := (pi_up s10 41 8 ((f - (nI 0)) + (nI 0)))) (fun f => rfl) ?_
      generalize es12 : pi_up s10 41 8 ((f - (nI 0)) + (nI 0)) = s12
      refine pi_rt 1 (v := none) (σ' := s12) (fun f => rfl) ?_
      exact ⟨rfl, (congrFun es12 42).symm.trans ((pi_up_ne _ _ _ (by decide)).trans ((congrFun es10 42).symm.trans ((pi_up_ne _ _ _ (by decide)).trans ((congrFun es9 42).symm.trans ((pi_up_self _ _ _ _).trans (congrArg (fun z => upd z l ((σ 42 l) + m)) ((congrFun es8 42).symm.trans ((pi_up_ne _ _ _ (by decide)).trans ((congrFun es2 42).symm.trans ((pi_up_ne _ _ _ (by decide)).trans ((congrFun es1 42).symm.trans ((pi_up_self _ _ _ _))))))))))))), (congrFun es12 43).symm.trans ((pi_up_ne _ _ _ (by decide)).trans ((congrFun es10 43).symm.trans ((pi_up_self _ _ _ _).trans (congrArg (fun z => upd z l ((σ 43 l) + x)) ((congrFun es9 43).symm.trans ((pi_up_ne _ _ _ (by decide)).trans ((congrFun es8 43).symm.trans ((pi_up_ne _ _ _ (by decide)).trans ((congrFun es2 43).symm.trans ((pi_up_self _ _ _ _).trans (congrArg (fun z => upd z u ((σ 43 u) - x)) ((congrFun es1 43).symm.trans ((pi_up_ne _ _ _ (by decide))))))))))))))), ((congrFun (congrFun es12 41) 8).symm.trans (pi_up_ss _ _ _ _)).trans (by unfold z_f1; rw [(show z_cb W u = true from z_bI_t h1), (show z_cb W l = true from z_bI_t h3)]; rfl), pi_fs_up es12 (by decide) (pi_fs_ne es10 (by decide) (pi_fs_ne es9 (by decide) (pi_fs_up es8 (by decide) (pi_fs_ne es2 (by decide) (pi_fs_ne es1 (by decide) (pi_fs_rf)))))), pi_fr_of es12 (by decide) (pi_fr_of es10 (by decide) (pi_fr_of es9 (by decide) (pi_fr_of es8 (by decide) (pi_fr_of es2 (by decide) (pi_fr_of es1 (by decide) (pi_fr_rf))))))⟩
def z_RB (W : zW) (s : pi_S) (t : Int32 × Nat × Nat) : Prop := s 41 9 = t.1 ∧ s 41 7 = nI t.2.1 ∧ t.2.1 ≤ 3 ∧ ∀ j, j < t.2.1 → s 46 j = nI (z_rw W.ns t.2.1 t.2.2 j)
theorem z_RB.of {W : zW} {s σ : pi_S} {t : Int32 × Nat × Nat} (h : z_RB W σ t) (e9 : s 41 9 = σ 41 9) (e7 : s 41 7 = σ 41 7) (e : s 46 = σ 46) : z_RB W s t := ⟨e9.trans h.1, e7.trans h.2.1, h.2.2.1, fun j hj => by rw [e]; exact h.2.2.2 j hj⟩
def z_RR (W : zW) (s : pi_S) (n c : Nat) : Prop := ∀ j, j < n → s 45 j = nI (z_rw W.ns n c j)
theorem z_cmp_n {size c : Nat} {f : Int32} {t : Int32 × Nat × Nat} (h : ¬ (f < t.1 ∨ (f = t.1 ∧ size < t.2.1))) : z_cmp size f c t = t := if_neg h
theorem z_cmp_y {size c : Nat} {f : Int32} {t : Int32 × Nat × Nat} (h : f < t.1 ∨ (f = t.1 ∧ size < t.2.1)) : z_cmp size f c t = (f, size, c) := if_pos h
theorem z_lt_of {a b : Int32} (h1 : ¬ b < a) (h2 : ¬ a = b) : a < b := by
  rw [Int32.lt_iff_toInt_lt] at *
  have : a.toInt ≠ b.toInt := fun q => h2 (Int32.toInt_inj.mp q)
  omega
set_option maxRecDepth 20000 in
theorem pi_C_compare {xs : Nat → Int32} {L d : Nat} {W : zW} {σ : pi_S} {f : Int32} (h8 : σ 41 8 = f) {t : Int32 × Nat × Nat} (hB : z_RB W σ t) {size c : Nat} (hsz : size ≤ 3) (hR : z_RR W σ size c)  : pi_wp xs L d 35 0 [some (.ref 41), some (.int (nI size)), none] [] σ (fun v s => v = none ∧ z_RB W s (z_cmp size f c t) ∧ pi_fs 41 [7, 9] s σ ∧ pi_fr [41, 46] s σ) := by
  have ht3 := hB.2.2.1
  refine pi_go 2 (pc' := 4) (l' := [some (.ref 41), some (.int (nI size)), none]) (st' := [.int (σ 41 8)]) (σ' := σ) (fun f => rfl) ?_
  refine pi_tp (y := f) (h8) ?_
  refine pi_go 2 (pc' := 8) (l' := [some (.ref 41), some (.int (nI size)), none]) (st' := [.int (σ 41 9), .int f]) (σ' := σ) (fun f => rfl) ?_
  refine pi_tp (y := t.1) (hB.1) ?_
  refine pi_if 1 (c := t.1 < f) (pc' := 30) (l' := [some (.ref 41), some (.int (nI size)), none]) (st' := []) (σ' := σ) (pc2 := 11) (l2 := [some (.ref 41), some (.int (nI size)), none]) (st2 := []) (σ2 := σ) (fun f => rfl) (fun h1 => ?_) (fun h1 => ?_)
  · refine pi_rt 1 (v := none) (σ' := σ) (fun f => rfl) ?_
    exact ⟨rfl, by rw [z_cmp_n (fun q => q.elim (fun z => Int32.lt_irrefl (Int32.lt_trans z h1)) (fun z => Int32.lt_irrefl (by rw [z.1] at h1; exact h1)))]; exact hB, pi_fs_rf, pi_fr_rf⟩
  · refine pi_go 2 (pc' := 15) (l' := [some (.ref 41), some (.int (nI size)), none]) (st' := [.int (σ 41 8)]) (σ' := σ) (fun f => rfl) ?_
    refine pi_tp (y := f) (h8) ?_
    refine pi_go 2 (pc' := 19) (l' := [some (.ref 41), some (.int (nI size)), none]) (st' := [.int (σ 41 9), .int f]) (σ' := σ) (fun f => rfl) ?_
    refine pi_tp (y := t.1) (hB.1) ?_
    refine pi_if 1 (c := f = t.1) (pc' := 22) (l' := [some (.ref 41), some (.int (nI size)), none]) (st' := []) (σ' := σ) (pc2 := 31) (l2 := [some (.ref 41), some (.int (nI size)), none]) (st2 := []) (σ2 := σ) (fun f => rfl) (fun h2 => ?_) (fun h2 => ?_)
    · refine pi_go 3 (pc' := 27) (l' := [some (.ref 41), some (.int (nI size)), none]) (st' := [.int (σ 41 7), .int (nI size)]) (σ' := σ) (fun f => rfl) ?_
      refine pi_tp (y := nI t.2.1) (hB.2.1) ?_
      refine pi_if 1 (c := nI size < nI t.2.1) (pc' := 31) (l' := [some (.ref 41), some (.int (nI size)), none]) (st' := []) (σ' := σ) (pc2 := 30) (l2 := [some (.ref 41), some (.int (nI size)), none]) (st2 := []) (σ2 := σ) (fun f => rfl) (fun h3 => ?_) (fun h3 => ?_)
      · replace h3 : size < t.2.1 := (nI_ltI (by omega) (by omega)).mp h3
        refine pi_go 3 (pc' := 36) (l' := [some (.ref 41), some (.int (nI size)), none]) (st' := [.int (σ 41 8), .ref 41]) (σ' := σ) (fun f => rfl) ?_
        refine pi_tp (y := f) (h8) ?_
        refine pi_go 1 (pc' := 39) (l' := [some (.ref 41), some (.int (nI size)), none]) (st' := []) (σ' := (pi_up σ 41 9 f)) (fun f => rfl) ?_
        generalize es1 : pi_up σ 41 9 f = s1
        refine pi_go 3 (pc' := 44) (l' := [some (.ref 41), some (.int (nI size)), none]) (st' := []) (σ' := (pi_up s1 41 7 (nI size))) (fun f => rfl) ?_
        generalize es2 : pi_up s1 41 7 (nI size) = s2
        refine pi_go 2 (pc' := 46) (l' := [some (.ref 41), some (.int (nI size)), some (.int (nI 0))]) (st' := []) (σ' := s2) (fun f => rfl) ?_
        suffices hl3 : ∀ i, i ≤ size → ∀ (z3 : pi_S), pi_fr [41, 46] z3 σ → (pi_fs 41 [7, 9] z3 σ ∧ z3 41 9 = f ∧ z3 41 7 = nI size ∧ ∀ j, j < i → z3 46 j = nI (z_rw W.ns size c j)) → pi_wp xs L d 35 46 [some (.ref 41), some (.int (nI size)), some (.int (nI i))] [] z3 (fun v s => v = none ∧ z_RB W s (z_cmp size f c t) ∧ pi_fs 41 [7, 9] s σ ∧ pi_fr [41, 46] s σ) from hl3 0 (by omega) _ (pi_fr_of es2 (by decide) (pi_fr_of es1 (by decide) (pi_fr_rf))) (⟨pi_fs_up es2 (by decide) (pi_fs_up es1 (by decide) (pi_fs_rf)), (congrFun (congrFun es2 41) 9).symm.trans ((pi_up_sn _ _ _ (by decide)).trans ((congrFun (congrFun es1 41) 9).symm.trans (pi_up_ss _ _ _ _))), (congrFun (congrFun es2 41) 7).symm.trans (pi_up_ss _ _ _ _), fun j hj => absurd hj (Nat.not_lt_zero j)⟩)
        refine pi_lp0 ?_ ?_
        · intro z3 hrz3 hx3
          refine pi_ct 3 (c := nI size ≤ nI size) (pc' := 74) (l' := [some (.ref 41), some (.int (nI size)), some (.int (nI size))]) (st' := []) (σ' := z3) (pc2 := 51) (l2 := [some (.ref 41), some (.int (nI size)), some (.int (nI size))]) (st2 := []) (σ2 := z3) (fun f => rfl) ((show nI size ≤ nI size ↔ _ from nI_leI (by omega) (by omega)).mpr (by omega)) ?_
          refine pi_rt 1 (v := none) (σ' := z3) (fun f => rfl) ?_
          exact ⟨rfl, by rw [z_cmp_y (Or.inr ⟨h2, h3⟩)]; exact ⟨hx3.2.1, hx3.2.2.1, hsz, hx3.2.2.2⟩, hx3.1, pi_fr_tr hrz3 (by decide) (pi_fr_rf)⟩
        · intro i hi3 ih3 z3 hrz3 hx3
          refine pi_cf 3 (c := nI size ≤ nI i) (pc' := 51) (l' := [some (.ref 41), some (.int (nI size)), some (.int (nI i))]) (st' := []) (σ' := z3) (pc2 := 74) (l2 := [some (.ref 41), some (.int (nI size)), some (.int (nI i))]) (st2 := []) (σ2 := z3) (fun f => rfl) (fun zq => absurd ((show nI size ≤ nI i ↔ _ from nI_leI (by omega) (by omega)).mp zq) (by omega)) ?_
          refine pi_cf 3 (c := nI 3 ≤ nI i) (pc' := 56) (l' := [some (.ref 41), some (.int (nI size)), some (.int (nI i))]) (st' := []) (σ' := z3) (pc2 := 74) (l2 := [some (.ref 41), some (.int (nI size)), some (.int (nI i))]) (st2 := []) (σ2 := z3) (fun f => rfl) (fun zq => absurd ((show nI 3 ≤ nI i ↔ _ from nI_leI (by omega) (by omega)).mp zq) (by omega)) ?_
          refine pi_ai 7 (u := i) (n := 3) (g := z3 45) (pc' := 67) (l' := [some (.ref 41), some (.int (nI size)), some (.int (nI i))]) (t := [.int (nI i), .ref 46]) (σ' := z3) (fun f => rfl) (by omega) (by omega) ?_
          refine pi_tp (y := nI (z_rw W.ns size c i)) ((congrFun (hrz3 45 (by decide)) i).trans (hR i (by omega))) ?_
          refine pi_au 1 (u := i) (n := 3) (a := 46) (x := nI (z_rw W.ns size c i)) (pc' := 68) (l' := [some (.ref 41), some (.int (nI size)), some (.int (nI i))]) (t := []) (σ' := z3) (fun f => rfl) (by omega) (by omega) ?_
          generalize es4 : pi_up z3 46 i (nI (z_rw W.ns size c i)) = s4
          refine pi_go 1 (pc' := 71) (l' := [some (.ref 41), some (.int (nI size)), some (.int (nI i + nI 1))]) (st' := []) (σ' := s4) (fun f => rfl) ?_
          rw [show nI i + nI 1 = nI (i + 1) from nI_add _ 1]
          refine pi_go 1 (pc' := 46) (l' := [some (.ref 41), some (.int (nI size)), some (.int (nI (i + 1)))]) (st' := []) (σ' := s4) (fun f => rfl) ?_
          exact ih3 _ (pi_fr_of es4 (by decide) (pi_fr_tr hrz3 (by decide) (pi_fr_rf))) (⟨pi_fs_ne es4 (by decide) hx3.1, (congrFun ((congrFun es4 41).symm.trans (pi_up_ne _ _ _ (by decide))) 9).trans (hx3.2.1), (congrFun ((congrFun es4 41).symm.trans (pi_up_ne _ _ _ (by decide))) 7).trans (hx3.2.2.1), lt_s (fun j hj => (congrFun ((congrFun es4 46).symm.trans ((pi_up_self _ _ _ _))) j).trans ((if_neg (by omega)).trans (hx3.2.2.2 j hj))) ((congrFun ((congrFun es4 46).symm.trans ((pi_up_self _ _ _ _))) i).trans (if_pos rfl))⟩)
      · replace h3 : ¬ (size < t.2.1) := fun zq => h3 ((nI_ltI (by omega) (by omega)).mpr zq)
        refine pi_rt 1 (v := none) (σ' := σ) (fun f => rfl) ?_
        exact ⟨rfl, by rw [z_cmp_n (fun q => q.elim (fun z => Int32.lt_irrefl (by rw [h2] at z; exact z)) (fun z => h3 z.2))]; exact hB, pi_fs_rf, pi_fr_rf⟩
    · refine pi_go 3 (pc' := 36) (l' := [some (.ref 41), some (.int (nI size)), none]) (st' := [.int (σ 41 8), .ref 41]) (σ' := σ) (fun f => rfl) ?_
      refine pi_tp (y := f) (h8) ?_
      refine pi_go 1 (pc' := 39) (l' := [some (.ref 41), some (.int (nI size)), none]) (st' := []) (σ' := (pi_up σ 41 9 f)) (fun f => rfl) ?_
      generalize es5 : pi_up σ 41 9 f = s5
      refine pi_go 3 (pc' := 44) (l' := [some (.ref 41), some (.int (nI size)), none]) (st' := []) (σ' := (pi_up s5 41 7 (nI size))) (fun f => rfl) ?_
      generalize es6 : pi_up s5 41 7 (nI size) = s6
      refine pi_go 2 (pc' := 46) (l' := [some (.ref 41), some (.int (nI size)), some (.int (nI 0))]) (st' := []) (σ' := s6) (fun f => rfl) ?_
      suffices hl7 : ∀ i, i ≤ size → ∀ (z7 : pi_S), pi_fr [41, 46] z7 σ → (pi_fs 41 [7, 9] z7 σ ∧ z7 41 9 = f ∧ z7 41 7 = nI size ∧ ∀ j, j < i → z7 46 j = nI (z_rw W.ns size c j)) → pi_wp xs L d 35 46 [some (.ref 41), some (.int (nI size)), some (.int (nI i))] [] z7 (fun v s => v = none ∧ z_RB W s (z_cmp size f c t) ∧ pi_fs 41 [7, 9] s σ ∧ pi_fr [41, 46] s σ) from hl7 0 (by omega) _ (pi_fr_of es6 (by decide) (pi_fr_of es5 (by decide) (pi_fr_rf))) (⟨pi_fs_up es6 (by decide) (pi_fs_up es5 (by decide) (pi_fs_rf)), (congrFun (congrFun es6 41) 9).symm.trans ((pi_up_sn _ _ _ (by decide)).trans ((congrFun (congrFun es5 41) 9).symm.trans (pi_up_ss _ _ _ _))), (congrFun (congrFun es6 41) 7).symm.trans (pi_up_ss _ _ _ _), fun j hj => absurd hj (Nat.not_lt_zero j)⟩)
      refine pi_lp0 ?_ ?_
      · intro z7 hrz7 hx7
        refine pi_ct 3 (c := nI size ≤ nI size) (pc' := 74) (l' := [some (.ref 41), some (.int (nI size)), some (.int (nI size))]) (st' := []) (σ' := z7) (pc2 := 51) (l2 := [some (.ref 41), some (.int (nI size)), some (.int (nI size))]) (st2 := []) (σ2 := z7) (fun f => rfl) ((show nI size ≤ nI size ↔ _ from nI_leI (by omega) (by omega)).mpr (by omega)) ?_
        refine pi_rt 1 (v := none) (σ' := z7) (fun f => rfl) ?_
        exact ⟨rfl, by rw [z_cmp_y (Or.inl (z_lt_of h1 h2))]; exact ⟨hx7.2.1, hx7.2.2.1, hsz, hx7.2.2.2⟩, hx7.1, pi_fr_tr hrz7 (by decide) (pi_fr_rf)⟩
      · intro i hi7 ih7 z7 hrz7 hx7
        refine pi_cf 3 (c := nI size ≤ nI i) (pc' := 51) (l' := [some (.ref 41), some (.int (nI size)), some (.int (nI i))]) (st' := []) (σ' := z7) (pc2 := 74) (l2 := [some (.ref 41), some (.int (nI size)), some (.int (nI i))]) (st2 := []) (σ2 := z7) (fun f => rfl) (fun zq => absurd ((show nI size ≤ nI i ↔ _ from nI_leI (by omega) (by omega)).mp zq) (by omega)) ?_
        refine pi_cf 3 (c := nI 3 ≤ nI i) (pc' := 56) (l' := [some (.ref 41), some (.int (nI size)), some (.int (nI i))]) (st' := []) (σ' := z7) (pc2 := 74) (l2 := [some (.ref 41), some (.int (nI size)), some (.int (nI i))]) (st2 := []) (σ2 := z7) (fun f => rfl) (fun zq => absurd ((show nI 3 ≤ nI i ↔ _ from nI_leI (by omega) (by omega)).mp zq) (by omega)) ?_
        refine pi_ai 7 (u := i) (n := 3) (g := z7 45) (pc' := 67) (l' := [some (.ref 41), some (.int (nI size)), some (.int (nI i))]) (t := [.int (nI i), .ref 46]) (σ' := z7) (fun f => rfl) (by omega) (by omega) ?_
        refine pi_tp (y := nI (z_rw W.ns size c i)) ((congrFun (hrz7 45 (by decide)) i).trans (hR i (by omega))) ?_
        refine pi_au 1 (u := i) (n := 3) (a := 46) (x := nI (z_rw W.ns size c i)) (pc' := 68) (l' := [some (.ref 41), some (.int (nI size)), some (.int (nI i))]) (t := []) (σ' := z7) (fun f => rfl) (by omega) (by omega) ?_
        generalize es8 : pi_up z7 46 i (nI (z_rw W.ns size c i)) = s8
        refine pi_go 1 (pc' := 71) (l' := [some (.ref 41), some (.int (nI size)), some (.int (nI i + nI 1))]) (st' := []) (σ' := s8) (fun f => rfl) ?_
        rw [show nI i + nI 1 = nI (i + 1) from nI_add _ 1]
        refine pi_go 1 (pc' := 46) (l' := [some (.ref 41), some (.int (nI size)), some (.int (nI (i + 1)))]) (st' := []) (σ' := s8) (fun f => rfl) ?_
        exact ih7 _ (pi_fr_of es8 (by decide) (pi_fr_tr hrz7 (by decide) (pi_fr_rf))) (⟨pi_fs_ne es8 (by decide) hx7.1, (congrFun ((congrFun es8 41).symm.trans (pi_up_ne _ _ _ (by decide))) 9).trans (hx7.2.1), (congrFun ((congrFun es8 41).symm.trans (pi_up_ne _ _ _ (by decide))) 7).trans (hx7.2.2.1), lt_s (fun j hj => (congrFun ((congrFun es8 46).symm.trans ((pi_up_self _ _ _ _))) j).trans ((if_neg (by omega)).trans (hx7.2.2.2 j hj))) ((congrFun ((congrFun es8 46).symm.trans ((pi_up_self _ _ _ _))) i).trans (if_pos rfl))⟩)
theorem z_RR.next {W : zW} {s σ : pi_S} {n c k : Nat} (hk : k < W.ns) (h : z_RR W σ n c) (e : s 45 = upd (σ 45) n (nI k)) : z_RR W s (n + 1) (c * W.ns + k) := by
  intro j hj
  obtain ⟨e1, e2⟩ := z_dm (c' := c) hk
  rw [e]
  by_cases q : j = n
  · rw [q, z_upd_s, z_rw_hi, e2]
  · rw [z_upd_n _ _ q, z_rw_lo (by omega), e1]
    exact h j (by omega)
theorem z_RR.back {W : zW} {s : pi_S} {n c k : Nat} (hk : k < W.ns) (h : z_RR W s (n + 1) (c * W.ns + k)) : z_RR W s n c := by
  intro j hj
  obtain ⟨e1, e2⟩ := z_dm (c' := c) hk
  have := h j (by omega)
  rwa [z_rw_lo hj, e1] at this
theorem z_RR.of {W : zW} {s σ : pi_S} {n c : Nat} (h : z_RR W σ n c) (e : s 45 = σ 45) : z_RR W s n c := fun j hj => by rw [e]; exact h j hj
theorem z_f1_un {W : zW} {u l : Nat} {f x : Int32} : z_f1 W l u (z_f1 W u l f x) x = f := by
  unfold z_f1
  generalize cond (z_cb W u) (nI 0) x = a
  generalize cond (z_cb W l) (nI 0) x = b
  rw [Int32.add_sub_cancel, Int32.sub_add_cancel]
set_option maxRecDepth 20000 in
theorem pi_C_extend {xs : Nat → Int32} {L d : Nat} {W : zW} : ∀ (n : Nat) {σ : pi_S} (hc : z_CK W σ) {dep most c : Nat} (hn : dep + n = most) (hm3 : most ≤ 3) {b w : Nat → Int32} {f : Int32} {t : Int32 × Nat × Nat} (h42 : σ 42 = b) (h43 : σ 43 = w) (h8 : σ 41 8 = f) (hB : z_RB W σ t) (hR : z_RR W σ dep c) (hC : ∀ e, e < W.nd → σ 44 e = z_bI (z_cb W e)), pi_wp xs L (d + n + 2) 33 0 [some (.ref 41), some (.int (nI dep)), some (.int (nI most)), none, none, none, none, none] [] σ (fun v s => v = none ∧ s 42 = b ∧ s 43 = w ∧ s 41 8 = f ∧ z_RB W s (z_ex W n dep b w f c t) ∧ z_RR W s dep c ∧ pi_fs 41 [7, 8, 9] s σ ∧ pi_fr [41, 42, 43, 45, 46] s σ) := by
  intro n
  induction n with
  | zero =>
    intro σ hc dep most c hn hm3 b w f t h42 h43 h8 hB hR hC
    refine pi_cf 2 (c := nI dep < 0) (pc' := 4) (l' := [some (.ref 41), some (.int (nI dep)), some (.int (nI most)), none, none, none, none, none]) (st' := []) (σ' := σ) (pc2 := 9) (l2 := [some (.ref 41), some (.int (nI dep)), some (.int (nI most)), none, none, none, none, none]) (st2 := []) (σ2 := σ) (fun f => rfl) (fun zq => absurd ((show nI dep < nI 0 ↔ _ from nI_ltI (by omega) (by omega)).mp zq) (by omega)) ?_
    refine pi_cf 3 (c := nI dep < nI most) (pc' := 9) (l' := [some (.ref 41), some (.int (nI dep)), some (.int (nI most)), none, none, none, none, none]) (st' := []) (σ' := σ) (pc2 := 10) (l2 := [some (.ref 41), some (.int (nI dep)), some (.int (nI most)), none, none, none, none, none]) (st2 := []) (σ2 := σ) (fun f => rfl) (fun q => absurd ((nI_ltI (by omega) (by omega)).mp q) (by omega)) ?_
    refine pi_rt 1 (v := none) (σ' := σ) (fun f => rfl) ?_
    exact ⟨rfl, h42, h43, h8, hB, hR, pi_fs_rf, pi_fr_rf⟩
  | succ n ih =>
    intro σ hc dep most c hn hm3 b w f t h42 h43 h8 hB hR hC
    have hk := hc.p.wk
    have hnd8 := hk.wd.nd8
    have hns12 := hk.wd.ns12
    have hn60 := hk.nine
    have hnf := hk.nf
    have hnw := hk.nw
    have hnc := hk.nc
    have hn08 := hk.wd.n0
    have hn140 := hk.wd.n1
    refine pi_cf 2 (c := nI dep < 0) (pc' := 4) (l' := [some (.ref 41), some (.int (nI dep)), some (.int (nI most)), none, none, none, none, none]) (st' := []) (σ' := σ) (pc2 := 9) (l2 := [some (.ref 41), some (.int (nI dep)), some (.int (nI most)), none, none, none, none, none]) (st2 := []) (σ2 := σ) (fun f => rfl) (fun zq => absurd ((show nI dep < nI 0 ↔ _ from nI_ltI (by omega) (by omega)).mp zq) (by omega)) ?_
    refine pi_ct 3 (c := nI dep < nI most) (pc' := 10) (l' := [some (.ref 41), some (.int (nI dep)), some (.int (nI most)), none, none, none, none, none]) (st' := []) (σ' := σ) (pc2 := 9) (l2 := [some (.ref 41), some (.int (nI dep)), some (.int (nI most)), none, none, none, none, none]) (st2 := []) (σ2 := σ) (fun f => rfl) ((nI_ltI (by omega) (by omega)).mpr (by omega)) ?_
    refine pi_go 2 (pc' := 12) (l' := [some (.ref 41), some (.int (nI dep)), some (.int (nI most)), some (.int (nI 0)), none, none, none, none]) (st' := []) (σ' := σ) (fun f => rfl) ?_
    suffices hl1 : ∀ k, k ≤ W.ns → ∀ (j4 j5 j6 j7 : Option Value), ∀ (z1 : pi_S), z1 42 = b → z1 43 = w → pi_fr [41, 42, 43, 45, 46] z1 σ → (z1 41 8 = f ∧ z_RB W z1 (z_xl W n dep b w f c k t) ∧ z_RR W z1 dep c ∧ pi_fs 41 [7, 8, 9] z1 σ) → pi_wp xs L (d + (n + 1) + 2) 33 12 [some (.ref 41), some (.int (nI dep)), some (.int (nI most)), some (.int (nI k)), j4, j5, j6, j7] [] z1 (fun v s => v = none ∧ s 42 = b ∧ s 43 = w ∧ s 41 8 = f ∧ z_RB W s (z_ex W (n + 1) dep b w f c t) ∧ z_RR W s dep c ∧ pi_fs 41 [7, 8, 9] s σ ∧ pi_fr [41, 42, 43, 45, 46] s σ) from hl1 0 (by omega) _ _ _ _ _ (h42) (h43) (pi_fr_rf) (⟨h8, hB, hR, pi_fs_rf⟩)
    refine pi_lp0 ?_ ?_
    · intro j4 j5 j6 j7 z1 fz1_42 fz1_43 hrz1 hx1
      refine pi_go 4 (pc' := 20) (l' := [some (.ref 41), some (.int (nI dep)), some (.int (nI most)), some (.int (nI W.ns)), j4, j5, j6, j7]) (st' := [.int (z1 1 9), .int (nI W.ns)]) (σ' := z1) (fun f => rfl) ?_
      refine pi_tp (y := nI W.ns) ((congrFun (hrz1 1 (by decide)) 9).trans (hc.t.st)) ?_
      refine pi_ct 1 (c := nI W.ns ≤ nI W.ns) (pc' := 143) (l' := [some (.ref 41), some (.int (nI dep)), some (.int (nI most)), some (.int (nI W.ns)), j4, j5, j6, j7]) (st' := []) (σ' := z1) (pc2 := 23) (l2 := [some (.ref 41), some (.int (nI dep)), some (.int (nI most)), some (.int (nI W.ns)), j4, j5, j6, j7]) (st2 := []) (σ2 := z1) (fun f => rfl) ((show nI W.ns ≤ nI W.ns ↔ _ from nI_leI (by omega) (by omega)).mpr (by omega)) ?_
      refine pi_rt 1 (v := none) (σ' := z1) (fun f => rfl) ?_
      exact ⟨rfl, fz1_42, fz1_43, hx1.1, hx1.2.1, hx1.2.2.1, hx1.2.2.2, pi_fr_tr hrz1 (by decide) (pi_fr_rf)⟩
    · intro k hi1 ih1 j4 j5 j6 j7 z1 fz1_42 fz1_43 hrz1 hx1
      have hul := hk.wd.us k (by omega)
      have hne := z_us_ne hk (show k < W.ns by omega)
      refine pi_go 4 (pc' := 20) (l' := [some (.ref 41), some (.int (nI dep)), some (.int (nI most)), some (.int (nI k)), j4, j5, j6, j7]) (st' := [.int (z1 1 9), .int (nI k)]) (σ' := z1) (fun f => rfl) ?_
      refine pi_tp (y := nI W.ns) ((congrFun (hrz1 1 (by decide)) 9).trans (hc.t.st)) ?_
      refine pi_cf 1 (c := nI W.ns ≤ nI k) (pc' := 23) (l' := [some (.ref 41), some (.int (nI dep)), some (.int (nI most)), some (.int (nI k)), j4, j5, j6, j7]) (st' := []) (σ' := z1) (pc2 := 143) (l2 := [some (.ref 41), some (.int (nI dep)), some (.int (nI most)), some (.int (nI k)), j4, j5, j6, j7]) (st2 := []) (σ2 := z1) (fun f => rfl) (fun zq => absurd ((show nI W.ns ≤ nI k ↔ _ from nI_leI (by omega) (by omega)).mp zq) (by omega)) ?_
      refine pi_ai 5 (u := k) (n := 12) (g := z1 7) (pc' := 32) (l' := [some (.ref 41), some (.int (nI dep)), some (.int (nI most)), some (.int (nI k)), j4, j5, j6, j7]) (t := []) (σ' := z1) (fun f => rfl) (by omega) (by omega) ?_
      refine pi_tp (y := nI (W.up k)) ((congrFun (hrz1 7 (by decide)) k).trans ((hc.t.ul k (by omega)).1)) ?_
      refine pi_ai 6 (u := k) (n := 12) (g := z1 8) (pc' := 43) (l' := [some (.ref 41), some (.int (nI dep)), some (.int (nI most)), some (.int (nI k)), some (.int (nI (W.up k))), j5, j6, j7]) (t := []) (σ' := z1) (fun f => rfl) (by omega) (by omega) ?_
      refine pi_tp (y := nI (W.lo k)) ((congrFun (hrz1 8 (by decide)) k).trans ((hc.t.ul k (by omega)).2)) ?_
      refine pi_ai 5 (u := W.up k) (n := 8) (g := z1 42) (pc' := 52) (l' := [some (.ref 41), some (.int (nI dep)), some (.int (nI most)), some (.int (nI k)), some (.int (nI (W.up k))), some (.int (nI (W.lo k))), j6, j7]) (t := []) (σ' := z1) (fun f => rfl) (by omega) (by omega) ?_
      refine pi_tp (y := b (W.up k)) (congrFun (fz1_42) (W.up k)) ?_
      refine pi_ai 5 (u := W.up k) (n := 8) (g := z1 43) (pc' := 61) (l' := [some (.ref 41), some (.int (nI dep)), some (.int (nI most)), some (.int (nI k)), some (.int (nI (W.up k))), some (.int (nI (W.lo k))), some (.int (b (W.up k))), j7]) (t := []) (σ' := z1) (fun f => rfl) (by omega) (by omega) ?_
      refine pi_tp (y := w (W.up k)) (congrFun (fz1_43) (W.up k)) ?_
      refine pi_if 3 (c := b (W.up k) ≤ 0) (pc' := 137) (l' := [some (.ref 41), some (.int (nI dep)), some (.int (nI most)), some (.int (nI k)), some (.int (nI (W.up k))), some (.int (nI (W.lo k))), some (.int (b (W.up k))), some (.int (w (W.up k)))]) (st' := []) (σ' := z1) (pc2 := 68) (l2 := [some (.ref 41), some (.int (nI dep)), some (.int (nI most)), some (.int (nI k)), some (.int (nI (W.up k))), some (.int (nI (W.lo k))), some (.int (b (W.up k))), some (.int (w (W.up k)))]) (st2 := []) (σ2 := z1) (fun f => rfl) (fun h1 => ?_) (fun h1 => ?_)
      · refine pi_go 1 (pc' := 140) (l' := [some (.ref 41), some (.int (nI dep)), some (.int (nI most)), some (.int (nI k + nI 1)), some (.int (nI (W.up k))), some (.int (nI (W.lo k))), some (.int (b (W.up k))), some (.int (w (W.up k)))]) (st' := []) (σ' := z1) (fun f => rfl) ?_
        rw [show nI k + nI 1 = nI (k + 1) from nI_add _ 1]
        refine pi_go 1 (pc' := 12) (l' := [some (.ref 41), some (.int (nI dep)), some (.int (nI most)), some (.int (nI (k + 1))), some (.int (nI (W.up k))), some (.int (nI (W.lo k))), some (.int (b (W.up k))), some (.int (w (W.up k)))]) (st' := []) (σ' := z1) (fun f => rfl) ?_
        exact ih1 _ _ _ _ _ (fz1_42) (fz1_43) (pi_fr_tr hrz1 (by decide) (pi_fr_rf)) (⟨hx1.1, by rw [z_xl_n (fun q => Int32.not_lt.mpr h1 q.1)]; exact hx1.2.1, hx1.2.2⟩)
      · refine pi_ai 5 (u := W.lo k) (n := 8) (g := z1 42) (pc' := 77) (l' := [some (.ref 41), some (.int (nI dep)), some (.int (nI most)), some (.int (nI k)), some (.int (nI (W.up k))), some (.int (nI (W.lo k))), some (.int (b (W.up k))), some (.int (w (W.up k)))]) (t := [.int (b (W.up k))]) (σ' := z1) (fun f => rfl) (by omega) (by omega) ?_
        refine pi_tp (y := b (W.lo k)) (congrFun (fz1_42) (W.lo k)) ?_
        refine pi_ai 6 (u := W.lo k) (n := 8) (g := z1 14) (pc' := 88) (l' := [some (.ref 41), some (.int (nI dep)), some (.int (nI most)), some (.int (nI k)), some (.int (nI (W.up k))), some (.int (nI (W.lo k))), some (.int (b (W.up k))), some (.int (w (W.up k)))]) (t := [.int ((b (W.up k)) + (b (W.lo k)))]) (σ' := z1) (fun f => rfl) (by omega) (by omega) ?_
        refine pi_tp (y := W.hd (W.lo k)) ((congrFun (hrz1 14 (by decide)) (W.lo k)).trans ((hc.p.hd (W.lo k) (by omega)))) ?_
        refine pi_if 1 (c := W.hd (W.lo k) < (b (W.up k)) + (b (W.lo k))) (pc' := 137) (l' := [some (.ref 41), some (.int (nI dep)), some (.int (nI most)), some (.int (nI k)), some (.int (nI (W.up k))), some (.int (nI (W.lo k))), some (.int (b (W.up k))), some (.int (w (W.up k)))]) (st' := []) (σ' := z1) (pc2 := 91) (l2 := [some (.ref 41), some (.int (nI dep)), some (.int (nI most)), some (.int (nI k)), some (.int (nI (W.up k))), some (.int (nI (W.lo k))), some (.int (b (W.up k))), some (.int (w (W.up k)))]) (st2 := []) (σ2 := z1) (fun f => rfl) (fun h2 => ?_) (fun h2 => ?_)
        · refine pi_go 1 (pc' := 140) (l' := [some (.ref 41), some (.int (nI dep)), some (.int (nI most)), some (.int (nI k + nI 1)), some (.int (nI (W.up k))), some (.int (nI (W.lo k))), some (.int (b (W.up k))), some (.int (w (W.up k)))]) (st' := []) (σ' := z1) (fun f => rfl) ?_
          rw [show nI k + nI 1 = nI (k + 1) from nI_add _ 1]
          refine pi_go 1 (pc' := 12) (l' := [some (.ref 41), some (.int (nI dep)), some (.int (nI most)), some (.int (nI (k + 1))), some (.int (nI (W.up k))), some (.int (nI (W.lo k))), some (.int (b (W.up k))), some (.int (w (W.up k)))]) (st' := []) (σ' := z1) (fun f => rfl) ?_
          exact ih1 _ _ _ _ _ (fz1_42) (fz1_43) (pi_fr_tr hrz1 (by decide) (pi_fr_rf)) (⟨hx1.1, by rw [z_xl_n (fun q => Int32.not_lt.mpr q.2 h2)]; exact hx1.2.1, hx1.2.2⟩)
        · refine pi_au 5 (u := dep) (n := 3) (a := 45) (x := nI k) (pc' := 98) (l' := [some (.ref 41), some (.int (nI dep)), some (.int (nI most)), some (.int (nI k)), some (.int (nI (W.up k))), some (.int (nI (W.lo k))), some (.int (b (W.up k))), some (.int (w (W.up k)))]) (t := []) (σ' := z1) (fun f => rfl) (by omega) (by omega) ?_
          generalize es2 : pi_up z1 45 dep (nI k) = s2
          refine pi_ca 6 (m' := 34) (l' := [some (.ref 41), some (.int (nI (W.up k))), some (.int (nI (W.lo k))), some (.int (b (W.up k))), some (.int (w (W.up k)))]) (σ' := s2) (pc2 := 110) (l2 := [some (.ref 41), some (.int (nI dep)), some (.int (nI most)), some (.int (nI k)), some (.int (nI (W.up k))), some (.int (nI (W.lo k))), some (.int (b (W.up k))), some (.int (w (W.up k)))]) (t := []) (fun f => rfl) (pi_C_move hnd8 (fun e he => (congrFun ((congrFun es2 44).symm.trans ((pi_up_ne _ _ _ (by decide)).trans ((hrz1 44 (by decide)).trans (rfl)))) e).trans (hC e he)) (u := W.up k) (l := W.lo k) hul.2.2.1 hul.2.2.2.1 (hne.2.2) ((congrFun ((congrFun es2 41).symm.trans (pi_up_ne _ _ _ (by decide))) 8).trans (hx1.1)) (b (W.up k)) (w (W.up k))) ?_
          rintro _ t3 ⟨rfl, at3, bt3, gt3, kt3, rt3⟩
          have et3_42 : t3 42 = z_mv (W.up k) (W.lo k) b := by rw [at3, (congrFun es2 42).symm.trans ((pi_up_ne _ _ _ (by decide)).trans (fz1_42))]; rfl
          have et3_43 : t3 43 = z_mv (W.up k) (W.lo k) w := by rw [bt3, (congrFun es2 43).symm.trans ((pi_up_ne _ _ _ (by decide)).trans (fz1_43))]; rfl
          refine pi_go 4 (pc' := 114) (l' := [some (.ref 41), some (.int (nI dep)), some (.int (nI most)), some (.int (nI k)), some (.int (nI (W.up k))), some (.int (nI (W.lo k))), some (.int (b (W.up k))), some (.int (w (W.up k)))]) (st' := [.int (nI dep + nI 1), .ref 41]) (σ' := t3) (fun f => rfl) ?_
          refine pi_tp (y := nI (dep + 1)) (nI_add _ _) ?_
          have hRn : z_RR W t3 (dep + 1) (c * W.ns + k) := (hx1.2.2.1.next (by omega) ((congrFun es2 45).symm.trans (pi_up_self _ _ _ _))).of (rt3 45 (by decide))
          have hBn : z_RB W t3 (z_xl W n dep b w f c k t) := z_RB.of (hx1.2.1.of (congrFun ((congrFun es2 41).symm.trans (pi_up_ne _ _ _ (by decide))) 9) (congrFun ((congrFun es2 41).symm.trans (pi_up_ne _ _ _ (by decide))) 7) ((congrFun es2 46).symm.trans (pi_up_ne _ _ _ (by decide)))) (kt3 9 (by decide)) (kt3 7 (by decide)) (rt3 46 (by decide))
          refine pi_ca 1 (m' := 35) (l' := [some (.ref 41), some (.int (nI (dep + 1))), none]) (σ' := t3) (pc2 := 117) (l2 := [some (.ref 41), some (.int (nI dep)), some (.int (nI most)), some (.int (nI k)), some (.int (nI (W.up k))), some (.int (nI (W.lo k))), some (.int (b (W.up k))), some (.int (w (W.up k)))]) (t := []) (fun f => rfl) (pi_C_compare (W := W) (gt3) hBn (by omega) hRn) ?_
          rintro _ t4 ⟨rfl, Bt4, kt4, rt4⟩
          refine pi_go 4 (pc' := 121) (l' := [some (.ref 41), some (.int (nI dep)), some (.int (nI most)), some (.int (nI k)), some (.int (nI (W.up k))), some (.int (nI (W.lo k))), some (.int (b (W.up k))), some (.int (w (W.up k)))]) (st' := [.int (nI dep + nI 1), .ref 41]) (σ' := t4) (fun f => rfl) ?_
          refine pi_tp (y := nI (dep + 1)) (nI_add _ _) ?_
          refine pi_ca 2 (m' := 33) (l' := [some (.ref 41), some (.int (nI (dep + 1))), some (.int (nI most)), none, none, none, none, none]) (σ' := t4) (pc2 := 125) (l2 := [some (.ref 41), some (.int (nI dep)), some (.int (nI most)), some (.int (nI k)), some (.int (nI (W.up k))), some (.int (nI (W.lo k))), some (.int (b (W.up k))), some (.int (w (W.up k)))]) (t := []) (fun f => rfl) (ih (z_CK.of hc (pi_fr_tr rt4 (by decide) (pi_fr_tr rt3 (by decide) (pi_fr_of es2 (by decide) (pi_fr_tr hrz1 (by decide) (pi_fr_rf)))))) (dep := dep + 1) (most := most) (c := c * W.ns + k) (by omega) hm3 ((rt4 42 (by decide)).trans (et3_42)) ((rt4 43 (by decide)).trans (et3_43)) ((kt4 8 (by decide)).trans (gt3)) Bt4 (hRn.of (rt4 45 (by decide))) (fun e he => (congrFun ((rt4 44 (by decide)).trans ((rt3 44 (by decide)).trans ((congrFun es2 44).symm.trans ((pi_up_ne _ _ _ (by decide)).trans ((hrz1 44 (by decide)).trans (rfl)))))) e).trans (hC e he))) ?_
          rintro _ t5 ⟨rfl, xat5, xwt5, xft5, xbt5, xrt5, kt5, rt5⟩
          refine pi_ca 6 (m' := 34) (l' := [some (.ref 41), some (.int (nI (W.lo k))), some (.int (nI (W.up k))), some (.int (b (W.up k))), some (.int (w (W.up k)))]) (σ' := t5) (pc2 := 137) (l2 := [some (.ref 41), some (.int (nI dep)), some (.int (nI most)), some (.int (nI k)), some (.int (nI (W.up k))), some (.int (nI (W.lo k))), some (.int (b (W.up k))), some (.int (w (W.up k)))]) (t := []) (fun f => rfl) (pi_C_move hnd8 (fun e he => (congrFun ((rt5 44 (by decide)).trans ((rt4 44 (by decide)).trans ((rt3 44 (by decide)).trans ((congrFun es2 44).symm.trans ((pi_up_ne _ _ _ (by decide)).trans ((hrz1 44 (by decide)).trans (rfl))))))) e).trans (hC e he)) (u := W.lo k) (l := W.up k) hul.2.2.2.1 hul.2.2.1 (fun q => hne.2.2 q.symm) (xft5) (b (W.up k)) (w (W.up k))) ?_
          rintro _ t6 ⟨rfl, at6, bt6, gt6, kt6, rt6⟩
          have et6_42 : t6 42 = b := by rw [at6, xat5]; exact z_mv_un hne.2.2 b
          have et6_43 : t6 43 = w := by rw [bt6, xwt5]; exact z_mv_un hne.2.2 w
          have hz8 : t6 41 8 = f := (gt6).trans z_f1_un
          have hzB : z_RB W t6 (z_xl W n dep b w f c (k + 1) t) := by rw [z_xl_y ⟨Int32.not_le.mp h1, Int32.not_lt.mp h2⟩]; exact z_RB.of xbt5 (kt6 9 (by decide)) (kt6 7 (by decide)) (rt6 46 (by decide))
          have hzR : z_RR W t6 dep c := (z_RR.back (by omega) xrt5).of (rt6 45 (by decide))
          have hzS : pi_fs 41 [7, 8, 9] t6 σ := pi_fs_ca kt6 (by decide) (pi_fs_ca kt5 (by decide) (pi_fs_ca kt4 (by decide) (pi_fs_ca kt3 (by decide) (pi_fs_ne es2 (by decide) (hx1.2.2.2)))))
          refine pi_go 1 (pc' := 140) (l' := [some (.ref 41), some (.int (nI dep)), some (.int (nI most)), some (.int (nI k + nI 1)), some (.int (nI (W.up k))), some (.int (nI (W.lo k))), some (.int (b (W.up k))), some (.int (w (W.up k)))]) (st' := []) (σ' := t6) (fun f => rfl) ?_
          rw [show nI k + nI 1 = nI (k + 1) from nI_add _ 1]
          refine pi_go 1 (pc' := 12) (l' := [some (.ref 41), some (.int (nI dep)), some (.int (nI most)), some (.int (nI (k + 1))), some (.int (nI (W.up k))), some (.int (nI (W.lo k))), some (.int (b (W.up k))), some (.int (w (W.up k)))]) (st' := []) (σ' := t6) (fun f => rfl) ?_
          exact ih1 _ _ _ _ _ (et6_42) (et6_43) (pi_fr_tr rt6 (by decide) (pi_fr_tr rt5 (by decide) (pi_fr_tr rt4 (by decide) (pi_fr_tr rt3 (by decide) (pi_fr_of es2 (by decide) (pi_fr_tr hrz1 (by decide) (pi_fr_rf))))))) (⟨hz8, hzB, hzR, hzS⟩)
theorem pi_C_extend0 {xs : Nat → Int32} {L d : Nat} {W : zW} {σ : pi_S} (hc : z_CK W σ) {k : Nat} (hk4 : k < 4) {b w : Nat → Int32} {f : Int32} {t : Int32 × Nat × Nat} (h42 : σ 42 = b) (h43 : σ 43 = w) (h8 : σ 41 8 = f) (hB : z_RB W σ t) (hR : z_RR W σ 0 0) (hC : ∀ e, e < W.nd → σ 44 e = z_bI (z_cb W e)) : pi_wp xs L (d + 5) 33 0 [some (.ref 41), some (.int (nI 0)), some (.int (nI k)), none, none, none, none, none] [] σ (fun v s => v = none ∧ s 42 = b ∧ s 43 = w ∧ s 41 8 = f ∧ z_RB W s (z_ex W k 0 b w f 0 t) ∧ z_RR W s 0 0 ∧ pi_fs 41 [7, 8, 9] s σ ∧ pi_fr [41, 42, 43, 45, 46] s σ) :=
  match k, hk4 with
  | 0, _ => pi_C_extend (d := d + 3) 0 hc rfl (by omega) h42 h43 h8 hB hR hC
  | 1, _ => pi_C_extend (d := d + 2) 1 hc rfl (by omega) h42 h43 h8 hB hR hC
  | 2, _ => pi_C_extend (d := d + 1) 2 hc rfl (by omega) h42 h43 h8 hB hR hC
  | 3, _ => pi_C_extend (d := d) 3 hc rfl (by omega) h42 h43 h8 hB hR hC
  | n + 4, h => absurd h (by omega)
set_option maxRecDepth 20000 in
theorem pi_C_seek {xs : Nat → Int32} {L d : Nat} {W : zW} {σ : pi_S} (hc : z_CK W σ) {b w : Nat → Int32} {f : Int32} (h42 : σ 42 = b) (h43 : σ 43 = w) (h8 : σ 41 8 = f) (h9 : σ 41 9 = f) (h7 : σ 41 7 = nI 0) (hC : ∀ e, e < W.nd → σ 44 e = z_bI (z_cb W e)) {k : Nat} (hk4 : k < 4)  : pi_wp xs L (d + 6) 31 0 [some (.ref 41), some (.int (nI k))] [] σ (fun v s => v = none ∧ z_RB W s (z_ex W k 0 b w f 0 (f, 0, 0)) ∧ pi_fr [41, 42, 43, 45, 46] s σ) := by
  have hk := hc.p.wk
  have hnd8 := hk.wd.nd8
  have hns12 := hk.wd.ns12
  have hn60 := hk.nine
  have hnf := hk.nf
  have hnw := hk.nw
  have hnc := hk.nc
  have hn08 := hk.wd.n0
  have hn140 := hk.wd.n1
  refine pi_go 5 (pc' := 7) (l' := [some (.ref 41), some (.int (nI k))]) (st' := [.int (if nI 3 < nI k then nI 3 else nI k), .int (nI 0), .ref 41]) (σ' := σ) (fun f => rfl) ?_
  refine pi_tp (y := nI k) (if_neg (fun q => absurd ((nI_ltI (by omega) (by omega)).mp q) (by omega))) ?_
  refine pi_ca 1 (m' := 33) (l' := [some (.ref 41), some (.int (nI 0)), some (.int (nI k)), none, none, none, none, none]) (σ' := σ) (pc2 := 10) (l2 := [some (.ref 41), some (.int (nI k))]) (t := []) (fun f => rfl) (pi_C_extend0 hc hk4 (t := (f, 0, 0)) h42 h43 h8 ⟨h9, h7, by show 0 ≤ 3; omega, fun j hj => absurd hj (Nat.not_lt_zero j)⟩ (fun j hj => absurd hj (Nat.not_lt_zero j)) hC) ?_
  rintro _ t1 ⟨rfl, xat1, xwt1, xft1, xbt1, xrt1, kt1, rt1⟩
  refine pi_rt 1 (v := none) (σ' := t1) (fun f => rfl) ?_
  exact ⟨rfl, xbt1, pi_fr_tr rt1 (by decide) (pi_fr_rf)⟩
def z_bS (ns : Nat) (t : Int32 × Nat × Nat) (i : Nat) : Int32 := if i < t.2.1 then nI (z_rw ns t.2.1 t.2.2 i) else -1
theorem z_bS_lS {W : zW} (hk : z_wk W) (k i : Nat) : z_bS W.ns (z_xr W k) i = z_lS W k i := by
  rw [z_xr_ls hk]
  unfold z_bS z_lS z_dg z_rw
  by_cases q : i < (z_ls W (k + 1)).2.1
  · rw [if_pos q, if_pos (by omega)]
  · rw [if_neg q, if_neg (by omega)]
theorem z_bF_lB {W : zW} (hk : z_wk W) (k : Nat) : (z_xr W k).1 = z_lB W k := by
  rw [z_xr_ls hk]
  rfl
set_option maxRecDepth 20000 in
theorem pi_C_bestS {xs : Nat → Int32} {L d : Nat} {W : zW} {σ : pi_S} {t : Int32 × Nat × Nat} (hB : z_RB W σ t) {i : Nat} (hi : i < 3)  : pi_wp xs L (d + 1) 32 0 [some (.ref 41), some (.int (nI i))] [] σ (fun v s => v = some (.int (z_bS W.ns t i)) ∧ σ = s) := by
  have ht3 := hB.2.2.1
  refine pi_go 3 (pc' := 5) (l' := [some (.ref 41), some (.int (nI i))]) (st' := [.int (σ 41 7), .int (nI i)]) (σ' := σ) (fun f => rfl) ?_
  refine pi_tp (y := nI t.2.1) (hB.2.1) ?_
  refine pi_ca 1 (m' := 94) (l' := [some (.int (nI i)), some (.int (nI t.2.1))]) (σ' := σ) (pc2 := 8) (l2 := [some (.ref 41), some (.int (nI i))]) (t := []) (fun f => rfl) (pi_C_belowN (a := i) (b := t.2.1) (by omega) (by omega)) ?_
  rintro _ _ (⟨b1, rfl, rfl⟩ | ⟨b1, rfl, rfl⟩)
  · refine pi_cf 1 (c := nI 1 = 0) (pc' := 11) (l' := [some (.ref 41), some (.int (nI i))]) (st' := []) (σ' := σ) (pc2 := 20) (l2 := [some (.ref 41), some (.int (nI i))]) (st2 := []) (σ2 := σ) (fun f => rfl) (by decide) ?_
    refine pi_ai 4 (u := i) (n := 3) (g := σ 46) (pc' := 17) (l' := [some (.ref 41), some (.int (nI i))]) (t := []) (σ' := σ) (fun f => rfl) (by omega) (by omega) ?_
    refine pi_tp (y := nI (z_rw W.ns t.2.1 t.2.2 i)) (hB.2.2.2 i (by omega)) ?_
    refine pi_rt 2 (v := some (.int (nI (z_rw W.ns t.2.1 t.2.2 i)))) (σ' := σ) (fun f => rfl) ?_
    exact ⟨congrArg (fun z => some (Value.int z)) (show _ = z_bS W.ns t i from (if_pos b1).symm), rfl⟩
  · refine pi_ct 1 (c := nI 0 = 0) (pc' := 20) (l' := [some (.ref 41), some (.int (nI i))]) (st' := []) (σ' := σ) (pc2 := 11) (l2 := [some (.ref 41), some (.int (nI i))]) (st2 := []) (σ2 := σ) (fun f => rfl) (by decide) ?_
    refine pi_rt 2 (v := some (.int (-1))) (σ' := σ) (fun f => rfl) ?_
    exact ⟨congrArg (fun z => some (Value.int z)) (show _ = z_bS W.ns t i from (if_neg b1).symm), rfl⟩
theorem z_ex_c {W : zW} {b b' w w' : Nat → Int32} (hb : ∀ d, d < W.nd → b d = b' d) (hw : ∀ d, d < W.nd → w d = w' d) (hk : z_wk W) : ∀ m dep f c t, z_ex W m dep b w f c t = z_ex W m dep b' w' f c t := by
  intro m
  induction m generalizing b b' w w' with
  | zero => intro _ _ _ _; rfl
  | succ m ih =>
    intro dep f c t
    refine pi_lp_c W.ns (fun k hkn s => ?_) t
    have hu := hk.wd.us k hkn
    show (if nI 0 < b (W.up k) ∧ b (W.up k) + b (W.lo k) ≤ W.hd (W.lo k) then _ else _) = (if nI 0 < b' (W.up k) ∧ b' (W.up k) + b' (W.lo k) ≤ W.hd (W.lo k) then _ else _)
    rw [hb _ hu.2.2.1, hb _ hu.2.2.2.1, hw _ hu.2.2.1]
    have hm : ∀ (g g' : Nat → Int32), (∀ d, d < W.nd → g d = g' d) → ∀ d, d < W.nd → z_mv (W.up k) (W.lo k) g d = z_mv (W.up k) (W.lo k) g' d := by
      intro g g' hg d hd
      unfold z_mv upd
      by_cases q : d = W.lo k
      · rw [if_pos q, if_pos q, hg _ hu.2.2.1, hg _ hu.2.2.2.1]
      · rw [if_neg q, if_neg q]
        by_cases q2 : d = W.up k
        · rw [if_pos q2, if_pos q2, hg _ hu.2.2.1]
        · rw [if_neg q2, if_neg q2, hg _ hd]
    rw [ih (hm b b' hb) (hm w w' hw)]
theorem z_ex_xr {W : zW} (hk : z_wk W) {b w : Nat → Int32} {f : Int32} (hD : ∀ d, d < W.nd → b d = z_all (z_H0 W).1 d ∧ w d = z_fine W.rt (z_H0 W).1 d) (hf : f = z_S (fun d => cond (z_cb W d) (nI 0) (z_fine W.rt (z_H0 W).1 d)) W.nd) (k : Nat) : z_ex W k 0 b w f 0 (f, 0, 0) = z_xr W k := by
  rw [hf]
  exact z_ex_c (fun d hd => (hD d hd).1) (fun d hd => (hD d hd).2) hk k 0 _ 0 _
set_option maxRecDepth 20000 in
theorem pi_X_least_bad {xs : Nat → Int32} {L d : Nat} {W : zW} {σ : pi_S} (hR : z_CR W σ) {a b : Int32} (hb : ¬ (z_B 4 a ∧ z_B1 3 b))  : pi_wp xs L (d + 9) 76 0 [some (.ref 0), some (.int a), some (.int b)] [] σ (fun v s => v = some (.int (-2)) ∧ z_CR W s ∧ pi_fr z_CJ s σ) := by
  have hk := hR.k.p.wk
  have hnd8 := hk.wd.nd8
  have hns12 := hk.wd.ns12
  have hn60 := hk.nine
  have hnf := hk.nf
  have hnw := hk.nw
  have hnc := hk.nc
  have hn08 := hk.wd.n0
  have hn140 := hk.wd.n1
  refine pi_ca 3 (m' := 94) (l' := [some (.int a), some (.int (nI 4))]) (σ' := σ) (pc2 := 5) (l2 := [some (.ref 0), some (.int a), some (.int b)]) (t := []) (fun f => rfl) (pi_C_belowB (a := a) (n := 4) (by omega)) ?_
  rintro _ _ (⟨b1, rfl, rfl⟩ | ⟨b1, rfl, rfl⟩)
  · refine pi_cf 1 (c := nI 1 = 0) (pc' := 8) (l' := [some (.ref 0), some (.int a), some (.int b)]) (st' := []) (σ' := σ) (pc2 := 18) (l2 := [some (.ref 0), some (.int a), some (.int b)]) (st2 := []) (σ2 := σ) (fun f => rfl) (by decide) ?_
    refine pi_if 3 (c := b < (-1)) (pc' := 18) (l' := [some (.ref 0), some (.int a), some (.int b)]) (st' := []) (σ' := σ) (pc2 := 13) (l2 := [some (.ref 0), some (.int a), some (.int b)]) (st2 := []) (σ2 := σ) (fun f => rfl) (fun h2 => ?_) (fun h2 => ?_)
    · refine pi_rt 2 (v := some (.int (-2))) (σ' := σ) (fun f => rfl) ?_
      exact ⟨rfl, hR, pi_fr_rf⟩
    · refine pi_if 3 (c := b < nI 3) (pc' := 21) (l' := [some (.ref 0), some (.int a), some (.int b)]) (st' := []) (σ' := σ) (pc2 := 18) (l2 := [some (.ref 0), some (.int a), some (.int b)]) (st2 := []) (σ2 := σ) (fun f => rfl) (fun h3 => ?_) (fun h3 => ?_)
      · exact (hb ⟨b1, z_B1_c (n := 2) (by omega) h2 h3⟩).elim
      · refine pi_rt 2 (v := some (.int (-2))) (σ' := σ) (fun f => rfl) ?_
        exact ⟨rfl, hR, pi_fr_rf⟩
  · refine pi_ct 1 (c := nI 0 = 0) (pc' := 18) (l' := [some (.ref 0), some (.int a), some (.int b)]) (st' := []) (σ' := σ) (pc2 := 8) (l2 := [some (.ref 0), some (.int a), some (.int b)]) (st2 := []) (σ2 := σ) (fun f => rfl) (by decide) ?_
    refine pi_rt 2 (v := some (.int (-2))) (σ' := σ) (fun f => rfl) ?_
    exact ⟨rfl, hR, pi_fr_rf⟩
set_option maxRecDepth 20000 in
theorem pi_X_least0 {xs : Nat → Int32} {L d : Nat} {W : zW} {σ : pi_S} (hR : z_CR W σ) {k : Nat} (hk4 : k < 4)  : pi_wp xs L (d + 9) 76 0 [some (.ref 0), some (.int (nI k)), some (.int (-1))] [] σ (fun v s => v = some (.int (z_lB W k)) ∧ z_CR W s ∧ pi_fr z_CJ s σ) := by
  have hk := hR.k.p.wk
  have hnd8 := hk.wd.nd8
  have hns12 := hk.wd.ns12
  have hn60 := hk.nine
  have hnf := hk.nf
  have hnw := hk.nw
  have hnc := hk.nc
  have hn08 := hk.wd.n0
  have hn140 := hk.wd.n1
  refine pi_ca 3 (m' := 94) (l' := [some (.int (nI k)), some (.int (nI 4))]) (σ' := σ) (pc2 := 5) (l2 := [some (.ref 0), some (.int (nI k)), some (.int (-1))]) (t := []) (fun f => rfl) (pi_below1 _ _ (z_BL (by omega) (by omega))) ?_
  rintro _ _ ⟨rfl, rfl⟩
  refine pi_cf 1 (c := nI 1 = 0) (pc' := 8) (l' := [some (.ref 0), some (.int (nI k)), some (.int (-1))]) (st' := []) (σ' := σ) (pc2 := 18) (l2 := [some (.ref 0), some (.int (nI k)), some (.int (-1))]) (st2 := []) (σ2 := σ) (fun f => rfl) (by decide) ?_
  refine pi_cf 3 (c := (-1) < (-1)) (pc' := 13) (l' := [some (.ref 0), some (.int (nI k)), some (.int (-1))]) (st' := []) (σ' := σ) (pc2 := 18) (l2 := [some (.ref 0), some (.int (nI k)), some (.int (-1))]) (st2 := []) (σ2 := σ) (fun f => rfl) (by decide) ?_
  refine pi_ct 3 (c := (-1) < nI 3) (pc' := 21) (l' := [some (.ref 0), some (.int (nI k)), some (.int (-1))]) (st' := []) (σ' := σ) (pc2 := 18) (l2 := [some (.ref 0), some (.int (nI k)), some (.int (-1))]) (st2 := []) (σ2 := σ) (fun f => rfl) (by decide) ?_
  refine pi_ca 3 (m' := 3) (l' := [some (.ref 37)]) (σ' := σ) (pc2 := 28) (l2 := [some (.ref 0), some (.int (nI k)), some (.int (-1))]) (t := []) (fun f => rfl) (pi_C_asTold_t hR.k) ?_
  rintro _ t1 ⟨rfl, gt1_5, gt1_6, gt1_7, gt1_8, kt1, rt1⟩
  refine pi_go 5 (pc' := 39) (l' := [some (.ref 0), some (.int (nI k)), some (.int (-1))]) (st' := [.int (t1 12 3), .ref 37]) (σ' := t1) (fun f => rfl) ?_
  refine pi_tp (y := nI W.nine) ((congrFun (rt1 12 (by decide)) 3).trans (hR.k.p.nine)) ?_
  refine pi_ca 1 (m' := 6) (l' := [some (.ref 37), some (.int (nI W.nine))]) (σ' := t1) (pc2 := 42) (l2 := [some (.ref 0), some (.int (nI k)), some (.int (-1))]) (t := []) (fun f => rfl) (pi_C_supCart (nI W.nine)) ?_
  rintro _ t2 ⟨rfl, gt2_7, kt2, rt2⟩
  refine pi_go 5 (pc' := 53) (l' := [some (.ref 0), some (.int (nI k)), some (.int (-1))]) (st' := [.int (t2 12 3), .ref 37]) (σ' := t2) (fun f => rfl) ?_
  refine pi_tp (y := nI W.nine) ((congrFun (rt2 12 (by decide)) 3).trans ((congrFun (rt1 12 (by decide)) 3).trans (hR.k.p.nine))) ?_
  refine pi_ca 1 (m' := 8) (l' := [some (.ref 37), some (.int (nI W.nine)), none]) (σ' := t2) (pc2 := 56) (l2 := [some (.ref 0), some (.int (nI k)), some (.int (-1))]) (t := []) (fun f => rfl) (pi_C_run_t (z_CK.of hR.k (pi_fr_tr rt2 (by decide) (pi_fr_tr rt1 (by decide) (pi_fr_rf)))) (la := W.nine) (kw := W.nw) (by omega) ((kt2 5 (by decide)).trans (gt1_5)) ((kt2 6 (by decide)).trans (gt1_6)) (by omega) (gt2_7) (md := 0) (mk := 0) ((kt2 8 (by decide)).trans (gt1_8)) (by omega) (by omega) (fun m hm q => absurd q (z_nIm m (by omega))) (fun k hk1 => (congrFun (rt2 39 (by decide)) k).trans ((fun k hk1 => (congrFun (rt1 39 (by decide)) k).trans ((hR.jc) k hk1)) k hk1)) (fun k hk1 => (congrFun (rt2 40 (by decide)) k).trans ((fun k hk1 => (congrFun (rt1 40 (by decide)) k).trans ((hR.jd) k hk1)) k hk1))) ?_
  rintro _ t3 ⟨rfl, gt3_1, gt3_2, gt3_3, kt3, rt3⟩
  refine pi_ca 5 (m' := 30) (l' := [some (.ref 41), some (.ref 37), none]) (σ' := t3) (pc2 := 67) (l2 := [some (.ref 0), some (.int (nI k)), some (.int (-1))]) (t := []) (fun f => rfl) (pi_C_begin (z_CK.of hR.k (pi_fr_tr rt3 (by decide) (pi_fr_tr rt2 (by decide) (pi_fr_tr rt1 (by decide) (pi_fr_rf)))))) ?_
  rintro _ t4 ⟨rfl, h7t4, h8t4, h9t4, hDt4, rt4⟩
  have hH : t3 39 = (z_H0 W).1 := (gt3_1).trans (congrArg (fun z => z.1) (z_Rc_H0 hn60))
  rw [hH] at h8t4 h9t4 hDt4
  refine pi_ca 4 (m' := 31) (l' := [some (.ref 41), some (.int (nI k))]) (σ' := t4) (pc2 := 75) (l2 := [some (.ref 0), some (.int (nI k)), some (.int (-1))]) (t := []) (fun f => rfl) (pi_C_seek (z_CK.of hR.k (pi_fr_tr rt4 (by decide) (pi_fr_tr rt3 (by decide) (pi_fr_tr rt2 (by decide) (pi_fr_tr rt1 (by decide) (pi_fr_rf)))))) rfl rfl h8t4 h9t4 h7t4 (fun e he => (hDt4 e he).2.2) (by omega)) ?_
  rintro _ t5 ⟨rfl, Bt5, rt5⟩
  rw [z_ex_xr hk (fun d hd => ⟨(hDt4 d hd).1, (hDt4 d hd).2.1⟩) rfl] at Bt5
  refine pi_ct 3 (c := (-1) = (-1)) (pc' := 80) (l' := [some (.ref 0), some (.int (nI k)), some (.int (-1))]) (st' := []) (σ' := t5) (pc2 := 90) (l2 := [some (.ref 0), some (.int (nI k)), some (.int (-1))]) (st2 := []) (σ2 := t5) (fun f => rfl) (by decide) ?_
  refine pi_go 3 (pc' := 87) (l' := [some (.ref 0), some (.int (nI k)), some (.int (-1))]) (st' := [.int (t5 41 9)]) (σ' := t5) (fun f => rfl) ?_
  refine pi_tp (y := z_lB W k) (Bt5.1.trans (z_bF_lB hk k)) ?_
  refine pi_rt 2 (v := some (.int (z_lB W k))) (σ' := t5) (fun f => rfl) ?_
  exact ⟨rfl, (hR.of (pi_fr_tr rt5 (by decide) (pi_fr_tr rt4 (by decide) (pi_fr_tr rt3 (by decide) (pi_fr_tr rt2 (by decide) (pi_fr_tr rt1 (by decide) (pi_fr_rf)))))) (fun k hk1 => (congrFun (rt5 39 (by decide)) k).trans ((fun k hk1 => (congrFun (rt4 39 (by decide)) k).trans ((fun k hk1 => (congrFun (gt3_1) k).trans ((z_Rc_tail hk (by omega) (by omega) (by omega) _).1 k hk1)) k hk1)) k hk1)) (fun k hk1 => (congrFun (rt5 40 (by decide)) k).trans ((fun k hk1 => (congrFun (rt4 40 (by decide)) k).trans ((fun k hk1 => (congrFun (gt3_2) k).trans ((z_Rc_tail hk (by omega) (by omega) (by omega) _).2 k hk1)) k hk1)) k hk1))), pi_fr_tr rt5 (by decide) (pi_fr_tr rt4 (by decide) (pi_fr_tr rt3 (by decide) (pi_fr_tr rt2 (by decide) (pi_fr_tr rt1 (by decide) (pi_fr_rf)))))⟩
set_option maxRecDepth 20000 in
theorem pi_X_least1 {xs : Nat → Int32} {L d : Nat} {W : zW} {σ : pi_S} (hR : z_CR W σ) {k i : Nat} (hk4 : k < 4) (hi : i < 3)  : pi_wp xs L (d + 9) 76 0 [some (.ref 0), some (.int (nI k)), some (.int (nI i))] [] σ (fun v s => v = some (.int (z_lS W k i)) ∧ z_CR W s ∧ pi_fr z_CJ s σ) := by
  have hk := hR.k.p.wk
  have hnd8 := hk.wd.nd8
  have hns12 := hk.wd.ns12
  have hn60 := hk.nine
  have hnf := hk.nf
  have hnw := hk.nw
  have hnc := hk.nc
  have hn08 := hk.wd.n0
  have hn140 := hk.wd.n1
  refine pi_ca 3 (m' := 94) (l' := [some (.int (nI k)), some (.int (nI 4))]) (σ' := σ) (pc2 := 5) (l2 := [some (.ref 0), some (.int (nI k)), some (.int (nI i))]) (t := []) (fun f => rfl) (pi_below1 _ _ (z_BL (by omega) (by omega))) ?_
  rintro _ _ ⟨rfl, rfl⟩
  refine pi_cf 1 (c := nI 1 = 0) (pc' := 8) (l' := [some (.ref 0), some (.int (nI k)), some (.int (nI i))]) (st' := []) (σ' := σ) (pc2 := 18) (l2 := [some (.ref 0), some (.int (nI k)), some (.int (nI i))]) (st2 := []) (σ2 := σ) (fun f => rfl) (by decide) ?_
  refine pi_cf 3 (c := nI i < (-1)) (pc' := 13) (l' := [some (.ref 0), some (.int (nI k)), some (.int (nI i))]) (st' := []) (σ' := σ) (pc2 := 18) (l2 := [some (.ref 0), some (.int (nI k)), some (.int (nI i))]) (st2 := []) (σ2 := σ) (fun f => rfl) (z_nlt_m (by omega)) ?_
  refine pi_ct 3 (c := nI i < nI 3) (pc' := 21) (l' := [some (.ref 0), some (.int (nI k)), some (.int (nI i))]) (st' := []) (σ' := σ) (pc2 := 18) (l2 := [some (.ref 0), some (.int (nI k)), some (.int (nI i))]) (st2 := []) (σ2 := σ) (fun f => rfl) ((nI_ltI (by omega) (by omega)).mpr (by omega)) ?_
  refine pi_ca 3 (m' := 3) (l' := [some (.ref 37)]) (σ' := σ) (pc2 := 28) (l2 := [some (.ref 0), some (.int (nI k)), some (.int (nI i))]) (t := []) (fun f => rfl) (pi_C_asTold_t hR.k) ?_
  rintro _ t1 ⟨rfl, gt1_5, gt1_6, gt1_7, gt1_8, kt1, rt1⟩
  refine pi_go 5 (pc' := 39) (l' := [some (.ref 0), some (.int (nI k)), some (.int (nI i))]) (st' := [.int (t1 12 3), .ref 37]) (σ' := t1) (fun f => rfl) ?_
  refine pi_tp (y := nI W.nine) ((congrFun (rt1 12 (by decide)) 3).trans (hR.k.p.nine)) ?_
  refine pi_ca 1 (m' := 6) (l' := [some (.ref 37), some (.int (nI W.nine))]) (σ' := t1) (pc2 := 42) (l2 := [some (.ref 0), some (.int (nI k)), some (.int (nI i))]) (t := []) (fun f => rfl) (pi_C_supCart (nI W.nine)) ?_
  rintro _ t2 ⟨rfl, gt2_7, kt2, rt2⟩
  refine pi_go 5 (pc' := 53) (l' := [some (.ref 0), some (.int (nI k)), some (.int (nI i))]) (st' := [.int (t2 12 3), .ref 37]) (σ' := t2) (fun f => rfl) ?_
  refine pi_tp (y := nI W.nine) ((congrFun (rt2 12 (by decide)) 3).trans ((congrFun (rt1 12 (by decide)) 3).trans (hR.k.p.nine))) ?_
  refine pi_ca 1 (m' := 8) (l' := [some (.ref 37), some (.int (nI W.nine)), none]) (σ' := t2) (pc2 := 56) (l2 := [some (.ref 0), some (.int (nI k)), some (.int (nI i))]) (t := []) (fun f => rfl) (pi_C_run_t (z_CK.of hR.k (pi_fr_tr rt2 (by decide) (pi_fr_tr rt1 (by decide) (pi_fr_rf)))) (la := W.nine) (kw := W.nw) (by omega) ((kt2 5 (by decide)).trans (gt1_5)) ((kt2 6 (by decide)).trans (gt1_6)) (by omega) (gt2_7) (md := 0) (mk := 0) ((kt2 8 (by decide)).trans (gt1_8)) (by omega) (by omega) (fun m hm q => absurd q (z_nIm m (by omega))) (fun k hk1 => (congrFun (rt2 39 (by decide)) k).trans ((fun k hk1 => (congrFun (rt1 39 (by decide)) k).trans ((hR.jc) k hk1)) k hk1)) (fun k hk1 => (congrFun (rt2 40 (by decide)) k).trans ((fun k hk1 => (congrFun (rt1 40 (by decide)) k).trans ((hR.jd) k hk1)) k hk1))) ?_
  rintro _ t3 ⟨rfl, gt3_1, gt3_2, gt3_3, kt3, rt3⟩
  refine pi_ca 5 (m' := 30) (l' := [some (.ref 41), some (.ref 37), none]) (σ' := t3) (pc2 := 67) (l2 := [some (.ref 0), some (.int (nI k)), some (.int (nI i))]) (t := []) (fun f => rfl) (pi_C_begin (z_CK.of hR.k (pi_fr_tr rt3 (by decide) (pi_fr_tr rt2 (by decide) (pi_fr_tr rt1 (by decide) (pi_fr_rf)))))) ?_
  rintro _ t4 ⟨rfl, h7t4, h8t4, h9t4, hDt4, rt4⟩
  have hH : t3 39 = (z_H0 W).1 := (gt3_1).trans (congrArg (fun z => z.1) (z_Rc_H0 hn60))
  rw [hH] at h8t4 h9t4 hDt4
  refine pi_ca 4 (m' := 31) (l' := [some (.ref 41), some (.int (nI k))]) (σ' := t4) (pc2 := 75) (l2 := [some (.ref 0), some (.int (nI k)), some (.int (nI i))]) (t := []) (fun f => rfl) (pi_C_seek (z_CK.of hR.k (pi_fr_tr rt4 (by decide) (pi_fr_tr rt3 (by decide) (pi_fr_tr rt2 (by decide) (pi_fr_tr rt1 (by decide) (pi_fr_rf)))))) rfl rfl h8t4 h9t4 h7t4 (fun e he => (hDt4 e he).2.2) (by omega)) ?_
  rintro _ t5 ⟨rfl, Bt5, rt5⟩
  rw [z_ex_xr hk (fun d hd => ⟨(hDt4 d hd).1, (hDt4 d hd).2.1⟩) rfl] at Bt5
  refine pi_cf 3 (c := nI i = (-1)) (pc' := 90) (l' := [some (.ref 0), some (.int (nI k)), some (.int (nI i))]) (st' := []) (σ' := t5) (pc2 := 80) (l2 := [some (.ref 0), some (.int (nI k)), some (.int (nI i))]) (st2 := []) (σ2 := t5) (fun f => rfl) (z_nIm _ (by omega)) ?_
  refine pi_ca 4 (m' := 32) (l' := [some (.ref 41), some (.int (nI i))]) (σ' := t5) (pc2 := 98) (l2 := [some (.ref 0), some (.int (nI k)), some (.int (nI i))]) (t := []) (fun f => rfl) (pi_C_bestS Bt5 (i := i) (by omega)) ?_
  rintro _ _ ⟨rfl, rfl⟩
  refine pi_tp (y := z_lS W k i) (z_bS_lS hk k i) ?_
  refine pi_rt 1 (v := some (.int (z_lS W k i))) (σ' := t5) (fun f => rfl) ?_
  exact ⟨rfl, (hR.of (pi_fr_tr rt5 (by decide) (pi_fr_tr rt4 (by decide) (pi_fr_tr rt3 (by decide) (pi_fr_tr rt2 (by decide) (pi_fr_tr rt1 (by decide) (pi_fr_rf)))))) (fun k hk1 => (congrFun (rt5 39 (by decide)) k).trans ((fun k hk1 => (congrFun (rt4 39 (by decide)) k).trans ((fun k hk1 => (congrFun (gt3_1) k).trans ((z_Rc_tail hk (by omega) (by omega) (by omega) _).1 k hk1)) k hk1)) k hk1)) (fun k hk1 => (congrFun (rt5 40 (by decide)) k).trans ((fun k hk1 => (congrFun (rt4 40 (by decide)) k).trans ((fun k hk1 => (congrFun (gt3_2) k).trans ((z_Rc_tail hk (by omega) (by omega) (by omega) _).2 k hk1)) k hk1)) k hk1))), pi_fr_tr rt5 (by decide) (pi_fr_tr rt4 (by decide) (pi_fr_tr rt3 (by decide) (pi_fr_tr rt2 (by decide) (pi_fr_tr rt1 (by decide) (pi_fr_rf)))))⟩
