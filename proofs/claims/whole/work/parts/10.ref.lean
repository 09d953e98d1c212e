set_option maxRecDepth 20000 in
theorem pi_m_in {xs : Nat → Int32} {L d : Nat} {σ : pi_S} (a b c : Int32)  : pi_wp xs L d 100 0 [some (.int a), some (.int b), some (.int c)] [] σ (fun v s => ((b ≤ a ∧ a ≤ c) ∧ v = some (.int (nI 1)) ∧ σ = s) ∨ (¬ (b ≤ a ∧ a ≤ c) ∧ v = some (.int (nI 0)) ∧ σ = s)) := by
  refine pi_if 3 (c := a < b) (pc' := 14) (l' := [some (.int a), some (.int b), some (.int c)]) (st' := []) (σ' := σ) (pc2 := 5) (l2 := [some (.int a), some (.int b), some (.int c)]) (st2 := []) (σ2 := σ) (fun f => rfl) (fun h1 => ?_) (fun h1 => ?_)
  · refine pi_rb 2 (c := (nI 0) &&& 1 = nI 0) (v := some (.int (nI 0))) (σ' := σ) (fun f => rfl) (by decide) ?_
    exact Or.inr ⟨fun q => Int32.not_lt.mpr q.1 h1, rfl, rfl⟩
  · refine pi_if 3 (c := c < a) (pc' := 14) (l' := [some (.int a), some (.int b), some (.int c)]) (st' := []) (σ' := σ) (pc2 := 10) (l2 := [some (.int a), some (.int b), some (.int c)]) (st2 := []) (σ2 := σ) (fun f => rfl) (fun h2 => ?_) (fun h2 => ?_)
    · refine pi_rb 2 (c := (nI 0) &&& 1 = nI 0) (v := some (.int (nI 0))) (σ' := σ) (fun f => rfl) (by decide) ?_
      exact Or.inr ⟨fun q => Int32.not_lt.mpr q.2 h2, rfl, rfl⟩
    · refine pi_rb 3 (c := (nI 1) &&& 1 = nI 1) (v := some (.int (nI 1))) (σ' := σ) (fun f => rfl) (by decide) ?_
      exact Or.inl ⟨⟨Int32.not_lt.mp h1, Int32.not_lt.mp h2⟩, rfl, rfl⟩
theorem pi_m_inN {xs : Nat → Int32} {L d : Nat} {σ : pi_S} {a b : Nat} (ha : a < 2 ^ 30) (hb : b < 2 ^ 30) : pi_wp xs L d 100 0 [some (.int (nI a)), some (.int (nI 0)), some (.int (nI b - nI 1))] [] σ (fun v s => (a < b ∧ v = some (.int (nI 1)) ∧ σ = s) ∨ (¬ a < b ∧ v = some (.int (nI 0)) ∧ σ = s)) :=
  pi_mo (fun v s q => q.elim (fun q => Or.inl ⟨(z_pred ha hb).mp q.1, q.2⟩) (fun q => Or.inr ⟨fun z => q.1 ((z_pred ha hb).mpr z), q.2⟩)) (pi_m_in (nI a) (nI 0) (nI b - nI 1))
set_option maxRecDepth 20000 in
theorem pi_m_all {xs : Nat → Int32} {L d : Nat} {σ : pi_S} {dr : Nat} (hd : dr < 8)  : pi_wp xs L d 126 0 [some (.ref 56), some (.int (nI dr)), none, none] [] σ (fun v s => v = some (.int (z_all (σ 74) dr)) ∧ σ = s) := by
  refine pi_go 4 (pc' := 4) (l' := [some (.ref 56), some (.int (nI dr)), some (.int (nI 0)), some (.int (nI 0))]) (st' := []) (σ' := σ) (fun f => rfl) ?_
  suffices hl1 : ∀ i, i ≤ 5 → pi_wp xs L d 126 4 [some (.ref 56), some (.int (nI dr)), some (.int (pi_lp (fun k a => a + σ 74 (5 * dr + k)) i (nI 0))), some (.int (nI i))] [] σ (fun v s => v = some (.int (z_all (σ 74) dr)) ∧ σ = s) from hl1 0 (by omega) 
  refine pi_lp0 ?_ ?_
  · refine pi_ct 3 (c := nI 5 ≤ nI 5) (pc' := 28) (l' := [some (.ref 56), some (.int (nI dr)), some (.int (pi_lp (fun k a => a + σ 74 (5 * dr + k)) 5 (nI 0))), some (.int (nI 5))]) (st' := []) (σ' := σ) (pc2 := 9) (l2 := [some (.ref 56), some (.int (nI dr)), some (.int (pi_lp (fun k a => a + σ 74 (5 * dr + k)) 5 (nI 0))), some (.int (nI 5))]) (st2 := []) (σ2 := σ) (fun f => rfl) (by decide) ?_
    refine pi_rt 2 (v := some (.int (pi_lp (fun k a => a + σ 74 (5 * dr + k)) 5 (nI 0)))) (σ' := σ) (fun f => rfl) ?_
    exact ⟨rfl, rfl⟩
  · intro i hi1 ih1
    refine pi_cf 3 (c := nI 5 ≤ nI i) (pc' := 9) (l' := [some (.ref 56), some (.int (nI dr)), some (.int (pi_lp (fun k a => a + σ 74 (5 * dr + k)) i (nI 0))), some (.int (nI i))]) (st' := []) (σ' := σ) (pc2 := 28) (l2 := [some (.ref 56), some (.int (nI dr)), some (.int (pi_lp (fun k a => a + σ 74 (5 * dr + k)) i (nI 0))), some (.int (nI i))]) (st2 := []) (σ2 := σ) (fun f => rfl) (fun zq => absurd ((show nI 5 ≤ nI i ↔ _ from nI_leI (by omega) (by omega)).mp zq) (by omega)) ?_
    refine pi_go 6 (pc' := 17) (l' := [some (.ref 56), some (.int (nI dr)), some (.int (pi_lp (fun k a => a + σ 74 (5 * dr + k)) i (nI 0))), some (.int (nI i))]) (st' := [.int (nI 5 * nI dr), .ref 74, .int (pi_lp (fun k a => a + σ 74 (5 * dr + k)) i (nI 0))]) (σ' := σ) (fun f => rfl) ?_
    refine pi_tp (y := nI (5 * dr)) (pk_mul _ _) ?_
    refine pi_go 2 (pc' := 19) (l' := [some (.ref 56), some (.int (nI dr)), some (.int (pi_lp (fun k a => a + σ 74 (5 * dr + k)) i (nI 0))), some (.int (nI i))]) (st' := [.int (nI (5 * dr) + nI i), .ref 74, .int (pi_lp (fun k a => a + σ 74 (5 * dr + k)) i (nI 0))]) (σ' := σ) (fun f => rfl) ?_
    refine pi_tp (y := nI (5 * dr + i)) (nI_add _ _) ?_
    refine pi_ai 1 (u := 5 * dr + i) (n := 40) (g := σ 74) (pc' := 20) (l' := [some (.ref 56), some (.int (nI dr)), some (.int (pi_lp (fun k a => a + σ 74 (5 * dr + k)) i (nI 0))), some (.int (nI i))]) (t := [.int (pi_lp (fun k a => a + σ 74 (5 * dr + k)) i (nI 0))]) (σ' := σ) (fun f => rfl) (by omega) (by omega) ?_
    refine pi_go 3 (pc' := 25) (l' := [some (.ref 56), some (.int (nI dr)), some (.int ((pi_lp (fun k a => a + σ 74 (5 * dr + k)) i (nI 0)) + (σ 74 (5 * dr + i)))), some (.int (nI i + nI 1))]) (st' := []) (σ' := σ) (fun f => rfl) ?_
    rw [show nI i + nI 1 = nI (i + 1) from nI_add _ 1]
    refine pi_go 1 (pc' := 4) (l' := [some (.ref 56), some (.int (nI dr)), some (.int ((pi_lp (fun k a => a + σ 74 (5 * dr + k)) i (nI 0)) + (σ 74 (5 * dr + i)))), some (.int (nI (i + 1)))]) (st' := []) (σ' := σ) (fun f => rfl) ?_
    exact ih1 
set_option maxRecDepth 20000 in
theorem pi_m_takes {xs : Nat → Int32} {L d : Nat} {σ : pi_S} {dr : Nat} (hd : dr < 8)  : pi_wp xs L d 130 0 [some (.ref 56), some (.int (nI dr)), none] [] σ (fun v s => v = none ∧ s 74 = (z_tk dr (σ 74, σ 75)).1 ∧ s 75 = (z_tk dr (σ 74, σ 75)).2 ∧ pi_fr [74, 75] s σ) := by
  refine pi_go 2 (pc' := 2) (l' := [some (.ref 56), some (.int (nI dr)), some (.int (nI 0))]) (st' := []) (σ' := σ) (fun f => rfl) ?_
  suffices hl1 : ∀ i, i ≤ 5 → ∀ (z1 : pi_S), z1 74 = (pi_lp (z_tk1 dr) i (σ 74, σ 75)).1 → z1 75 = (pi_lp (z_tk1 dr) i (σ 74, σ 75)).2 → pi_fr [74, 75] z1 σ → pi_wp xs L d 130 2 [some (.ref 56), some (.int (nI dr)), some (.int (nI i))] [] z1 (fun v s => v = none ∧ s 74 = (z_tk dr (σ 74, σ 75)).1 ∧ s 75 = (z_tk dr (σ 74, σ 75)).2 ∧ pi_fr [74, 75] s σ) from hl1 0 (by omega) _ (rfl) (rfl) (pi_fr_rf)
  refine pi_lp0 ?_ ?_
  · intro z1 fz1_74 fz1_75 hrz1
    refine pi_ct 3 (c := nI 5 ≤ nI 5) (pc' := 35) (l' := [some (.ref 56), some (.int (nI dr)), some (.int (nI 5))]) (st' := []) (σ' := z1) (pc2 := 7) (l2 := [some (.ref 56), some (.int (nI dr)), some (.int (nI 5))]) (st2 := []) (σ2 := z1) (fun f => rfl) (by decide) ?_
    refine pi_rt 1 (v := none) (σ' := z1) (fun f => rfl) ?_
    exact ⟨rfl, fz1_74, fz1_75, pi_fr_tr hrz1 (by decide) (pi_fr_rf)⟩
  · intro i hi1 ih1 z1 fz1_74 fz1_75 hrz1
    refine pi_cf 3 (c := nI 5 ≤ nI i) (pc' := 7) (l' := [some (.ref 56), some (.int (nI dr)), some (.int (nI i))]) (st' := []) (σ' := z1) (pc2 := 35) (l2 := [some (.ref 56), some (.int (nI dr)), some (.int (nI i))]) (st2 := []) (σ2 := z1) (fun f => rfl) (fun zq => absurd ((show nI 5 ≤ nI i ↔ _ from nI_leI (by omega) (by omega)).mp zq) (by omega)) ?_
    refine pi_go 5 (pc' := 14) (l' := [some (.ref 56), some (.int (nI dr)), some (.int (nI i))]) (st' := [.int (nI 5 * nI dr), .ref 74]) (σ' := z1) (fun f => rfl) ?_
    refine pi_tp (y := nI (5 * dr)) (pk_mul _ _) ?_
    refine pi_go 2 (pc' := 16) (l' := [some (.ref 56), some (.int (nI dr)), some (.int (nI i))]) (st' := [.int (nI (5 * dr) + nI i), .ref 74]) (σ' := z1) (fun f => rfl) ?_
    refine pi_tp (y := nI (5 * dr + i)) (nI_add _ _) ?_
    refine pi_au 2 (u := 5 * dr + i) (n := 40) (a := 74) (x := nI 0) (pc' := 18) (l' := [some (.ref 56), some (.int (nI dr)), some (.int (nI i))]) (t := []) (σ' := z1) (fun f => rfl) (by omega) (by omega) ?_
    generalize es2 : pi_up z1 74 (5 * dr + i) (nI 0) = s2
    refine pi_go 5 (pc' := 25) (l' := [some (.ref 56), some (.int (nI dr)), some (.int (nI i))]) (st' := [.int (nI 5 * nI dr), .ref 75]) (σ' := s2) (fun f => rfl) ?_
    refine pi_tp (y := nI (5 * dr)) (pk_mul _ _) ?_
    refine pi_go 2 (pc' := 27) (l' := [some (.ref 56), some (.int (nI dr)), some (.int (nI i))]) (st' := [.int (nI (5 * dr) + nI i), .ref 75]) (σ' := s2) (fun f => rfl) ?_
    refine pi_tp (y := nI (5 * dr + i)) (nI_add _ _) ?_
    refine pi_au 2 (u := 5 * dr + i) (n := 40) (a := 75) (x := nI 0) (pc' := 29) (l' := [some (.ref 56), some (.int (nI dr)), some (.int (nI i))]) (t := []) (σ' := s2) (fun f => rfl) (by omega) (by omega) ?_
    generalize es3 : pi_up s2 75 (5 * dr + i) (nI 0) = s3
    refine pi_go 1 (pc' := 32) (l' := [some (.ref 56), some (.int (nI dr)), some (.int (nI i + nI 1))]) (st' := []) (σ' := s3) (fun f => rfl) ?_
    rw [show nI i + nI 1 = nI (i + 1) from nI_add _ 1]
    refine pi_go 1 (pc' := 2) (l' := [some (.ref 56), some (.int (nI dr)), some (.int (nI (i + 1)))]) (st' := []) (σ' := s3) (fun f => rfl) ?_
    exact ih1 _ ((congrFun es3 74).symm.trans ((pi_up_ne _ _ _ (by decide)).trans ((congrFun es2 74).symm.trans ((pi_up_self _ _ _ _).trans (congrArg (fun z => upd z (5 * dr + i) (nI 0)) (fz1_74)))))) ((congrFun es3 75).symm.trans ((pi_up_self _ _ _ _).trans (congrArg (fun z => upd z (5 * dr + i) (nI 0)) ((congrFun es2 75).symm.trans ((pi_up_ne _ _ _ (by decide)).trans (fz1_75)))))) (pi_fr_of es3 (by decide) (pi_fr_of es2 (by decide) (pi_fr_tr hrz1 (by decide) (pi_fr_rf))))
set_option maxRecDepth 20000 in
theorem pi_m_goes {xs : Nat → Int32} {L d : Nat} {σ : pi_S} {st u l : Nat} (hs : st < 12) (hu : σ 60 st = nI u) (hl : σ 61 st = nI l) (hu8 : u < 8) (hl8 : l < 8)  : pi_wp xs L d 127 0 [some (.ref 56), some (.int (nI st)), none, none, none] [] σ (fun v s => v = none ∧ s 74 = (z_gd u l (σ 74, σ 75)).1 ∧ s 75 = (z_gd u l (σ 74, σ 75)).2 ∧ pi_fr [74, 75] s σ) := by
  refine pi_go 2 (pc' := 2) (l' := [some (.ref 56), some (.int (nI st)), some (.int (nI 0)), none, none]) (st' := []) (σ' := σ) (fun f => rfl) ?_
  suffices hl1 : ∀ i, i ≤ 5 → ∀ (j3 j4 : Option Value), ∀ (z1 : pi_S), z1 74 = (pi_lp (z_g1 u l) i (σ 74, σ 75)).1 → z1 75 = (pi_lp (z_g1 u l) i (σ 74, σ 75)).2 → pi_fr [74, 75] z1 σ → pi_wp xs L d 127 2 [some (.ref 56), some (.int (nI st)), some (.int (nI i)), j3, j4] [] z1 (fun v s => v = none ∧ s 74 = (z_gd u l (σ 74, σ 75)).1 ∧ s 75 = (z_gd u l (σ 74, σ 75)).2 ∧ pi_fr [74, 75] s σ) from hl1 0 (by omega) _ _ _ (rfl) (rfl) (pi_fr_rf)
  refine pi_lp0 ?_ ?_
  · intro j3 j4 z1 fz1_74 fz1_75 hrz1
    refine pi_ct 3 (c := nI 5 ≤ nI 5) (pc' := 82) (l' := [some (.ref 56), some (.int (nI st)), some (.int (nI 5)), j3, j4]) (st' := []) (σ' := z1) (pc2 := 7) (l2 := [some (.ref 56), some (.int (nI st)), some (.int (nI 5)), j3, j4]) (st2 := []) (σ2 := z1) (fun f => rfl) (by decide) ?_
    refine pi_rt 1 (v := none) (σ' := z1) (fun f => rfl) ?_
    exact ⟨rfl, fz1_74, fz1_75, pi_fr_tr hrz1 (by decide) (pi_fr_rf)⟩
  · intro i hi1 ih1 j3 j4 z1 fz1_74 fz1_75 hrz1
    refine pi_cf 3 (c := nI 5 ≤ nI i) (pc' := 7) (l' := [some (.ref 56), some (.int (nI st)), some (.int (nI i)), j3, j4]) (st' := []) (σ' := z1) (pc2 := 82) (l2 := [some (.ref 56), some (.int (nI st)), some (.int (nI i)), j3, j4]) (st2 := []) (σ2 := z1) (fun f => rfl) (fun zq => absurd ((show nI 5 ≤ nI i ↔ _ from nI_leI (by omega) (by omega)).mp zq) (by omega)) ?_
    refine pi_ai 5 (u := st) (n := 12) (g := z1 60) (pc' := 14) (l' := [some (.ref 56), some (.int (nI st)), some (.int (nI i)), j3, j4]) (t := [.int (nI 5)]) (σ' := z1) (fun f => rfl) (by omega) (by omega) ?_
    refine pi_tp (y := nI u) ((congrFun (hrz1 60 (by decide)) st).trans (hu)) ?_
    refine pi_go 1 (pc' := 15) (l' := [some (.ref 56), some (.int (nI st)), some (.int (nI i)), j3, j4]) (st' := [.int (nI 5 * nI u)]) (σ' := z1) (fun f => rfl) ?_
    refine pi_tp (y := nI (5 * u)) (pk_mul _ _) ?_
    refine pi_go 2 (pc' := 17) (l' := [some (.ref 56), some (.int (nI st)), some (.int (nI i)), j3, j4]) (st' := [.int (nI (5 * u) + nI i)]) (σ' := z1) (fun f => rfl) ?_
    refine pi_tp (y := nI (5 * u + i)) (nI_add _ _) ?_
    refine pi_ai 6 (u := st) (n := 12) (g := z1 61) (pc' := 25) (l' := [some (.ref 56), some (.int (nI st)), some (.int (nI i)), some (.int (nI (5 * u + i))), j4]) (t := [.int (nI 5)]) (σ' := z1) (fun f => rfl) (by omega) (by omega) ?_
    refine pi_tp (y := nI l) ((congrFun (hrz1 61 (by decide)) st).trans (hl)) ?_
    refine pi_go 1 (pc' := 26) (l' := [some (.ref 56), some (.int (nI st)), some (.int (nI i)), some (.int (nI (5 * u + i))), j4]) (st' := [.int (nI 5 * nI l)]) (σ' := z1) (fun f => rfl) ?_
    refine pi_tp (y := nI (5 * l)) (pk_mul _ _) ?_
    refine pi_go 2 (pc' := 28) (l' := [some (.ref 56), some (.int (nI st)), some (.int (nI i)), some (.int (nI (5 * u + i))), j4]) (st' := [.int (nI (5 * l) + nI i)]) (σ' := z1) (fun f => rfl) ?_
    refine pi_tp (y := nI (5 * l + i)) (nI_add _ _) ?_
    refine pi_ai 6 (u := 5 * l + i) (n := 40) (g := z1 74) (pc' := 38) (l' := [some (.ref 56), some (.int (nI st)), some (.int (nI i)), some (.int (nI (5 * u + i))), some (.int (nI (5 * l + i)))]) (t := [.int (nI (5 * l + i)), .ref 74]) (σ' := z1) (fun f => rfl) (by omega) (by omega) ?_
    refine pi_tp (y := ((pi_lp (z_g1 u l) i (σ 74, σ 75)).1) (5 * l + i)) (congrFun (fz1_74) (5 * l + i)) ?_
    refine pi_ai 4 (u := 5 * u + i) (n := 40) (g := z1 74) (pc' := 44) (l' := [some (.ref 56), some (.int (nI st)), some (.int (nI i)), some (.int (nI (5 * u + i))), some (.int (nI (5 * l + i)))]) (t := [.int (((pi_lp (z_g1 u l) i (σ 74, σ 75)).1) (5 * l + i)), .int (nI (5 * l + i)), .ref 74]) (σ' := z1) (fun f => rfl) (by omega) (by omega) ?_
    refine pi_tp (y := ((pi_lp (z_g1 u l) i (σ 74, σ 75)).1) (5 * u + i)) (congrFun (fz1_74) (5 * u + i)) ?_
    refine pi_au 2 (u := 5 * l + i) (n := 40) (a := 74) (x := (((pi_lp (z_g1 u l) i (σ 74, σ 75)).1) (5 * l + i)) + (((pi_lp (z_g1 u l) i (σ 74, σ 75)).1) (5 * u + i))) (pc' := 46) (l' := [some (.ref 56), some (.int (nI st)), some (.int (nI i)), some (.int (nI (5 * u + i))), some (.int (nI (5 * l + i)))]) (t := []) (σ' := z1) (fun f => rfl) (by omega) (by omega) ?_
    generalize es2 : pi_up z1 74 (5 * l + i) ((((pi_lp (z_g1 u l) i (σ 74, σ 75)).1) (5 * l + i)) + (((pi_lp (z_g1 u l) i (σ 74, σ 75)).1) (5 * u + i))) = s2
    refine pi_ai 5 (u := 5 * l + i) (n := 40) (g := s2 75) (pc' := 54) (l' := [some (.ref 56), some (.int (nI st)), some (.int (nI i)), some (.int (nI (5 * u + i))), some (.int (nI (5 * l + i)))]) (t := [.int (nI (5 * l + i)), .ref 75]) (σ' := s2) (fun f => rfl) (by omega) (by omega) ?_
    refine pi_tp (y := ((pi_lp (z_g1 u l) i (σ 74, σ 75)).2) (5 * l + i)) ((congrFun ((congrFun es2 75).symm.trans (pi_up_ne _ _ _ (by decide))) (5 * l + i)).trans (congrFun (fz1_75) (5 * l + i))) ?_
    refine pi_ai 4 (u := 5 * u + i) (n := 40) (g := s2 75) (pc' := 60) (l' := [some (.ref 56), some (.int (nI st)), some (.int (nI i)), some (.int (nI (5 * u + i))), some (.int (nI (5 * l + i)))]) (t := [.int (((pi_lp (z_g1 u l) i (σ 74, σ 75)).2) (5 * l + i)), .int (nI (5 * l + i)), .ref 75]) (σ' := s2) (fun f => rfl) (by omega) (by omega) ?_
    refine pi_tp (y := ((pi_lp (z_g1 u l) i (σ 74, σ 75)).2) (5 * u + i)) ((congrFun ((congrFun es2 75).symm.trans (pi_up_ne _ _ _ (by decide))) (5 * u + i)).trans (congrFun (fz1_75) (5 * u + i))) ?_
    refine pi_au 2 (u := 5 * l + i) (n := 40) (a := 75) (x := (((pi_lp (z_g1 u l) i (σ 74, σ 75)).2) (5 * l + i)) ||| (((pi_lp (z_g1 u l) i (σ 74, σ 75)).2) (5 * u + i))) (pc' := 62) (l' := [some (.ref 56), some (.int (nI st)), some (.int (nI i)), some (.int (nI (5 * u + i))), some (.int (nI (5 * l + i)))]) (t := []) (σ' := s2) (fun f => rfl) (by omega) (by omega) ?_
    generalize es3 : pi_up s2 75 (5 * l + i) ((((pi_lp (z_g1 u l) i (σ 74, σ 75)).2) (5 * l + i)) ||| (((pi_lp (z_g1 u l) i (σ 74, σ 75)).2) (5 * u + i))) = s3
    refine pi_au 5 (u := 5 * u + i) (n := 40) (a := 74) (x := nI 0) (pc' := 69) (l' := [some (.ref 56), some (.int (nI st)), some (.int (nI i)), some (.int (nI (5 * u + i))), some (.int (nI (5 * l + i)))]) (t := []) (σ' := s3) (fun f => rfl) (by omega) (by omega) ?_
    generalize es4 : pi_up s3 74 (5 * u + i) (nI 0) = s4
    refine pi_au 5 (u := 5 * u + i) (n := 40) (a := 75) (x := nI 0) (pc' := 76) (l' := [some (.ref 56), some (.int (nI st)), some (.int (nI i)), some (.int (nI (5 * u + i))), some (.int (nI (5 * l + i)))]) (t := []) (σ' := s4) (fun f => rfl) (by omega) (by omega) ?_
    generalize es5 : pi_up s4 75 (5 * u + i) (nI 0) = s5
    refine pi_go 1 (pc' := 79) (l' := [some (.ref 56), some (.int (nI st)), some (.int (nI i + nI 1)), some (.int (nI (5 * u + i))), some (.int (nI (5 * l + i)))]) (st' := []) (σ' := s5) (fun f => rfl) ?_
    rw [show nI i + nI 1 = nI (i + 1) from nI_add _ 1]
    refine pi_go 1 (pc' := 2) (l' := [some (.ref 56), some (.int (nI st)), some (.int (nI (i + 1))), some (.int (nI (5 * u + i))), some (.int (nI (5 * l + i)))]) (st' := []) (σ' := s5) (fun f => rfl) ?_
    exact ih1 _ _ _ ((congrFun es5 74).symm.trans ((pi_up_ne _ _ _ (by decide)).trans ((congrFun es4 74).symm.trans ((pi_up_self _ _ _ _).trans (congrArg (fun z => upd z (5 * u + i) (nI 0)) ((congrFun es3 74).symm.trans ((pi_up_ne _ _ _ (by decide)).trans ((congrFun es2 74).symm.trans ((pi_up_self _ _ _ _).trans (congrArg (fun z => upd z (5 * l + i) ((((pi_lp (z_g1 u l) i (σ 74, σ 75)).1) (5 * l + i)) + (((pi_lp (z_g1 u l) i (σ 74, σ 75)).1) (5 * u + i)))) (fz1_74))))))))))) ((congrFun es5 75).symm.trans ((pi_up_self _ _ _ _).trans (congrArg (fun z => upd z (5 * u + i) (nI 0)) ((congrFun es4 75).symm.trans ((pi_up_ne _ _ _ (by decide)).trans ((congrFun es3 75).symm.trans ((pi_up_self _ _ _ _).trans (congrArg (fun z => upd z (5 * l + i) ((((pi_lp (z_g1 u l) i (σ 74, σ 75)).2) (5 * l + i)) ||| (((pi_lp (z_g1 u l) i (σ 74, σ 75)).2) (5 * u + i)))) ((congrFun es2 75).symm.trans ((pi_up_ne _ _ _ (by decide)).trans (fz1_75))))))))))) (pi_fr_of es5 (by decide) (pi_fr_of es4 (by decide) (pi_fr_of es3 (by decide) (pi_fr_of es2 (by decide) (pi_fr_tr hrz1 (by decide) (pi_fr_rf))))))
set_option maxRecDepth 20000 in
theorem pi_m_may {xs : Nat → Int32} {L d : Nat} {σ : pi_S} {nd ns : Nat} {up lo : Nat → Nat} {st : Nat} (hs : st < 12) (ht : z_tw σ nd ns up lo)  : pi_wp xs L (d + 1) 129 0 [some (.ref 56), some (.int (nI st))] [] σ (fun v s => (z_may ns up lo (σ 63) (σ 74) st = true ∧ v = some (.int (nI 1)) ∧ σ = s) ∨ (z_may ns up lo (σ 63) (σ 74) st = false ∧ v = some (.int (nI 0)) ∧ σ = s)) := by
  have hns12 := ht.2.2.2.1
  refine pi_go 4 (pc' := 6) (l' := [some (.ref 56), some (.int (nI st))]) (st' := [.int (σ 56 4), .int (nI 0), .int (nI st)]) (σ' := σ) (fun f => rfl) ?_
  refine pi_tp (y := nI ns) (ht.2.1) ?_
  refine pi_ca 3 (m' := 100) (l' := [some (.int (nI st)), some (.int (nI 0)), some (.int ((nI ns) - (nI 1)))]) (σ' := σ) (pc2 := 11) (l2 := [some (.ref 56), some (.int (nI st))]) (t := []) (fun f => rfl) (pi_m_inN (by omega) (by omega)) ?_
  rintro _ _ (⟨b1, rfl, rfl⟩ | ⟨b1, rfl, rfl⟩)
  · obtain ⟨-, -, hup8, hlo8⟩ := ht.2.2.2.2 st b1
    have hnd8 := ht.2.2.1
    refine pi_cf 1 (c := nI 1 = 0) (pc' := 14) (l' := [some (.ref 56), some (.int (nI st))]) (st' := []) (σ' := σ) (pc2 := 53) (l2 := [some (.ref 56), some (.int (nI st))]) (st2 := []) (σ2 := σ) (fun f => rfl) (by decide) ?_
    refine pi_ai 5 (u := st) (n := 12) (g := σ 60) (pc' := 21) (l' := [some (.ref 56), some (.int (nI st))]) (t := [.ref 56]) (σ' := σ) (fun f => rfl) (by omega) (by omega) ?_
    refine pi_tp (y := nI (up st)) ((ht.2.2.2.2 st (by omega)).1) ?_
    refine pi_ca 1 (m' := 126) (l' := [some (.ref 56), some (.int (nI (up st))), none, none]) (σ' := σ) (pc2 := 24) (l2 := [some (.ref 56), some (.int (nI st))]) (t := []) (fun f => rfl) (pi_m_all (by omega)) ?_
    rintro _ _ ⟨rfl, rfl⟩
    refine pi_ai 5 (u := st) (n := 12) (g := σ 61) (pc' := 31) (l' := [some (.ref 56), some (.int (nI st))]) (t := [.ref 56, .int (z_all (σ 74) (up st))]) (σ' := σ) (fun f => rfl) (by omega) (by omega) ?_
    refine pi_tp (y := nI (lo st)) ((ht.2.2.2.2 st (by omega)).2.1) ?_
    refine pi_ca 1 (m' := 126) (l' := [some (.ref 56), some (.int (nI (lo st))), none, none]) (σ' := σ) (pc2 := 34) (l2 := [some (.ref 56), some (.int (nI st))]) (t := [.int (z_all (σ 74) (up st))]) (fun f => rfl) (pi_m_all (by omega)) ?_
    rintro _ _ ⟨rfl, rfl⟩
    refine pi_ai 7 (u := st) (n := 12) (g := σ 61) (pc' := 45) (l' := [some (.ref 56), some (.int (nI st))]) (t := [.ref 63, .int ((z_all (σ 74) (up st)) + (z_all (σ 74) (lo st)))]) (σ' := σ) (fun f => rfl) (by omega) (by omega) ?_
    refine pi_tp (y := nI (lo st)) ((ht.2.2.2.2 st (by omega)).2.1) ?_
    refine pi_ai 1 (u := lo st) (n := 8) (g := σ 63) (pc' := 46) (l' := [some (.ref 56), some (.int (nI st))]) (t := [.int ((z_all (σ 74) (up st)) + (z_all (σ 74) (lo st)))]) (σ' := σ) (fun f => rfl) (by omega) (by omega) ?_
    refine pi_if 1 (c := σ 63 (lo st) < (z_all (σ 74) (up st)) + (z_all (σ 74) (lo st))) (pc' := 53) (l' := [some (.ref 56), some (.int (nI st))]) (st' := []) (σ' := σ) (pc2 := 49) (l2 := [some (.ref 56), some (.int (nI st))]) (st2 := []) (σ2 := σ) (fun f => rfl) (fun h2 => ?_) (fun h2 => ?_)
    · refine pi_rb 2 (c := (nI 0) &&& 1 = nI 0) (v := some (.int (nI 0))) (σ' := σ) (fun f => rfl) (by decide) ?_
      exact Or.inr ⟨decide_eq_false (fun q => Int32.not_lt.mpr q.2 h2), rfl, rfl⟩
    · refine pi_rb 3 (c := (nI 1) &&& 1 = nI 1) (v := some (.int (nI 1))) (σ' := σ) (fun f => rfl) (by decide) ?_
      exact Or.inl ⟨decide_eq_true ⟨b1, Int32.not_lt.mp h2⟩, rfl, rfl⟩
  · refine pi_ct 1 (c := nI 0 = 0) (pc' := 53) (l' := [some (.ref 56), some (.int (nI st))]) (st' := []) (σ' := σ) (pc2 := 14) (l2 := [some (.ref 56), some (.int (nI st))]) (st2 := []) (σ2 := σ) (fun f => rfl) (by decide) ?_
    refine pi_rb 2 (c := (nI 0) &&& 1 = nI 0) (v := some (.int (nI 0))) (σ' := σ) (fun f => rfl) (by decide) ?_
    exact Or.inr ⟨decide_eq_false (fun q => b1 q.1), rfl, rfl⟩
set_option maxRecDepth 20000 in
theorem pi_m_fine {xs : Nat → Int32} {L d : Nat} {σ : pi_S} {dr : Nat} (hd : dr < 8)  : pi_wp xs L d 135 0 [some (.ref 56), some (.int (nI dr)), none, none] [] σ (fun v s => v = some (.int (z_fine (σ 62) (σ 74) dr)) ∧ σ = s) := by
  refine pi_go 4 (pc' := 4) (l' := [some (.ref 56), some (.int (nI dr)), some (.int (nI 0)), some (.int (nI 0))]) (st' := []) (σ' := σ) (fun f => rfl) ?_
  suffices hl1 : ∀ i, i ≤ 5 → pi_wp xs L d 135 4 [some (.ref 56), some (.int (nI dr)), some (.int (pi_lp (fun k a => a + σ 74 (5 * dr + k) * σ 62 k) i (nI 0))), some (.int (nI i))] [] σ (fun v s => v = some (.int (z_fine (σ 62) (σ 74) dr)) ∧ σ = s) from hl1 0 (by omega) 
  refine pi_lp0 ?_ ?_
  · refine pi_ct 3 (c := nI 5 ≤ nI 5) (pc' := 35) (l' := [some (.ref 56), some (.int (nI dr)), some (.int (pi_lp (fun k a => a + σ 74 (5 * dr + k) * σ 62 k) 5 (nI 0))), some (.int (nI 5))]) (st' := []) (σ' := σ) (pc2 := 9) (l2 := [some (.ref 56), some (.int (nI dr)), some (.int (pi_lp (fun k a => a + σ 74 (5 * dr + k) * σ 62 k) 5 (nI 0))), some (.int (nI 5))]) (st2 := []) (σ2 := σ) (fun f => rfl) (by decide) ?_
    refine pi_rt 2 (v := some (.int (pi_lp (fun k a => a + σ 74 (5 * dr + k) * σ 62 k) 5 (nI 0)))) (σ' := σ) (fun f => rfl) ?_
    exact ⟨rfl, rfl⟩
  · intro i hi1 ih1
    refine pi_cf 3 (c := nI 5 ≤ nI i) (pc' := 9) (l' := [some (.ref 56), some (.int (nI dr)), some (.int (pi_lp (fun k a => a + σ 74 (5 * dr + k) * σ 62 k) i (nI 0))), some (.int (nI i))]) (st' := []) (σ' := σ) (pc2 := 35) (l2 := [some (.ref 56), some (.int (nI dr)), some (.int (pi_lp (fun k a => a + σ 74 (5 * dr + k) * σ 62 k) i (nI 0))), some (.int (nI i))]) (st2 := []) (σ2 := σ) (fun f => rfl) (fun zq => absurd ((show nI 5 ≤ nI i ↔ _ from nI_leI (by omega) (by omega)).mp zq) (by omega)) ?_
    refine pi_go 6 (pc' := 17) (l' := [some (.ref 56), some (.int (nI dr)), some (.int (pi_lp (fun k a => a + σ 74 (5 * dr + k) * σ 62 k) i (nI 0))), some (.int (nI i))]) (st' := [.int (nI 5 * nI dr), .ref 74, .int (pi_lp (fun k a => a + σ 74 (5 * dr + k) * σ 62 k) i (nI 0))]) (σ' := σ) (fun f => rfl) ?_
    refine pi_tp (y := nI (5 * dr)) (pk_mul _ _) ?_
    refine pi_go 2 (pc' := 19) (l' := [some (.ref 56), some (.int (nI dr)), some (.int (pi_lp (fun k a => a + σ 74 (5 * dr + k) * σ 62 k) i (nI 0))), some (.int (nI i))]) (st' := [.int (nI (5 * dr) + nI i), .ref 74, .int (pi_lp (fun k a => a + σ 74 (5 * dr + k) * σ 62 k) i (nI 0))]) (σ' := σ) (fun f => rfl) ?_
    refine pi_tp (y := nI (5 * dr + i)) (nI_add _ _) ?_
    refine pi_ai 1 (u := 5 * dr + i) (n := 40) (g := σ 74) (pc' := 20) (l' := [some (.ref 56), some (.int (nI dr)), some (.int (pi_lp (fun k a => a + σ 74 (5 * dr + k) * σ 62 k) i (nI 0))), some (.int (nI i))]) (t := [.int (pi_lp (fun k a => a + σ 74 (5 * dr + k) * σ 62 k) i (nI 0))]) (σ' := σ) (fun f => rfl) (by omega) (by omega) ?_
    refine pi_ai 4 (u := i) (n := 5) (g := σ 62) (pc' := 26) (l' := [some (.ref 56), some (.int (nI dr)), some (.int (pi_lp (fun k a => a + σ 74 (5 * dr + k) * σ 62 k) i (nI 0))), some (.int (nI i))]) (t := [.int (σ 74 (5 * dr + i)), .int (pi_lp (fun k a => a + σ 74 (5 * dr + k) * σ 62 k) i (nI 0))]) (σ' := σ) (fun f => rfl) (by omega) (by omega) ?_
    refine pi_go 4 (pc' := 32) (l' := [some (.ref 56), some (.int (nI dr)), some (.int ((pi_lp (fun k a => a + σ 74 (5 * dr + k) * σ 62 k) i (nI 0)) + ((σ 74 (5 * dr + i)) * (σ 62 i)))), some (.int (nI i + nI 1))]) (st' := []) (σ' := σ) (fun f => rfl) ?_
    rw [show nI i + nI 1 = nI (i + 1) from nI_add _ 1]
    refine pi_go 1 (pc' := 4) (l' := [some (.ref 56), some (.int (nI dr)), some (.int ((pi_lp (fun k a => a + σ 74 (5 * dr + k) * σ 62 k) i (nI 0)) + ((σ 74 (5 * dr + i)) * (σ 62 i)))), some (.int (nI (i + 1)))]) (st' := []) (σ' := σ) (fun f => rfl) ?_
    exact ih1 
set_option maxRecDepth 20000 in
theorem pi_m_fines {xs : Nat → Int32} {L d : Nat} {σ : pi_S} {nd : Nat} (hnd : σ 56 2 = nI nd) (hnd8 : nd ≤ 8)  : pi_wp xs L (d + 1) 136 0 [some (.ref 56), none, none] [] σ (fun v s => v = some (.int (z_fines (σ 62) (σ 74) nd)) ∧ σ = s) := by
  refine pi_go 4 (pc' := 4) (l' := [some (.ref 56), some (.int (nI 0)), some (.int (nI 0))]) (st' := []) (σ' := σ) (fun f => rfl) ?_
  suffices hl1 : ∀ i, i ≤ nd → pi_wp xs L (d + 1) 136 4 [some (.ref 56), some (.int (pi_lp (fun d a => a + z_fine (σ 62) (σ 74) d) i (nI 0))), some (.int (nI i))] [] σ (fun v s => v = some (.int (z_fines (σ 62) (σ 74) nd)) ∧ σ = s) from hl1 0 (by omega) 
  refine pi_lp0 ?_ ?_
  · refine pi_go 3 (pc' := 9) (l' := [some (.ref 56), some (.int (pi_lp (fun d a => a + z_fine (σ 62) (σ 74) d) nd (nI 0))), some (.int (nI nd))]) (st' := [.int (σ 56 2), .int (nI nd)]) (σ' := σ) (fun f => rfl) ?_
    refine pi_tp (y := nI nd) (hnd) ?_
    refine pi_ct 1 (c := nI nd ≤ nI nd) (pc' := 26) (l' := [some (.ref 56), some (.int (pi_lp (fun d a => a + z_fine (σ 62) (σ 74) d) nd (nI 0))), some (.int (nI nd))]) (st' := []) (σ' := σ) (pc2 := 12) (l2 := [some (.ref 56), some (.int (pi_lp (fun d a => a + z_fine (σ 62) (σ 74) d) nd (nI 0))), some (.int (nI nd))]) (st2 := []) (σ2 := σ) (fun f => rfl) ((show nI nd ≤ nI nd ↔ _ from nI_leI (by omega) (by omega)).mpr (by omega)) ?_
    refine pi_rt 2 (v := some (.int (pi_lp (fun d a => a + z_fine (σ 62) (σ 74) d) nd (nI 0)))) (σ' := σ) (fun f => rfl) ?_
    exact ⟨rfl, rfl⟩
  · intro i hi1 ih1
    refine pi_go 3 (pc' := 9) (l' := [some (.ref 56), some (.int (pi_lp (fun d a => a + z_fine (σ 62) (σ 74) d) i (nI 0))), some (.int (nI i))]) (st' := [.int (σ 56 2), .int (nI i)]) (σ' := σ) (fun f => rfl) ?_
    refine pi_tp (y := nI nd) (hnd) ?_
    refine pi_cf 1 (c := nI nd ≤ nI i) (pc' := 12) (l' := [some (.ref 56), some (.int (pi_lp (fun d a => a + z_fine (σ 62) (σ 74) d) i (nI 0))), some (.int (nI i))]) (st' := []) (σ' := σ) (pc2 := 26) (l2 := [some (.ref 56), some (.int (pi_lp (fun d a => a + z_fine (σ 62) (σ 74) d) i (nI 0))), some (.int (nI i))]) (st2 := []) (σ2 := σ) (fun f => rfl) (fun zq => absurd ((show nI nd ≤ nI i ↔ _ from nI_leI (by omega) (by omega)).mp zq) (by omega)) ?_
    refine pi_ca 4 (m' := 135) (l' := [some (.ref 56), some (.int (nI i)), none, none]) (σ' := σ) (pc2 := 18) (l2 := [some (.ref 56), some (.int (pi_lp (fun d a => a + z_fine (σ 62) (σ 74) d) i (nI 0))), some (.int (nI i))]) (t := [.int (pi_lp (fun d a => a + z_fine (σ 62) (σ 74) d) i (nI 0))]) (fun f => rfl) (pi_m_fine (by omega)) ?_
    rintro _ _ ⟨rfl, rfl⟩
    refine pi_go 3 (pc' := 23) (l' := [some (.ref 56), some (.int ((pi_lp (fun d a => a + z_fine (σ 62) (σ 74) d) i (nI 0)) + (z_fine (σ 62) (σ 74) i))), some (.int (nI i + nI 1))]) (st' := []) (σ' := σ) (fun f => rfl) ?_
    rw [show nI i + nI 1 = nI (i + 1) from nI_add _ 1]
    refine pi_go 1 (pc' := 4) (l' := [some (.ref 56), some (.int ((pi_lp (fun d a => a + z_fine (σ 62) (σ 74) d) i (nI 0)) + (z_fine (σ 62) (σ 74) i))), some (.int (nI (i + 1)))]) (st' := []) (σ' := σ) (fun f => rfl) ?_
    exact ih1 
theorem z_nIm (n : Nat) (h : n < 2 ^ 31) : ¬ nI n = (-1) := by
  intro q
  have h1 := congrArg Int32.toInt q
  rw [nI_toInt h] at h1
  have h2 : (-1 : Int32).toInt = -1 := by decide
  omega
set_option maxRecDepth 20000 in
theorem pi_m_rain {xs : Nat → Int32} {L d : Nat} {σ : pi_S} {nd ns : Nat} {up lo : Nat → Nat} (ht : z_tw σ nd ns up lo)  : pi_wp xs L (d + 1) 128 0 [some (.ref 56), none, none, none, none] [] σ (fun v s => v = none ∧ s 74 = (z_rain (σ 59) nd ns up lo 10 (σ 74, σ 75)).1 ∧ s 75 = (z_rain (σ 59) nd ns up lo 10 (σ 74, σ 75)).2 ∧ pi_fr [74, 75] s σ) := by
  have hnd8 := ht.2.2.1
  have hns12 := ht.2.2.2.1
  refine pi_go 2 (pc' := 3) (l' := [some (.ref 56), some (.int (nI 9)), none, none, none]) (st' := []) (σ' := σ) (fun f => rfl) ?_
  suffices hl1 : ∀ i, i ≤ 10 → ∀ (j2 j3 j4 : Option Value), ∀ (z1 : pi_S), z1 74 = (z_rain (σ 59) nd ns up lo i (σ 74, σ 75)).1 → z1 75 = (z_rain (σ 59) nd ns up lo i (σ 74, σ 75)).2 → pi_fr [74, 75] z1 σ → pi_wp xs L (d + 1) 128 3 [some (.ref 56), some (.int (nI (10 - i) - nI 1)), j2, j3, j4] [] z1 (fun v s => v = none ∧ s 74 = (z_rain (σ 59) nd ns up lo 10 (σ 74, σ 75)).1 ∧ s 75 = (z_rain (σ 59) nd ns up lo 10 (σ 74, σ 75)).2 ∧ pi_fr [74, 75] s σ) from hl1 0 (by omega) _ _ _ _ (rfl) (rfl) (pi_fr_rf)
  refine pi_lp0 ?_ ?_
  · intro j2 j3 j4 z1 fz1_74 fz1_75 hrz1
    have hw := z_dnN 10
    generalize nI (10 - 10) - nI 1 = w at hw ⊢
    refine pi_ct 2 (c := w < 0) (pc' := 88) (l' := [some (.ref 56), some (.int w), j2, j3, j4]) (st' := []) (σ' := z1) (pc2 := 7) (l2 := [some (.ref 56), some (.int w), j2, j3, j4]) (st2 := []) (σ2 := z1) (fun f => rfl) (hw) ?_
    refine pi_rt 1 (v := none) (σ' := z1) (fun f => rfl) ?_
    exact ⟨rfl, fz1_74, fz1_75, pi_fr_tr hrz1 (by decide) (pi_fr_rf)⟩
  · intro i hi1 ih1 j2 j3 j4 z1 fz1_74 fz1_75 hrz1
    rw [z_dn hi1]
    refine pi_cf 2 (c := nI (10 - (i + 1)) < 0) (pc' := 7) (l' := [some (.ref 56), some (.int (nI (10 - (i + 1)))), j2, j3, j4]) (st' := []) (σ' := z1) (pc2 := 88) (l2 := [some (.ref 56), some (.int (nI (10 - (i + 1)))), j2, j3, j4]) (st2 := []) (σ2 := z1) (fun f => rfl) (fun zq => absurd ((show nI (10 - (i + 1)) < nI 0 ↔ _ from nI_ltI (by omega) (by omega)).mp zq) (by omega)) ?_
    refine pi_go 2 (pc' := 9) (l' := [some (.ref 56), some (.int (nI (10 - (i + 1)))), some (.int (nI 0)), j3, j4]) (st' := []) (σ' := z1) (fun f => rfl) ?_
    suffices hl2 : ∀ dd, dd ≤ nd → ∀ (j3 j4 : Option Value), ∀ (z2 : pi_S), z2 74 = (z_r2 (σ 59) ns up lo (10 - (i + 1)) dd (z_rain (σ 59) nd ns up lo i (σ 74, σ 75))).1 → z2 75 = (z_r2 (σ 59) ns up lo (10 - (i + 1)) dd (z_rain (σ 59) nd ns up lo i (σ 74, σ 75))).2 → pi_fr [74, 75] z2 σ → pi_wp xs L (d + 1) 128 9 [some (.ref 56), some (.int (nI (10 - (i + 1)))), some (.int (nI dd)), j3, j4] [] z2 (fun v s => v = none ∧ s 74 = (z_rain (σ 59) nd ns up lo 10 (σ 74, σ 75)).1 ∧ s 75 = (z_rain (σ 59) nd ns up lo 10 (σ 74, σ 75)).2 ∧ pi_fr [74, 75] s σ) from hl2 0 (by omega) _ _ _ (fz1_74) (fz1_75) (pi_fr_tr hrz1 (by decide) (pi_fr_rf))
    refine pi_lp0 ?_ ?_
    · intro j3 j4 z2 fz2_74 fz2_75 hrz2
      refine pi_go 3 (pc' := 14) (l' := [some (.ref 56), some (.int (nI (10 - (i + 1)))), some (.int (nI nd)), j3, j4]) (st' := [.int (z2 56 2), .int (nI nd)]) (σ' := z2) (fun f => rfl) ?_
      refine pi_tp (y := nI nd) ((congrFun (hrz2 56 (by decide)) 2).trans (ht.1)) ?_
      refine pi_ct 1 (c := nI nd ≤ nI nd) (pc' := 82) (l' := [some (.ref 56), some (.int (nI (10 - (i + 1)))), some (.int (nI nd)), j3, j4]) (st' := []) (σ' := z2) (pc2 := 17) (l2 := [some (.ref 56), some (.int (nI (10 - (i + 1)))), some (.int (nI nd)), j3, j4]) (st2 := []) (σ2 := z2) (fun f => rfl) ((show nI nd ≤ nI nd ↔ _ from nI_leI (by omega) (by omega)).mpr (by omega)) ?_
      refine pi_go 2 (pc' := 3) (l' := [some (.ref 56), some (.int ((nI (10 - (i + 1))) - nI 1)), some (.int (nI nd)), j3, j4]) (st' := []) (σ' := z2) (fun f => rfl) ?_
      exact ih1 _ _ _ _ (fz2_74) (fz2_75) (pi_fr_tr hrz2 (by decide) (pi_fr_rf))
    · intro dd hi2 ih2 j3 j4 z2 fz2_74 fz2_75 hrz2
      refine pi_go 3 (pc' := 14) (l' := [some (.ref 56), some (.int (nI (10 - (i + 1)))), some (.int (nI dd)), j3, j4]) (st' := [.int (z2 56 2), .int (nI dd)]) (σ' := z2) (fun f => rfl) ?_
      refine pi_tp (y := nI nd) ((congrFun (hrz2 56 (by decide)) 2).trans (ht.1)) ?_
      refine pi_cf 1 (c := nI nd ≤ nI dd) (pc' := 17) (l' := [some (.ref 56), some (.int (nI (10 - (i + 1)))), some (.int (nI dd)), j3, j4]) (st' := []) (σ' := z2) (pc2 := 82) (l2 := [some (.ref 56), some (.int (nI (10 - (i + 1)))), some (.int (nI dd)), j3, j4]) (st2 := []) (σ2 := z2) (fun f => rfl) (fun zq => absurd ((show nI nd ≤ nI dd ↔ _ from nI_leI (by omega) (by omega)).mp zq) (by omega)) ?_
      refine pi_go 4 (pc' := 23) (l' := [some (.ref 56), some (.int (nI (10 - (i + 1)))), some (.int (nI dd)), some (.int (-1)), j4]) (st' := [.int (z2 56 4)]) (σ' := z2) (fun f => rfl) ?_
      refine pi_tp (y := nI ns) ((congrFun (hrz2 56 (by decide)) 4).trans (ht.2.1)) ?_
      refine pi_go 3 (pc' := 27) (l' := [some (.ref 56), some (.int (nI (10 - (i + 1)))), some (.int (nI dd)), some (.int (-1)), some (.int ((nI ns) - (nI 1)))]) (st' := []) (σ' := z2) (fun f => rfl) ?_
      rw [show some (Value.int (-1)) = some (Value.int (z_nv ns (z_fi up dd ns 0))) from congrArg some (congrArg Value.int (if_pos rfl).symm)]
      suffices hl3 : ∀ q, q ≤ ns → ∀ (z3 : pi_S), z3 74 = (z_r2 (σ 59) ns up lo (10 - (i + 1)) dd (z_rain (σ 59) nd ns up lo i (σ 74, σ 75))).1 → z3 75 = (z_r2 (σ 59) ns up lo (10 - (i + 1)) dd (z_rain (σ 59) nd ns up lo i (σ 74, σ 75))).2 → pi_fr [74, 75] z3 σ → pi_wp xs L (d + 1) 128 27 [some (.ref 56), some (.int (nI (10 - (i + 1)))), some (.int (nI dd)), some (.int (z_nv ns (z_fi up dd ns q))), some (.int (nI (ns - q) - nI 1))] [] z3 (fun v s => v = none ∧ s 74 = (z_rain (σ 59) nd ns up lo 10 (σ 74, σ 75)).1 ∧ s 75 = (z_rain (σ 59) nd ns up lo 10 (σ 74, σ 75)).2 ∧ pi_fr [74, 75] s σ) from hl3 0 (by omega) _ (fz2_74) (fz2_75) (pi_fr_tr hrz2 (by decide) (pi_fr_rf))
      refine pi_lp0 ?_ ?_
      · intro z3 fz3_74 fz3_75 hrz3
        have hw := z_dnN ns
        generalize nI (ns - ns) - nI 1 = w at hw ⊢
        by_cases hfn : z_fi up dd ns ns = ns
        · rw [show z_nv ns (z_fi up dd ns ns) = -1 from if_pos hfn]
          refine pi_ct 2 (c := w < 0) (pc' := 56) (l' := [some (.ref 56), some (.int (nI (10 - (i + 1)))), some (.int (nI dd)), some (.int (-1)), some (.int w)]) (st' := []) (σ' := z3) (pc2 := 32) (l2 := [some (.ref 56), some (.int (nI (10 - (i + 1)))), some (.int (nI dd)), some (.int (-1)), some (.int w)]) (st2 := []) (σ2 := z3) (fun f => rfl) (hw) ?_
          refine pi_ai 4 (u := dd) (n := 8) (g := z3 59) (pc' := 62) (l' := [some (.ref 56), some (.int (nI (10 - (i + 1)))), some (.int (nI dd)), some (.int (-1)), some (.int w)]) (t := []) (σ' := z3) (fun f => rfl) (by omega) (by omega) ?_
          refine pi_tp (y := σ 59 dd) ((congrFun (hrz3 59 (by decide)) dd)) ?_
          refine pi_if 2 (c := σ 59 dd = nI (10 - (i + 1))) (pc' := 66) (l' := [some (.ref 56), some (.int (nI (10 - (i + 1)))), some (.int (nI dd)), some (.int (-1)), some (.int w)]) (st' := []) (σ' := z3) (pc2 := 76) (l2 := [some (.ref 56), some (.int (nI (10 - (i + 1)))), some (.int (nI dd)), some (.int (-1)), some (.int w)]) (st2 := []) (σ2 := z3) (fun f => rfl) (fun h1 => ?_) (fun h1 => ?_)
          · refine pi_ct 3 (c := (-1) = (-1)) (pc' := 76) (l' := [some (.ref 56), some (.int (nI (10 - (i + 1)))), some (.int (nI dd)), some (.int (-1)), some (.int w)]) (st' := []) (σ' := z3) (pc2 := 71) (l2 := [some (.ref 56), some (.int (nI (10 - (i + 1)))), some (.int (nI dd)), some (.int (-1)), some (.int w)]) (st2 := []) (σ2 := z3) (fun f => rfl) (by decide) ?_
            refine pi_go 1 (pc' := 79) (l' := [some (.ref 56), some (.int (nI (10 - (i + 1)))), some (.int (nI dd + nI 1)), some (.int (-1)), some (.int w)]) (st' := []) (σ' := z3) (fun f => rfl) ?_
            rw [show nI dd + nI 1 = nI (dd + 1) from nI_add _ 1]
            refine pi_go 1 (pc' := 9) (l' := [some (.ref 56), some (.int (nI (10 - (i + 1)))), some (.int (nI (dd + 1))), some (.int (-1)), some (.int w)]) (st' := []) (σ' := z3) (fun f => rfl) ?_
            exact ih2 _ _ _ ((fz3_74).trans (congrArg (fun z => z.1) ((show z_r1 (σ 59) ns up lo (10 - (i + 1)) dd _ = _ from (if_pos h1).trans (if_pos hfn)))).symm) ((fz3_75).trans (congrArg (fun z => z.2) ((show z_r1 (σ 59) ns up lo (10 - (i + 1)) dd _ = _ from (if_pos h1).trans (if_pos hfn)))).symm) (pi_fr_tr hrz3 (by decide) (pi_fr_rf))
          · refine pi_go 1 (pc' := 79) (l' := [some (.ref 56), some (.int (nI (10 - (i + 1)))), some (.int (nI dd + nI 1)), some (.int (-1)), some (.int w)]) (st' := []) (σ' := z3) (fun f => rfl) ?_
            rw [show nI dd + nI 1 = nI (dd + 1) from nI_add _ 1]
            refine pi_go 1 (pc' := 9) (l' := [some (.ref 56), some (.int (nI (10 - (i + 1)))), some (.int (nI (dd + 1))), some (.int (-1)), some (.int w)]) (st' := []) (σ' := z3) (fun f => rfl) ?_
            exact ih2 _ _ _ ((fz3_74).trans (congrArg (fun z => z.1) ((show z_r1 (σ 59) ns up lo (10 - (i + 1)) dd _ = _ from if_neg h1))).symm) ((fz3_75).trans (congrArg (fun z => z.2) ((show z_r1 (σ 59) ns up lo (10 - (i + 1)) dd _ = _ from if_neg h1))).symm) (pi_fr_tr hrz3 (by decide) (pi_fr_rf))
        · rw [show z_nv ns (z_fi up dd ns ns) = nI (z_fi up dd ns ns) from if_neg hfn]
          have hfl := z_fi_le up dd ns ns
          have hf8 := (ht.2.2.2.2 (z_fi up dd ns ns) (by omega)).2.2
          refine pi_ct 2 (c := w < 0) (pc' := 56) (l' := [some (.ref 56), some (.int (nI (10 - (i + 1)))), some (.int (nI dd)), some (.int (nI (z_fi up dd ns ns))), some (.int w)]) (st' := []) (σ' := z3) (pc2 := 32) (l2 := [some (.ref 56), some (.int (nI (10 - (i + 1)))), some (.int (nI dd)), some (.int (nI (z_fi up dd ns ns))), some (.int w)]) (st2 := []) (σ2 := z3) (fun f => rfl) (hw) ?_
          refine pi_ai 4 (u := dd) (n := 8) (g := z3 59) (pc' := 62) (l' := [some (.ref 56), some (.int (nI (10 - (i + 1)))), some (.int (nI dd)), some (.int (nI (z_fi up dd ns ns))), some (.int w)]) (t := []) (σ' := z3) (fun f => rfl) (by omega) (by omega) ?_
          refine pi_tp (y := σ 59 dd) ((congrFun (hrz3 59 (by decide)) dd)) ?_
          refine pi_if 2 (c := σ 59 dd = nI (10 - (i + 1))) (pc' := 66) (l' := [some (.ref 56), some (.int (nI (10 - (i + 1)))), some (.int (nI dd)), some (.int (nI (z_fi up dd ns ns))), some (.int w)]) (st' := []) (σ' := z3) (pc2 := 76) (l2 := [some (.ref 56), some (.int (nI (10 - (i + 1)))), some (.int (nI dd)), some (.int (nI (z_fi up dd ns ns))), some (.int w)]) (st2 := []) (σ2 := z3) (fun f => rfl) (fun h2 => ?_) (fun h2 => ?_)
          · refine pi_cf 3 (c := nI (z_fi up dd ns ns) = (-1)) (pc' := 71) (l' := [some (.ref 56), some (.int (nI (10 - (i + 1)))), some (.int (nI dd)), some (.int (nI (z_fi up dd ns ns))), some (.int w)]) (st' := []) (σ' := z3) (pc2 := 76) (l2 := [some (.ref 56), some (.int (nI (10 - (i + 1)))), some (.int (nI dd)), some (.int (nI (z_fi up dd ns ns))), some (.int w)]) (st2 := []) (σ2 := z3) (fun f => rfl) (z_nIm _ (by omega)) ?_
            refine pi_ca 3 (m' := 127) (l' := [some (.ref 56), some (.int (nI (z_fi up dd ns ns))), none, none, none]) (σ' := z3) (pc2 := 76) (l2 := [some (.ref 56), some (.int (nI (10 - (i + 1)))), some (.int (nI dd)), some (.int (nI (z_fi up dd ns ns))), some (.int w)]) (t := []) (fun f => rfl) (pi_m_goes (u := up (z_fi up dd ns ns)) (l := lo (z_fi up dd ns ns)) (by omega) ((congrFun (hrz3 60 (by decide)) (z_fi up dd ns ns)).trans ((ht.2.2.2.2 (z_fi up dd ns ns) (by omega)).1)) ((congrFun (hrz3 61 (by decide)) (z_fi up dd ns ns)).trans ((ht.2.2.2.2 (z_fi up dd ns ns) (by omega)).2.1)) (by omega) (by omega)) ?_
            rintro _ t4 ⟨rfl, gt4_74, gt4_75, grt4⟩
            refine pi_go 1 (pc' := 79) (l' := [some (.ref 56), some (.int (nI (10 - (i + 1)))), some (.int (nI dd + nI 1)), some (.int (nI (z_fi up dd ns ns))), some (.int w)]) (st' := []) (σ' := t4) (fun f => rfl) ?_
            rw [show nI dd + nI 1 = nI (dd + 1) from nI_add _ 1]
            refine pi_go 1 (pc' := 9) (l' := [some (.ref 56), some (.int (nI (10 - (i + 1)))), some (.int (nI (dd + 1))), some (.int (nI (z_fi up dd ns ns))), some (.int w)]) (st' := []) (σ' := t4) (fun f => rfl) ?_
            exact ih2 _ _ _ ((gt4_74.trans (congrArg (fun z => (z_gd (up (z_fi up dd ns ns)) (lo (z_fi up dd ns ns)) z).1) (Prod.ext (fz3_74) (fz3_75)))).trans (congrArg (fun z => z.1) ((show z_r1 (σ 59) ns up lo (10 - (i + 1)) dd _ = _ from (if_pos h2).trans (if_neg hfn)))).symm) ((gt4_75.trans (congrArg (fun z => (z_gd (up (z_fi up dd ns ns)) (lo (z_fi up dd ns ns)) z).2) (Prod.ext (fz3_74) (fz3_75)))).trans (congrArg (fun z => z.2) ((show z_r1 (σ 59) ns up lo (10 - (i + 1)) dd _ = _ from (if_pos h2).trans (if_neg hfn)))).symm) (pi_fr_tr grt4 (by decide) (pi_fr_tr hrz3 (by decide) (pi_fr_rf)))
          · refine pi_go 1 (pc' := 79) (l' := [some (.ref 56), some (.int (nI (10 - (i + 1)))), some (.int (nI dd + nI 1)), some (.int (nI (z_fi up dd ns ns))), some (.int w)]) (st' := []) (σ' := z3) (fun f => rfl) ?_
            rw [show nI dd + nI 1 = nI (dd + 1) from nI_add _ 1]
            refine pi_go 1 (pc' := 9) (l' := [some (.ref 56), some (.int (nI (10 - (i + 1)))), some (.int (nI (dd + 1))), some (.int (nI (z_fi up dd ns ns))), some (.int w)]) (st' := []) (σ' := z3) (fun f => rfl) ?_
            exact ih2 _ _ _ ((fz3_74).trans (congrArg (fun z => z.1) ((show z_r1 (σ 59) ns up lo (10 - (i + 1)) dd _ = _ from if_neg h2))).symm) ((fz3_75).trans (congrArg (fun z => z.2) ((show z_r1 (σ 59) ns up lo (10 - (i + 1)) dd _ = _ from if_neg h2))).symm) (pi_fr_tr hrz3 (by decide) (pi_fr_rf))
      · intro q hi3 ih3 z3 fz3_74 fz3_75 hrz3
        rw [z_dn hi3]
        have hk8 := (ht.2.2.2.2 (ns - (q + 1)) (by omega)).2.2
        refine pi_cf 2 (c := nI (ns - (q + 1)) < 0) (pc' := 32) (l' := [some (.ref 56), some (.int (nI (10 - (i + 1)))), some (.int (nI dd)), some (.int (z_nv ns (z_fi up dd ns q))), some (.int (nI (ns - (q + 1))))]) (st' := []) (σ' := z3) (pc2 := 56) (l2 := [some (.ref 56), some (.int (nI (10 - (i + 1)))), some (.int (nI dd)), some (.int (z_nv ns (z_fi up dd ns q))), some (.int (nI (ns - (q + 1))))]) (st2 := []) (σ2 := z3) (fun f => rfl) (fun zq => absurd ((show nI (ns - (q + 1)) < nI 0 ↔ _ from nI_ltI (by omega) (by omega)).mp zq) (by omega)) ?_
        refine pi_ai 4 (u := ns - (q + 1)) (n := 12) (g := z3 60) (pc' := 39) (l' := [some (.ref 56), some (.int (nI (10 - (i + 1)))), some (.int (nI dd)), some (.int (z_nv ns (z_fi up dd ns q))), some (.int (nI (ns - (q + 1))))]) (t := []) (σ' := z3) (fun f => rfl) (by omega) (by omega) ?_
        refine pi_tp (y := nI (up (ns - (q + 1)))) ((congrFun (hrz3 60 (by decide)) (ns - (q + 1))).trans ((ht.2.2.2.2 (ns - (q + 1)) (by omega)).1)) ?_
        refine pi_if 2 (c := nI (up (ns - (q + 1))) = nI dd) (pc' := 43) (l' := [some (.ref 56), some (.int (nI (10 - (i + 1)))), some (.int (nI dd)), some (.int (z_nv ns (z_fi up dd ns q))), some (.int (nI (ns - (q + 1))))]) (st' := []) (σ' := z3) (pc2 := 48) (l2 := [some (.ref 56), some (.int (nI (10 - (i + 1)))), some (.int (nI dd)), some (.int (z_nv ns (z_fi up dd ns q))), some (.int (nI (ns - (q + 1))))]) (st2 := []) (σ2 := z3) (fun f => rfl) (fun h3 => ?_) (fun h3 => ?_)
        · replace h3 : (up (ns - (q + 1))) = dd := (nI_eq (by omega) (by omega)).mp h3
          refine pi_go 5 (pc' := 27) (l' := [some (.ref 56), some (.int (nI (10 - (i + 1)))), some (.int (nI dd)), some (.int (nI (ns - (q + 1)))), some (.int ((nI (ns - (q + 1))) - nI 1))]) (st' := []) (σ' := z3) (fun f => rfl) ?_
          rw [show some (Value.int (nI (ns - (q + 1)))) = some (Value.int (z_nv ns (z_fi up dd ns (q + 1)))) from congrArg some (congrArg Value.int (z_nv_t h3 (by omega)))]
          exact ih3 _ (fz3_74) (fz3_75) (pi_fr_tr hrz3 (by decide) (pi_fr_rf))
        · replace h3 : ¬ ((up (ns - (q + 1))) = dd) := fun zq => h3 ((nI_eq (by omega) (by omega)).mpr zq)
          refine pi_go 4 (pc' := 27) (l' := [some (.ref 56), some (.int (nI (10 - (i + 1)))), some (.int (nI dd)), some (.int (z_nv ns (z_fi up dd ns q))), some (.int ((nI (ns - (q + 1))) - nI 1))]) (st' := []) (σ' := z3) (fun f => rfl) ?_
          rw [show some (Value.int (z_nv ns (z_fi up dd ns q))) = some (Value.int (z_nv ns (z_fi up dd ns (q + 1)))) from congrArg some (congrArg Value.int (z_nv_f h3))]
          exact ih3 _ (fz3_74) (fz3_75) (pi_fr_tr hrz3 (by decide) (pi_fr_rf))
