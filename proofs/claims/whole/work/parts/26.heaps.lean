theorem pi_C_belowN {xs : Nat → Int32} {L d : Nat} {σ : pi_S} {a b : Nat} (ha : a < 2 ^ 31) (hb : b < 2 ^ 31) : pi_wp xs L d 94 0 [some (.int (nI a)), some (.int (nI b))] [] σ (fun v s => (a < b ∧ v = some (.int (nI 1)) ∧ σ = s) ∨ (¬ a < b ∧ v = some (.int (nI 0)) ∧ σ = s)) :=
  pi_mo (fun v s q => q.elim (fun q => Or.inl ⟨(nI_ltI ha hb).mp q.1.2, q.2⟩) (fun q => Or.inr ⟨fun z => q.1 (z_BL z hb), q.2⟩)) (pi_below (nI a) (nI b))
theorem pi_C_belowB {xs : Nat → Int32} {L d : Nat} {σ : pi_S} {a : Int32} {n : Nat} (hn : n < 2 ^ 30) : pi_wp xs L d 94 0 [some (.int a), some (.int (nI n))] [] σ (fun v s => (z_B n a ∧ v = some (.int (nI 1)) ∧ σ = s) ∨ (¬ z_B n a ∧ v = some (.int (nI 0)) ∧ σ = s)) :=
  pi_mo (fun v s q => q.elim (fun q => Or.inl ⟨(z_B_bl hn).mp q.1, q.2⟩) (fun q => Or.inr ⟨fun z => q.1 ((z_B_bl hn).mpr z), q.2⟩)) (pi_below a (nI n))
set_option maxRecDepth 20000 in
theorem pi_C_clear_c {xs : Nat → Int32} {L d : Nat} {σ : pi_S}  : pi_wp xs L d 18 0 [some (.ref 34), none] [] σ (fun v s => v = none ∧ s 35 = z_clr (σ 35) 40 ∧ s 36 = z_clr (σ 36) 40 ∧ pi_fr [35, 36] s σ) := by
  refine pi_go 2 (pc' := 2) (l' := [some (.ref 34), some (.int (nI 0))]) (st' := []) (σ' := σ) (fun f => rfl) ?_
  suffices hl1 : ∀ i, i ≤ 40 → ∀ (z1 : pi_S), z1 35 = z_clr (σ 35) i → z1 36 = z_clr (σ 36) i → pi_fr [35, 36] z1 σ → pi_wp xs L d 18 2 [some (.ref 34), some (.int (nI i))] [] z1 (fun v s => v = none ∧ s 35 = z_clr (σ 35) 40 ∧ s 36 = z_clr (σ 36) 40 ∧ pi_fr [35, 36] s σ) from hl1 0 (by omega) _ (rfl) (rfl) (pi_fr_rf)
  refine pi_lp0 ?_ ?_
  · intro z1 fz1_35 fz1_36 hrz1
    refine pi_ct 5 (c := nI 40 ≤ nI 40) (pc' := 40) (l' := [some (.ref 34), some (.int (nI 40))]) (st' := []) (σ' := z1) (pc2 := 11) (l2 := [some (.ref 34), some (.int (nI 40))]) (st2 := []) (σ2 := z1) (fun f => rfl) (by decide) ?_
    refine pi_rt 1 (v := none) (σ' := z1) (fun f => rfl) ?_
    exact ⟨rfl, fz1_35, fz1_36, pi_fr_tr hrz1 (by decide) (pi_fr_rf)⟩
  · intro i hi1 ih1 z1 fz1_35 fz1_36 hrz1
    refine pi_cf 5 (c := nI 40 ≤ nI i) (pc' := 11) (l' := [some (.ref 34), some (.int (nI i))]) (st' := []) (σ' := z1) (pc2 := 40) (l2 := [some (.ref 34), some (.int (nI i))]) (st2 := []) (σ2 := z1) (fun f => rfl) (fun zq => absurd ((show nI 40 ≤ nI i ↔ _ from nI_leI (by omega) (by omega)).mp zq) (by omega)) ?_
    refine pi_cf 5 (c := nI 40 ≤ nI i) (pc' := 20) (l' := [some (.ref 34), some (.int (nI i))]) (st' := []) (σ' := z1) (pc2 := 40) (l2 := [some (.ref 34), some (.int (nI i))]) (st2 := []) (σ2 := z1) (fun f => rfl) (fun zq => absurd ((show nI 40 ≤ nI i ↔ _ from nI_leI (by omega) (by omega)).mp zq) (by omega)) ?_
    refine pi_au 5 (u := i) (n := 40) (a := 35) (x := nI 0) (pc' := 27) (l' := [some (.ref 34), some (.int (nI i))]) (t := []) (σ' := z1) (fun f => rfl) (by omega) (by omega) ?_
    generalize es2 : pi_up z1 35 i (nI 0) = s2
    refine pi_au 5 (u := i) (n := 40) (a := 36) (x := nI 0) (pc' := 34) (l' := [some (.ref 34), some (.int (nI i))]) (t := []) (σ' := s2) (fun f => rfl) (by omega) (by omega) ?_
    generalize es3 : pi_up s2 36 i (nI 0) = s3
    refine pi_go 1 (pc' := 37) (l' := [some (.ref 34), some (.int (nI i + nI 1))]) (st' := []) (σ' := s3) (fun f => rfl) ?_
    rw [show nI i + nI 1 = nI (i + 1) from nI_add _ 1]
    refine pi_go 1 (pc' := 2) (l' := [some (.ref 34), some (.int (nI (i + 1)))]) (st' := []) (σ' := s3) (fun f => rfl) ?_
    exact ih1 _ ((congrFun es3 35).symm.trans ((pi_up_ne _ _ _ (by decide)).trans ((congrFun es2 35).symm.trans ((pi_up_self _ _ _ _).trans (congrArg (fun z => upd z i (nI 0)) (fz1_35)))))) ((congrFun es3 36).symm.trans ((pi_up_self _ _ _ _).trans (congrArg (fun z => upd z i (nI 0)) ((congrFun es2 36).symm.trans ((pi_up_ne _ _ _ (by decide)).trans (fz1_36)))))) (pi_fr_of es3 (by decide) (pi_fr_of es2 (by decide) (pi_fr_tr hrz1 (by decide) (pi_fr_rf))))
set_option maxRecDepth 20000 in
theorem pi_C_clearDoor_c {xs : Nat → Int32} {L d : Nat} {σ : pi_S} {dr : Nat} (hd : dr < 8)  : pi_wp xs L (d + 1) 19 0 [some (.ref 34), some (.int (nI dr)), none] [] σ (fun v s => v = none ∧ s 35 = (z_tk dr (σ 35, σ 36)).1 ∧ s 36 = (z_tk dr (σ 35, σ 36)).2 ∧ pi_fr [35, 36] s σ) := by
  refine pi_go 2 (pc' := 2) (l' := [some (.ref 34), some (.int (nI dr)), some (.int (nI 0))]) (st' := []) (σ' := σ) (fun f => rfl) ?_
  suffices hl1 : ∀ i, i ≤ 5 → ∀ (z1 : pi_S), z1 35 = (pi_lp (z_tk1 dr) i (σ 35, σ 36)).1 → z1 36 = (pi_lp (z_tk1 dr) i (σ 35, σ 36)).2 → pi_fr [35, 36] z1 σ → pi_wp xs L (d + 1) 19 2 [some (.ref 34), some (.int (nI dr)), some (.int (nI i))] [] z1 (fun v s => v = none ∧ s 35 = (z_tk dr (σ 35, σ 36)).1 ∧ s 36 = (z_tk dr (σ 35, σ 36)).2 ∧ pi_fr [35, 36] s σ) from hl1 0 (by omega) _ (rfl) (rfl) (pi_fr_rf)
  refine pi_lp0 ?_ ?_
  · intro z1 fz1_35 fz1_36 hrz1
    refine pi_ct 3 (c := nI 5 ≤ nI 5) (pc' := 44) (l' := [some (.ref 34), some (.int (nI dr)), some (.int (nI 5))]) (st' := []) (σ' := z1) (pc2 := 7) (l2 := [some (.ref 34), some (.int (nI dr)), some (.int (nI 5))]) (st2 := []) (σ2 := z1) (fun f => rfl) (by decide) ?_
    refine pi_rt 1 (v := none) (σ' := z1) (fun f => rfl) ?_
    exact ⟨rfl, fz1_35, fz1_36, pi_fr_tr hrz1 (by decide) (pi_fr_rf)⟩
  · intro i hi1 ih1 z1 fz1_35 fz1_36 hrz1
    refine pi_cf 3 (c := nI 5 ≤ nI i) (pc' := 7) (l' := [some (.ref 34), some (.int (nI dr)), some (.int (nI i))]) (st' := []) (σ' := z1) (pc2 := 44) (l2 := [some (.ref 34), some (.int (nI dr)), some (.int (nI i))]) (st2 := []) (σ2 := z1) (fun f => rfl) (fun zq => absurd ((show nI 5 ≤ nI i ↔ _ from nI_leI (by omega) (by omega)).mp zq) (by omega)) ?_
    refine pi_ca 3 (m' := 94) (l' := [some (.int (nI dr)), some (.int (nI 8))]) (σ' := z1) (pc2 := 13) (l2 := [some (.ref 34), some (.int (nI dr)), some (.int (nI i))]) (t := []) (fun f => rfl) (pi_below1 _ _ (z_BL (by omega) (by omega))) ?_
    rintro _ _ ⟨rfl, rfl⟩
    refine pi_cf 1 (c := nI 1 = 0) (pc' := 16) (l' := [some (.ref 34), some (.int (nI dr)), some (.int (nI i))]) (st' := []) (σ' := z1) (pc2 := 44) (l2 := [some (.ref 34), some (.int (nI dr)), some (.int (nI i))]) (st2 := []) (σ2 := z1) (fun f => rfl) (by decide) ?_
    refine pi_go 5 (pc' := 23) (l' := [some (.ref 34), some (.int (nI dr)), some (.int (nI i))]) (st' := [.int (nI dr * nI 5), .ref 35]) (σ' := z1) (fun f => rfl) ?_
    refine pi_tp (y := nI (5 * dr)) ((pk_mul _ _).trans (congrArg nI (Nat.mul_comm _ _))) ?_
    refine pi_go 2 (pc' := 25) (l' := [some (.ref 34), some (.int (nI dr)), some (.int (nI i))]) (st' := [.int (nI (5 * dr) + nI i), .ref 35]) (σ' := z1) (fun f => rfl) ?_
    refine pi_tp (y := nI (5 * dr + i)) (nI_add _ _) ?_
    refine pi_au 2 (u := 5 * dr + i) (n := 40) (a := 35) (x := nI 0) (pc' := 27) (l' := [some (.ref 34), some (.int (nI dr)), some (.int (nI i))]) (t := []) (σ' := z1) (fun f => rfl) (by omega) (by omega) ?_
    generalize es2 : pi_up z1 35 (5 * dr + i) (nI 0) = s2
    refine pi_go 5 (pc' := 34) (l' := [some (.ref 34), some (.int (nI dr)), some (.int (nI i))]) (st' := [.int (nI dr * nI 5), .ref 36]) (σ' := s2) (fun f => rfl) ?_
    refine pi_tp (y := nI (5 * dr)) ((pk_mul _ _).trans (congrArg nI (Nat.mul_comm _ _))) ?_
    refine pi_go 2 (pc' := 36) (l' := [some (.ref 34), some (.int (nI dr)), some (.int (nI i))]) (st' := [.int (nI (5 * dr) + nI i), .ref 36]) (σ' := s2) (fun f => rfl) ?_
    refine pi_tp (y := nI (5 * dr + i)) (nI_add _ _) ?_
    refine pi_au 2 (u := 5 * dr + i) (n := 40) (a := 36) (x := nI 0) (pc' := 38) (l' := [some (.ref 34), some (.int (nI dr)), some (.int (nI i))]) (t := []) (σ' := s2) (fun f => rfl) (by omega) (by omega) ?_
    generalize es3 : pi_up s2 36 (5 * dr + i) (nI 0) = s3
    refine pi_go 1 (pc' := 41) (l' := [some (.ref 34), some (.int (nI dr)), some (.int (nI i + nI 1))]) (st' := []) (σ' := s3) (fun f => rfl) ?_
    rw [show nI i + nI 1 = nI (i + 1) from nI_add _ 1]
    refine pi_go 1 (pc' := 2) (l' := [some (.ref 34), some (.int (nI dr)), some (.int (nI (i + 1)))]) (st' := []) (σ' := s3) (fun f => rfl) ?_
    exact ih1 _ ((congrFun es3 35).symm.trans ((pi_up_ne _ _ _ (by decide)).trans ((congrFun es2 35).symm.trans ((pi_up_self _ _ _ _).trans (congrArg (fun z => upd z (5 * dr + i) (nI 0)) (fz1_35)))))) ((congrFun es3 36).symm.trans ((pi_up_self _ _ _ _).trans (congrArg (fun z => upd z (5 * dr + i) (nI 0)) ((congrFun es2 36).symm.trans ((pi_up_ne _ _ _ (by decide)).trans (fz1_36)))))) (pi_fr_of es3 (by decide) (pi_fr_of es2 (by decide) (pi_fr_tr hrz1 (by decide) (pi_fr_rf))))
set_option maxRecDepth 20000 in
theorem pi_C_drop_c {xs : Nat → Int32} {L d : Nat} {σ : pi_S} {dr kd : Nat} {x : Int32} (hd : dr < 8) (hkd : kd < 5)  : pi_wp xs L (d + 1) 20 0 [some (.ref 34), some (.int (nI dr)), some (.int (nI kd)), some (.int x)] [] σ (fun v s => v = none ∧ s 35 = (z_fl (5 * dr + kd) dr x (σ 35, σ 36)).1 ∧ s 36 = (z_fl (5 * dr + kd) dr x (σ 35, σ 36)).2 ∧ pi_fr [35, 36] s σ) := by
  refine pi_ca 3 (m' := 94) (l' := [some (.int (nI dr)), some (.int (nI 8))]) (σ' := σ) (pc2 := 6) (l2 := [some (.ref 34), some (.int (nI dr)), some (.int (nI kd)), some (.int x)]) (t := []) (fun f => rfl) (pi_below1 _ _ (z_BL (by omega) (by omega))) ?_
  rintro _ _ ⟨rfl, rfl⟩
  refine pi_cf 1 (c := nI 1 = 0) (pc' := 9) (l' := [some (.ref 34), some (.int (nI dr)), some (.int (nI kd)), some (.int x)]) (st' := []) (σ' := σ) (pc2 := 17) (l2 := [some (.ref 34), some (.int (nI dr)), some (.int (nI kd)), some (.int x)]) (st2 := []) (σ2 := σ) (fun f => rfl) (by decide) ?_
  refine pi_ca 3 (m' := 94) (l' := [some (.int (nI kd)), some (.int (nI 5))]) (σ' := σ) (pc2 := 14) (l2 := [some (.ref 34), some (.int (nI dr)), some (.int (nI kd)), some (.int x)]) (t := []) (fun f => rfl) (pi_below1 _ _ (z_BL (by omega) (by omega))) ?_
  rintro _ _ ⟨rfl, rfl⟩
  refine pi_cf 1 (c := nI 1 = 0) (pc' := 18) (l' := [some (.ref 34), some (.int (nI dr)), some (.int (nI kd)), some (.int x)]) (st' := []) (σ' := σ) (pc2 := 17) (l2 := [some (.ref 34), some (.int (nI dr)), some (.int (nI kd)), some (.int x)]) (st2 := []) (σ2 := σ) (fun f => rfl) (by decide) ?_
  refine pi_go 5 (pc' := 25) (l' := [some (.ref 34), some (.int (nI dr)), some (.int (nI kd)), some (.int x)]) (st' := [.int (nI dr * nI 5), .ref 35]) (σ' := σ) (fun f => rfl) ?_
  refine pi_tp (y := nI (5 * dr)) ((pk_mul _ _).trans (congrArg nI (Nat.mul_comm _ _))) ?_
  refine pi_go 2 (pc' := 27) (l' := [some (.ref 34), some (.int (nI dr)), some (.int (nI kd)), some (.int x)]) (st' := [.int (nI (5 * dr) + nI kd), .ref 35]) (σ' := σ) (fun f => rfl) ?_
  refine pi_tp (y := nI (5 * dr + kd)) (nI_add _ _) ?_
  refine pi_ai 2 (u := 5 * dr + kd) (n := 40) (g := σ 35) (pc' := 29) (l' := [some (.ref 34), some (.int (nI dr)), some (.int (nI kd)), some (.int x)]) (t := [.int (nI (5 * dr + kd)), .ref 35]) (σ' := σ) (fun f => rfl) (by omega) (by omega) ?_
  refine pi_au 3 (u := 5 * dr + kd) (n := 40) (a := 35) (x := (σ 35 (5 * dr + kd)) + x) (pc' := 32) (l' := [some (.ref 34), some (.int (nI dr)), some (.int (nI kd)), some (.int x)]) (t := []) (σ' := σ) (fun f => rfl) (by omega) (by omega) ?_
  generalize es1 : pi_up σ 35 (5 * dr + kd) ((σ 35 (5 * dr + kd)) + x) = s1
  refine pi_go 5 (pc' := 39) (l' := [some (.ref 34), some (.int (nI dr)), some (.int (nI kd)), some (.int x)]) (st' := [.int (nI dr * nI 5), .ref 36]) (σ' := s1) (fun f => rfl) ?_
  refine pi_tp (y := nI (5 * dr)) ((pk_mul _ _).trans (congrArg nI (Nat.mul_comm _ _))) ?_
  refine pi_go 2 (pc' := 41) (l' := [some (.ref 34), some (.int (nI dr)), some (.int (nI kd)), some (.int x)]) (st' := [.int (nI (5 * dr) + nI kd), .ref 36]) (σ' := s1) (fun f => rfl) ?_
  refine pi_tp (y := nI (5 * dr + kd)) (nI_add _ _) ?_
  refine pi_ai 2 (u := 5 * dr + kd) (n := 40) (g := s1 36) (pc' := 43) (l' := [some (.ref 34), some (.int (nI dr)), some (.int (nI kd)), some (.int x)]) (t := [.int (nI (5 * dr + kd)), .ref 36]) (σ' := s1) (fun f => rfl) (by omega) (by omega) ?_
  refine pi_tp (y := σ 36 (5 * dr + kd)) ((congrFun ((congrFun es1 36).symm.trans (pi_up_ne _ _ _ (by decide))) (5 * dr + kd))) ?_
  refine pi_au 5 (u := 5 * dr + kd) (n := 40) (a := 36) (x := (σ 36 (5 * dr + kd)) ||| ((nI 1) <<< (nI dr &&& 31))) (pc' := 48) (l' := [some (.ref 34), some (.int (nI dr)), some (.int (nI kd)), some (.int x)]) (t := []) (σ' := s1) (fun f => rfl) (by omega) (by omega) ?_
  generalize es2 : pi_up s1 36 (5 * dr + kd) ((σ 36 (5 * dr + kd)) ||| ((nI 1) <<< (nI dr &&& 31))) = s2
  refine pi_rt 1 (v := none) (σ' := s2) (fun f => rfl) ?_
  exact ⟨rfl, (congrFun es2 35).symm.trans ((pi_up_ne _ _ _ (by decide)).trans ((congrFun es1 35).symm.trans ((pi_up_self _ _ _ _)))), (congrFun es2 36).symm.trans ((pi_up_self _ _ _ _).trans (congrArg (fun z => upd z (5 * dr + kd) ((σ 36 (5 * dr + kd)) ||| ((nI 1) <<< (nI dr &&& 31)))) ((congrFun es1 36).symm.trans ((pi_up_ne _ _ _ (by decide)))))), pi_fr_of es2 (by decide) (pi_fr_of es1 (by decide) (pi_fr_rf))⟩
set_option maxRecDepth 20000 in
theorem pi_C_slide_c {xs : Nat → Int32} {L d : Nat} {σ : pi_S} {u l : Nat} (hu : u < 8) (hl : l < 8) (hul : ¬ u = l)  : pi_wp xs L (d + 1) 21 0 [some (.ref 34), some (.int (nI u)), some (.int (nI l)), none, none, none] [] σ (fun v s => v = none ∧ s 35 = (z_gd u l (σ 35, σ 36)).1 ∧ s 36 = (z_gd u l (σ 35, σ 36)).2 ∧ pi_fr [35, 36] s σ) := by
  refine pi_ca 3 (m' := 94) (l' := [some (.int (nI u)), some (.int (nI 8))]) (σ' := σ) (pc2 := 6) (l2 := [some (.ref 34), some (.int (nI u)), some (.int (nI l)), none, none, none]) (t := []) (fun f => rfl) (pi_below1 _ _ (z_BL (by omega) (by omega))) ?_
  rintro _ _ ⟨rfl, rfl⟩
  refine pi_cf 1 (c := nI 1 = 0) (pc' := 9) (l' := [some (.ref 34), some (.int (nI u)), some (.int (nI l)), none, none, none]) (st' := []) (σ' := σ) (pc2 := 23) (l2 := [some (.ref 34), some (.int (nI u)), some (.int (nI l)), none, none, none]) (st2 := []) (σ2 := σ) (fun f => rfl) (by decide) ?_
  refine pi_ca 3 (m' := 94) (l' := [some (.int (nI l)), some (.int (nI 8))]) (σ' := σ) (pc2 := 15) (l2 := [some (.ref 34), some (.int (nI u)), some (.int (nI l)), none, none, none]) (t := []) (fun f => rfl) (pi_below1 _ _ (z_BL (by omega) (by omega))) ?_
  rintro _ _ ⟨rfl, rfl⟩
  refine pi_cf 1 (c := nI 1 = 0) (pc' := 18) (l' := [some (.ref 34), some (.int (nI u)), some (.int (nI l)), none, none, none]) (st' := []) (σ' := σ) (pc2 := 23) (l2 := [some (.ref 34), some (.int (nI u)), some (.int (nI l)), none, none, none]) (st2 := []) (σ2 := σ) (fun f => rfl) (by decide) ?_
  refine pi_cf 3 (c := nI u = nI l) (pc' := 24) (l' := [some (.ref 34), some (.int (nI u)), some (.int (nI l)), none, none, none]) (st' := []) (σ' := σ) (pc2 := 23) (l2 := [some (.ref 34), some (.int (nI u)), some (.int (nI l)), none, none, none]) (st2 := []) (σ2 := σ) (fun f => rfl) (fun q => hul ((nI_eq (by omega) (by omega)).mp q)) ?_
  refine pi_go 2 (pc' := 26) (l' := [some (.ref 34), some (.int (nI u)), some (.int (nI l)), some (.int (nI 0)), none, none]) (st' := []) (σ' := σ) (fun f => rfl) ?_
  suffices hl1 : ∀ i, i ≤ 5 → ∀ (j4 j5 : Option Value), ∀ (z1 : pi_S), z1 35 = (pi_lp (z_g1 u l) i (σ 35, σ 36)).1 → z1 36 = (pi_lp (z_g1 u l) i (σ 35, σ 36)).2 → pi_fr [35, 36] z1 σ → pi_wp xs L (d + 1) 21 26 [some (.ref 34), some (.int (nI u)), some (.int (nI l)), some (.int (nI i)), j4, j5] [] z1 (fun v s => v = none ∧ s 35 = (z_gd u l (σ 35, σ 36)).1 ∧ s 36 = (z_gd u l (σ 35, σ 36)).2 ∧ pi_fr [35, 36] s σ) from hl1 0 (by omega) _ _ _ (rfl) (rfl) (pi_fr_rf)
  refine pi_lp0 ?_ ?_
  · intro j4 j5 z1 fz1_35 fz1_36 hrz1
    refine pi_ct 3 (c := nI 5 ≤ nI 5) (pc' := 101) (l' := [some (.ref 34), some (.int (nI u)), some (.int (nI l)), some (.int (nI 5)), j4, j5]) (st' := []) (σ' := z1) (pc2 := 31) (l2 := [some (.ref 34), some (.int (nI u)), some (.int (nI l)), some (.int (nI 5)), j4, j5]) (st2 := []) (σ2 := z1) (fun f => rfl) (by decide) ?_
    refine pi_rt 1 (v := none) (σ' := z1) (fun f => rfl) ?_
    exact ⟨rfl, fz1_35, fz1_36, pi_fr_tr hrz1 (by decide) (pi_fr_rf)⟩
  · intro i hi1 ih1 j4 j5 z1 fz1_35 fz1_36 hrz1
    refine pi_cf 3 (c := nI 5 ≤ nI i) (pc' := 31) (l' := [some (.ref 34), some (.int (nI u)), some (.int (nI l)), some (.int (nI i)), j4, j5]) (st' := []) (σ' := z1) (pc2 := 101) (l2 := [some (.ref 34), some (.int (nI u)), some (.int (nI l)), some (.int (nI i)), j4, j5]) (st2 := []) (σ2 := z1) (fun f => rfl) (fun zq => absurd ((show nI 5 ≤ nI i ↔ _ from nI_leI (by omega) (by omega)).mp zq) (by omega)) ?_
    refine pi_go 3 (pc' := 34) (l' := [some (.ref 34), some (.int (nI u)), some (.int (nI l)), some (.int (nI i)), j4, j5]) (st' := [.int (nI u * nI 5)]) (σ' := z1) (fun f => rfl) ?_
    refine pi_tp (y := nI (5 * u)) ((pk_mul _ _).trans (congrArg nI (Nat.mul_comm _ _))) ?_
    refine pi_go 2 (pc' := 36) (l' := [some (.ref 34), some (.int (nI u)), some (.int (nI l)), some (.int (nI i)), j4, j5]) (st' := [.int (nI (5 * u) + nI i)]) (σ' := z1) (fun f => rfl) ?_
    refine pi_tp (y := nI (5 * u + i)) (nI_add _ _) ?_
    refine pi_go 4 (pc' := 41) (l' := [some (.ref 34), some (.int (nI u)), some (.int (nI l)), some (.int (nI i)), some (.int (nI (5 * u + i))), j5]) (st' := [.int (nI l * nI 5)]) (σ' := z1) (fun f => rfl) ?_
    refine pi_tp (y := nI (5 * l)) ((pk_mul _ _).trans (congrArg nI (Nat.mul_comm _ _))) ?_
    refine pi_go 2 (pc' := 43) (l' := [some (.ref 34), some (.int (nI u)), some (.int (nI l)), some (.int (nI i)), some (.int (nI (5 * u + i))), j5]) (st' := [.int (nI (5 * l) + nI i)]) (σ' := z1) (fun f => rfl) ?_
    refine pi_tp (y := nI (5 * l + i)) (nI_add _ _) ?_
    refine pi_ai 6 (u := 5 * l + i) (n := 40) (g := z1 35) (pc' := 53) (l' := [some (.ref 34), some (.int (nI u)), some (.int (nI l)), some (.int (nI i)), some (.int (nI (5 * u + i))), some (.int (nI (5 * l + i)))]) (t := [.int (nI (5 * l + i)), .ref 35]) (σ' := z1) (fun f => rfl) (by omega) (by omega) ?_
    refine pi_tp (y := ((pi_lp (z_g1 u l) i (σ 35, σ 36)).1) (5 * l + i)) (congrFun (fz1_35) (5 * l + i)) ?_
    refine pi_ai 4 (u := 5 * u + i) (n := 40) (g := z1 35) (pc' := 60) (l' := [some (.ref 34), some (.int (nI u)), some (.int (nI l)), some (.int (nI i)), some (.int (nI (5 * u + i))), some (.int (nI (5 * l + i)))]) (t := [.int (((pi_lp (z_g1 u l) i (σ 35, σ 36)).1) (5 * l + i)), .int (nI (5 * l + i)), .ref 35]) (σ' := z1) (fun f => rfl) (by omega) (by omega) ?_
    refine pi_tp (y := ((pi_lp (z_g1 u l) i (σ 35, σ 36)).1) (5 * u + i)) (congrFun (fz1_35) (5 * u + i)) ?_
    refine pi_au 2 (u := 5 * l + i) (n := 40) (a := 35) (x := (((pi_lp (z_g1 u l) i (σ 35, σ 36)).1) (5 * l + i)) + (((pi_lp (z_g1 u l) i (σ 35, σ 36)).1) (5 * u + i))) (pc' := 62) (l' := [some (.ref 34), some (.int (nI u)), some (.int (nI l)), some (.int (nI i)), some (.int (nI (5 * u + i))), some (.int (nI (5 * l + i)))]) (t := []) (σ' := z1) (fun f => rfl) (by omega) (by omega) ?_
    generalize es2 : pi_up z1 35 (5 * l + i) ((((pi_lp (z_g1 u l) i (σ 35, σ 36)).1) (5 * l + i)) + (((pi_lp (z_g1 u l) i (σ 35, σ 36)).1) (5 * u + i))) = s2
    refine pi_ai 5 (u := 5 * l + i) (n := 40) (g := s2 36) (pc' := 70) (l' := [some (.ref 34), some (.int (nI u)), some (.int (nI l)), some (.int (nI i)), some (.int (nI (5 * u + i))), some (.int (nI (5 * l + i)))]) (t := [.int (nI (5 * l + i)), .ref 36]) (σ' := s2) (fun f => rfl) (by omega) (by omega) ?_
    refine pi_tp (y := ((pi_lp (z_g1 u l) i (σ 35, σ 36)).2) (5 * l + i)) ((congrFun ((congrFun es2 36).symm.trans (pi_up_ne _ _ _ (by decide))) (5 * l + i)).trans (congrFun (fz1_36) (5 * l + i))) ?_
    refine pi_ai 4 (u := 5 * u + i) (n := 40) (g := s2 36) (pc' := 77) (l' := [some (.ref 34), some (.int (nI u)), some (.int (nI l)), some (.int (nI i)), some (.int (nI (5 * u + i))), some (.int (nI (5 * l + i)))]) (t := [.int (((pi_lp (z_g1 u l) i (σ 35, σ 36)).2) (5 * l + i)), .int (nI (5 * l + i)), .ref 36]) (σ' := s2) (fun f => rfl) (by omega) (by omega) ?_
    refine pi_tp (y := ((pi_lp (z_g1 u l) i (σ 35, σ 36)).2) (5 * u + i)) ((congrFun ((congrFun es2 36).symm.trans (pi_up_ne _ _ _ (by decide))) (5 * u + i)).trans (congrFun (fz1_36) (5 * u + i))) ?_
    refine pi_au 2 (u := 5 * l + i) (n := 40) (a := 36) (x := (((pi_lp (z_g1 u l) i (σ 35, σ 36)).2) (5 * l + i)) ||| (((pi_lp (z_g1 u l) i (σ 35, σ 36)).2) (5 * u + i))) (pc' := 79) (l' := [some (.ref 34), some (.int (nI u)), some (.int (nI l)), some (.int (nI i)), some (.int (nI (5 * u + i))), some (.int (nI (5 * l + i)))]) (t := []) (σ' := s2) (fun f => rfl) (by omega) (by omega) ?_
    generalize es3 : pi_up s2 36 (5 * l + i) ((((pi_lp (z_g1 u l) i (σ 35, σ 36)).2) (5 * l + i)) ||| (((pi_lp (z_g1 u l) i (σ 35, σ 36)).2) (5 * u + i))) = s3
    refine pi_au 5 (u := 5 * u + i) (n := 40) (a := 35) (x := nI 0) (pc' := 87) (l' := [some (.ref 34), some (.int (nI u)), some (.int (nI l)), some (.int (nI i)), some (.int (nI (5 * u + i))), some (.int (nI (5 * l + i)))]) (t := []) (σ' := s3) (fun f => rfl) (by omega) (by omega) ?_
    generalize es4 : pi_up s3 35 (5 * u + i) (nI 0) = s4
    refine pi_au 5 (u := 5 * u + i) (n := 40) (a := 36) (x := nI 0) (pc' := 95) (l' := [some (.ref 34), some (.int (nI u)), some (.int (nI l)), some (.int (nI i)), some (.int (nI (5 * u + i))), some (.int (nI (5 * l + i)))]) (t := []) (σ' := s4) (fun f => rfl) (by omega) (by omega) ?_
    generalize es5 : pi_up s4 36 (5 * u + i) (nI 0) = s5
    refine pi_go 1 (pc' := 98) (l' := [some (.ref 34), some (.int (nI u)), some (.int (nI l)), some (.int (nI i + nI 1)), some (.int (nI (5 * u + i))), some (.int (nI (5 * l + i)))]) (st' := []) (σ' := s5) (fun f => rfl) ?_
    rw [show nI i + nI 1 = nI (i + 1) from nI_add _ 1]
    refine pi_go 1 (pc' := 26) (l' := [some (.ref 34), some (.int (nI u)), some (.int (nI l)), some (.int (nI (i + 1))), some (.int (nI (5 * u + i))), some (.int (nI (5 * l + i)))]) (st' := []) (σ' := s5) (fun f => rfl) ?_
    exact ih1 _ _ _ ((congrFun es5 35).symm.trans ((pi_up_ne _ _ _ (by decide)).trans ((congrFun es4 35).symm.trans ((pi_up_self _ _ _ _).trans (congrArg (fun z => upd z (5 * u + i) (nI 0)) ((congrFun es3 35).symm.trans ((pi_up_ne _ _ _ (by decide)).trans ((congrFun es2 35).symm.trans ((pi_up_self _ _ _ _).trans (congrArg (fun z => upd z (5 * l + i) ((((pi_lp (z_g1 u l) i (σ 35, σ 36)).1) (5 * l + i)) + (((pi_lp (z_g1 u l) i (σ 35, σ 36)).1) (5 * u + i)))) (fz1_35))))))))))) ((congrFun es5 36).symm.trans ((pi_up_self _ _ _ _).trans (congrArg (fun z => upd z (5 * u + i) (nI 0)) ((congrFun es4 36).symm.trans ((pi_up_ne _ _ _ (by decide)).trans ((congrFun es3 36).symm.trans ((pi_up_self _ _ _ _).trans (congrArg (fun z => upd z (5 * l + i) ((((pi_lp (z_g1 u l) i (σ 35, σ 36)).2) (5 * l + i)) ||| (((pi_lp (z_g1 u l) i (σ 35, σ 36)).2) (5 * u + i)))) ((congrFun es2 36).symm.trans ((pi_up_ne _ _ _ (by decide)).trans (fz1_36))))))))))) (pi_fr_of es5 (by decide) (pi_fr_of es4 (by decide) (pi_fr_of es3 (by decide) (pi_fr_of es2 (by decide) (pi_fr_tr hrz1 (by decide) (pi_fr_rf))))))
set_option maxRecDepth 20000 in
theorem pi_C_barrowsAt_c {xs : Nat → Int32} {L d : Nat} {σ : pi_S} {dr kd : Nat} (hd : dr < 8) (hkd : kd < 5)  : pi_wp xs L (d + 1) 22 0 [some (.ref 34), some (.int (nI dr)), some (.int (nI kd))] [] σ (fun v s => v = some (.int (σ 35 (5 * dr + kd))) ∧ σ = s) := by
  refine pi_ca 3 (m' := 94) (l' := [some (.int (nI dr)), some (.int (nI 8))]) (σ' := σ) (pc2 := 6) (l2 := [some (.ref 34), some (.int (nI dr)), some (.int (nI kd))]) (t := []) (fun f => rfl) (pi_below1 _ _ (z_BL (by omega) (by omega))) ?_
  rintro _ _ ⟨rfl, rfl⟩
  refine pi_cf 1 (c := nI 1 = 0) (pc' := 9) (l' := [some (.ref 34), some (.int (nI dr)), some (.int (nI kd))]) (st' := []) (σ' := σ) (pc2 := 30) (l2 := [some (.ref 34), some (.int (nI dr)), some (.int (nI kd))]) (st2 := []) (σ2 := σ) (fun f => rfl) (by decide) ?_
  refine pi_ca 3 (m' := 94) (l' := [some (.int (nI kd)), some (.int (nI 5))]) (σ' := σ) (pc2 := 14) (l2 := [some (.ref 34), some (.int (nI dr)), some (.int (nI kd))]) (t := []) (fun f => rfl) (pi_below1 _ _ (z_BL (by omega) (by omega))) ?_
  rintro _ _ ⟨rfl, rfl⟩
  refine pi_cf 1 (c := nI 1 = 0) (pc' := 17) (l' := [some (.ref 34), some (.int (nI dr)), some (.int (nI kd))]) (st' := []) (σ' := σ) (pc2 := 30) (l2 := [some (.ref 34), some (.int (nI dr)), some (.int (nI kd))]) (st2 := []) (σ2 := σ) (fun f => rfl) (by decide) ?_
  refine pi_go 5 (pc' := 24) (l' := [some (.ref 34), some (.int (nI dr)), some (.int (nI kd))]) (st' := [.int (nI dr * nI 5), .ref 35]) (σ' := σ) (fun f => rfl) ?_
  refine pi_tp (y := nI (5 * dr)) ((pk_mul _ _).trans (congrArg nI (Nat.mul_comm _ _))) ?_
  refine pi_go 2 (pc' := 26) (l' := [some (.ref 34), some (.int (nI dr)), some (.int (nI kd))]) (st' := [.int (nI (5 * dr) + nI kd), .ref 35]) (σ' := σ) (fun f => rfl) ?_
  refine pi_tp (y := nI (5 * dr + kd)) (nI_add _ _) ?_
  refine pi_ai 1 (u := 5 * dr + kd) (n := 40) (g := σ 35) (pc' := 27) (l' := [some (.ref 34), some (.int (nI dr)), some (.int (nI kd))]) (t := []) (σ' := σ) (fun f => rfl) (by omega) (by omega) ?_
  refine pi_rt 2 (v := some (.int (σ 35 (5 * dr + kd)))) (σ' := σ) (fun f => rfl) ?_
  exact ⟨rfl, rfl⟩
set_option maxRecDepth 20000 in
theorem pi_C_yardsAt_c {xs : Nat → Int32} {L d : Nat} {σ : pi_S} {dr kd : Nat} (hd : dr < 8) (hkd : kd < 5)  : pi_wp xs L (d + 1) 24 0 [some (.ref 34), some (.int (nI dr)), some (.int (nI kd))] [] σ (fun v s => v = some (.int (σ 36 (5 * dr + kd))) ∧ σ = s) := by
  refine pi_ca 3 (m' := 94) (l' := [some (.int (nI dr)), some (.int (nI 8))]) (σ' := σ) (pc2 := 6) (l2 := [some (.ref 34), some (.int (nI dr)), some (.int (nI kd))]) (t := []) (fun f => rfl) (pi_below1 _ _ (z_BL (by omega) (by omega))) ?_
  rintro _ _ ⟨rfl, rfl⟩
  refine pi_cf 1 (c := nI 1 = 0) (pc' := 9) (l' := [some (.ref 34), some (.int (nI dr)), some (.int (nI kd))]) (st' := []) (σ' := σ) (pc2 := 30) (l2 := [some (.ref 34), some (.int (nI dr)), some (.int (nI kd))]) (st2 := []) (σ2 := σ) (fun f => rfl) (by decide) ?_
  refine pi_ca 3 (m' := 94) (l' := [some (.int (nI kd)), some (.int (nI 5))]) (σ' := σ) (pc2 := 14) (l2 := [some (.ref 34), some (.int (nI dr)), some (.int (nI kd))]) (t := []) (fun f => rfl) (pi_below1 _ _ (z_BL (by omega) (by omega))) ?_
  rintro _ _ ⟨rfl, rfl⟩
  refine pi_cf 1 (c := nI 1 = 0) (pc' := 17) (l' := [some (.ref 34), some (.int (nI dr)), some (.int (nI kd))]) (st' := []) (σ' := σ) (pc2 := 30) (l2 := [some (.ref 34), some (.int (nI dr)), some (.int (nI kd))]) (st2 := []) (σ2 := σ) (fun f => rfl) (by decide) ?_
  refine pi_go 5 (pc' := 24) (l' := [some (.ref 34), some (.int (nI dr)), some (.int (nI kd))]) (st' := [.int (nI dr * nI 5), .ref 36]) (σ' := σ) (fun f => rfl) ?_
  refine pi_tp (y := nI (5 * dr)) ((pk_mul _ _).trans (congrArg nI (Nat.mul_comm _ _))) ?_
  refine pi_go 2 (pc' := 26) (l' := [some (.ref 34), some (.int (nI dr)), some (.int (nI kd))]) (st' := [.int (nI (5 * dr) + nI kd), .ref 36]) (σ' := σ) (fun f => rfl) ?_
  refine pi_tp (y := nI (5 * dr + kd)) (nI_add _ _) ?_
  refine pi_ai 1 (u := 5 * dr + kd) (n := 40) (g := σ 36) (pc' := 27) (l' := [some (.ref 34), some (.int (nI dr)), some (.int (nI kd))]) (t := []) (σ' := σ) (fun f => rfl) (by omega) (by omega) ?_
  refine pi_rt 2 (v := some (.int (σ 36 (5 * dr + kd)))) (σ' := σ) (fun f => rfl) ?_
  exact ⟨rfl, rfl⟩
set_option maxRecDepth 20000 in
theorem pi_C_all_c {xs : Nat → Int32} {L d : Nat} {σ : pi_S} {dr : Nat} (hd : dr < 8)  : pi_wp xs L (d + 1) 23 0 [some (.ref 34), some (.int (nI dr)), none, none] [] σ (fun v s => v = some (.int (z_all (σ 35) dr)) ∧ σ = s) := by
  refine pi_go 4 (pc' := 4) (l' := [some (.ref 34), some (.int (nI dr)), some (.int (nI 0)), some (.int (nI 0))]) (st' := []) (σ' := σ) (fun f => rfl) ?_
  suffices hl1 : ∀ i, i ≤ 5 → pi_wp xs L (d + 1) 23 4 [some (.ref 34), some (.int (nI dr)), some (.int (pi_lp (fun k a => a + σ 35 (5 * dr + k)) i (nI 0))), some (.int (nI i))] [] σ (fun v s => v = some (.int (z_all (σ 35) dr)) ∧ σ = s) from hl1 0 (by omega) 
  refine pi_lp0 ?_ ?_
  · refine pi_ct 3 (c := nI 5 ≤ nI 5) (pc' := 37) (l' := [some (.ref 34), some (.int (nI dr)), some (.int (pi_lp (fun k a => a + σ 35 (5 * dr + k)) 5 (nI 0))), some (.int (nI 5))]) (st' := []) (σ' := σ) (pc2 := 9) (l2 := [some (.ref 34), some (.int (nI dr)), some (.int (pi_lp (fun k a => a + σ 35 (5 * dr + k)) 5 (nI 0))), some (.int (nI 5))]) (st2 := []) (σ2 := σ) (fun f => rfl) (by decide) ?_
    refine pi_rt 2 (v := some (.int (pi_lp (fun k a => a + σ 35 (5 * dr + k)) 5 (nI 0)))) (σ' := σ) (fun f => rfl) ?_
    exact ⟨rfl, rfl⟩
  · intro i hi1 ih1
    refine pi_cf 3 (c := nI 5 ≤ nI i) (pc' := 9) (l' := [some (.ref 34), some (.int (nI dr)), some (.int (pi_lp (fun k a => a + σ 35 (5 * dr + k)) i (nI 0))), some (.int (nI i))]) (st' := []) (σ' := σ) (pc2 := 37) (l2 := [some (.ref 34), some (.int (nI dr)), some (.int (pi_lp (fun k a => a + σ 35 (5 * dr + k)) i (nI 0))), some (.int (nI i))]) (st2 := []) (σ2 := σ) (fun f => rfl) (fun zq => absurd ((show nI 5 ≤ nI i ↔ _ from nI_leI (by omega) (by omega)).mp zq) (by omega)) ?_
    refine pi_ca 3 (m' := 94) (l' := [some (.int (nI dr)), some (.int (nI 8))]) (σ' := σ) (pc2 := 15) (l2 := [some (.ref 34), some (.int (nI dr)), some (.int (pi_lp (fun k a => a + σ 35 (5 * dr + k)) i (nI 0))), some (.int (nI i))]) (t := []) (fun f => rfl) (pi_below1 _ _ (z_BL (by omega) (by omega))) ?_
    rintro _ _ ⟨rfl, rfl⟩
    refine pi_cf 1 (c := nI 1 = 0) (pc' := 18) (l' := [some (.ref 34), some (.int (nI dr)), some (.int (pi_lp (fun k a => a + σ 35 (5 * dr + k)) i (nI 0))), some (.int (nI i))]) (st' := []) (σ' := σ) (pc2 := 37) (l2 := [some (.ref 34), some (.int (nI dr)), some (.int (pi_lp (fun k a => a + σ 35 (5 * dr + k)) i (nI 0))), some (.int (nI i))]) (st2 := []) (σ2 := σ) (fun f => rfl) (by decide) ?_
    refine pi_go 6 (pc' := 26) (l' := [some (.ref 34), some (.int (nI dr)), some (.int (pi_lp (fun k a => a + σ 35 (5 * dr + k)) i (nI 0))), some (.int (nI i))]) (st' := [.int (nI dr * nI 5), .ref 35, .int (pi_lp (fun k a => a + σ 35 (5 * dr + k)) i (nI 0))]) (σ' := σ) (fun f => rfl) ?_
    refine pi_tp (y := nI (5 * dr)) ((pk_mul _ _).trans (congrArg nI (Nat.mul_comm _ _))) ?_
    refine pi_go 2 (pc' := 28) (l' := [some (.ref 34), some (.int (nI dr)), some (.int (pi_lp (fun k a => a + σ 35 (5 * dr + k)) i (nI 0))), some (.int (nI i))]) (st' := [.int (nI (5 * dr) + nI i), .ref 35, .int (pi_lp (fun k a => a + σ 35 (5 * dr + k)) i (nI 0))]) (σ' := σ) (fun f => rfl) ?_
    refine pi_tp (y := nI (5 * dr + i)) (nI_add _ _) ?_
    refine pi_ai 1 (u := 5 * dr + i) (n := 40) (g := σ 35) (pc' := 29) (l' := [some (.ref 34), some (.int (nI dr)), some (.int (pi_lp (fun k a => a + σ 35 (5 * dr + k)) i (nI 0))), some (.int (nI i))]) (t := [.int (pi_lp (fun k a => a + σ 35 (5 * dr + k)) i (nI 0))]) (σ' := σ) (fun f => rfl) (by omega) (by omega) ?_
    refine pi_go 3 (pc' := 34) (l' := [some (.ref 34), some (.int (nI dr)), some (.int ((pi_lp (fun k a => a + σ 35 (5 * dr + k)) i (nI 0)) + (σ 35 (5 * dr + i)))), some (.int (nI i + nI 1))]) (st' := []) (σ' := σ) (fun f => rfl) ?_
    rw [show nI i + nI 1 = nI (i + 1) from nI_add _ 1]
    refine pi_go 1 (pc' := 4) (l' := [some (.ref 34), some (.int (nI dr)), some (.int ((pi_lp (fun k a => a + σ 35 (5 * dr + k)) i (nI 0)) + (σ 35 (5 * dr + i)))), some (.int (nI (i + 1)))]) (st' := []) (σ' := σ) (fun f => rfl) ?_
    exact ih1 
set_option maxRecDepth 20000 in
theorem pi_C_clear_t {xs : Nat → Int32} {L d : Nat} {σ : pi_S}  : pi_wp xs L d 18 0 [some (.ref 38), none] [] σ (fun v s => v = none ∧ s 39 = z_clr (σ 39) 40 ∧ s 40 = z_clr (σ 40) 40 ∧ pi_fr [39, 40] s σ) := by
  refine pi_go 2 (pc' := 2) (l' := [some (.ref 38), some (.int (nI 0))]) (st' := []) (σ' := σ) (fun f => rfl) ?_
  suffices hl1 : ∀ i, i ≤ 40 → ∀ (z1 : pi_S), z1 39 = z_clr (σ 39) i → z1 40 = z_clr (σ 40) i → pi_fr [39, 40] z1 σ → pi_wp xs L d 18 2 [some (.ref 38), some (.int (nI i))] [] z1 (fun v s => v = none ∧ s 39 = z_clr (σ 39) 40 ∧ s 40 = z_clr (σ 40) 40 ∧ pi_fr [39, 40] s σ) from hl1 0 (by omega) _ (rfl) (rfl) (pi_fr_rf)
  refine pi_lp0 ?_ ?_
  · intro z1 fz1_39 fz1_40 hrz1
    refine pi_ct 5 (c := nI 40 ≤ nI 40) (pc' := 40) (l' := [some (.ref 38), some (.int (nI 40))]) (st' := []) (σ' := z1) (pc2 := 11) (l2 := [some (.ref 38), some (.int (nI 40))]) (st2 := []) (σ2 := z1) (fun f => rfl) (by decide) ?_
    refine pi_rt 1 (v := none) (σ' := z1) (fun f => rfl) ?_
    exact ⟨rfl, fz1_39, fz1_40, pi_fr_tr hrz1 (by decide) (pi_fr_rf)⟩
  · intro i hi1 ih1 z1 fz1_39 fz1_40 hrz1
    refine pi_cf 5 (c := nI 40 ≤ nI i) (pc' := 11) (l' := [some (.ref 38), some (.int (nI i))]) (st' := []) (σ' := z1) (pc2 := 40) (l2 := [some (.ref 38), some (.int (nI i))]) (st2 := []) (σ2 := z1) (fun f => rfl) (fun zq => absurd ((show nI 40 ≤ nI i ↔ _ from nI_leI (by omega) (by omega)).mp zq) (by omega)) ?_
    refine pi_cf 5 (c := nI 40 ≤ nI i) (pc' := 20) (l' := [some (.ref 38), some (.int (nI i))]) (st' := []) (σ' := z1) (pc2 := 40) (l2 := [some (.ref 38), some (.int (nI i))]) (st2 := []) (σ2 := z1) (fun f => rfl) (fun zq => absurd ((show nI 40 ≤ nI i ↔ _ from nI_leI (by omega) (by omega)).mp zq) (by omega)) ?_
    refine pi_au 5 (u := i) (n := 40) (a := 39) (x := nI 0) (pc' := 27) (l' := [some (.ref 38), some (.int (nI i))]) (t := []) (σ' := z1) (fun f => rfl) (by omega) (by omega) ?_
    generalize es2 : pi_up z1 39 i (nI 0) = s2
    refine pi_au 5 (u := i) (n := 40) (a := 40) (x := nI 0) (pc' := 34) (l' := [some (.ref 38), some (.int (nI i))]) (t := []) (σ' := s2) (fun f => rfl) (by omega) (by omega) ?_
    generalize es3 : pi_up s2 40 i (nI 0) = s3
    refine pi_go 1 (pc' := 37) (l' := [some (.ref 38), some (.int (nI i + nI 1))]) (st' := []) (σ' := s3) (fun f => rfl) ?_
    rw [show nI i + nI 1 = nI (i + 1) from nI_add _ 1]
    refine pi_go 1 (pc' := 2) (l' := [some (.ref 38), some (.int (nI (i + 1)))]) (st' := []) (σ' := s3) (fun f => rfl) ?_
    exact ih1 _ ((congrFun es3 39).symm.trans ((pi_up_ne _ _ _ (by decide)).trans ((congrFun es2 39).symm.trans ((pi_up_self _ _ _ _).trans (congrArg (fun z => upd z i (nI 0)) (fz1_39)))))) ((congrFun es3 40).symm.trans ((pi_up_self _ _ _ _).trans (congrArg (fun z => upd z i (nI 0)) ((congrFun es2 40).symm.trans ((pi_up_ne _ _ _ (by decide)).trans (fz1_40)))))) (pi_fr_of es3 (by decide) (pi_fr_of es2 (by decide) (pi_fr_tr hrz1 (by decide) (pi_fr_rf))))
set_option maxRecDepth 20000 in
theorem pi_C_clearDoor_t {xs : Nat → Int32} {L d : Nat} {σ : pi_S} {dr : Nat} (hd : dr < 8)  : pi_wp xs L (d + 1) 19 0 [some (.ref 38), some (.int (nI dr)), none] [] σ (fun v s => v = none ∧ s 39 = (z_tk dr (σ 39, σ 40)).1 ∧ s 40 = (z_tk dr (σ 39, σ 40)).2 ∧ pi_fr [39, 40] s σ) := by
  refine pi_go 2 (pc' := 2) (l' := [some (.ref 38), some (.int (nI dr)), some (.int (nI 0))]) (st' := []) (σ' := σ) (fun f => rfl) ?_
  suffices hl1 : ∀ i, i ≤ 5 → ∀ (z1 : pi_S), z1 39 = (pi_lp (z_tk1 dr) i (σ 39, σ 40)).1 → z1 40 = (pi_lp (z_tk1 dr) i (σ 39, σ 40)).2 → pi_fr [39, 40] z1 σ → pi_wp xs L (d + 1) 19 2 [some (.ref 38), some (.int (nI dr)), some (.int (nI i))] [] z1 (fun v s => v = none ∧ s 39 = (z_tk dr (σ 39, σ 40)).1 ∧ s 40 = (z_tk dr (σ 39, σ 40)).2 ∧ pi_fr [39, 40] s σ) from hl1 0 (by omega) _ (rfl) (rfl) (pi_fr_rf)
  refine pi_lp0 ?_ ?_
  · intro z1 fz1_39 fz1_40 hrz1
    refine pi_ct 3 (c := nI 5 ≤ nI 5) (pc' := 44) (l' := [some (.ref 38), some (.int (nI dr)), some (.int (nI 5))]) (st' := []) (σ' := z1) (pc2 := 7) (l2 := [some (.ref 38), some (.int (nI dr)), some (.int (nI 5))]) (st2 := []) (σ2 := z1) (fun f => rfl) (by decide) ?_
    refine pi_rt 1 (v := none) (σ' := z1) (fun f => rfl) ?_
    exact ⟨rfl, fz1_39, fz1_40, pi_fr_tr hrz1 (by decide) (pi_fr_rf)⟩
  · intro i hi1 ih1 z1 fz1_39 fz1_40 hrz1
    refine pi_cf 3 (c := nI 5 ≤ nI i) (pc' := 7) (l' := [some (.ref 38), some (.int (nI dr)), some (.int (nI i))]) (st' := []) (σ' := z1) (pc2 := 44) (l2 := [some (.ref 38), some (.int (nI dr)), some (.int (nI i))]) (st2 := []) (σ2 := z1) (fun f => rfl) (fun zq => absurd ((show nI 5 ≤ nI i ↔ _ from nI_leI (by omega) (by omega)).mp zq) (by omega)) ?_
    refine pi_ca 3 (m' := 94) (l' := [some (.int (nI dr)), some (.int (nI 8))]) (σ' := z1) (pc2 := 13) (l2 := [some (.ref 38), some (.int (nI dr)), some (.int (nI i))]) (t := []) (fun f => rfl) (pi_below1 _ _ (z_BL (by omega) (by omega))) ?_
    rintro _ _ ⟨rfl, rfl⟩
    refine pi_cf 1 (c := nI 1 = 0) (pc' := 16) (l' := [some (.ref 38), some (.int (nI dr)), some (.int (nI i))]) (st' := []) (σ' := z1) (pc2 := 44) (l2 := [some (.ref 38), some (.int (nI dr)), some (.int (nI i))]) (st2 := []) (σ2 := z1) (fun f => rfl) (by decide) ?_
    refine pi_go 5 (pc' := 23) (l' := [some (.ref 38), some (.int (nI dr)), some (.int (nI i))]) (st' := [.int (nI dr * nI 5), .ref 39]) (σ' := z1) (fun f => rfl) ?_
    refine pi_tp (y := nI (5 * dr)) ((pk_mul _ _).trans (congrArg nI (Nat.mul_comm _ _))) ?_
    refine pi_go 2 (pc' := 25) (l' := [some (.ref 38), some (.int (nI dr)), some (.int (nI i))]) (st' := [.int (nI (5 * dr) + nI i), .ref 39]) (σ' := z1) (fun f => rfl) ?_
    refine pi_tp (y := nI (5 * dr + i)) (nI_add _ _) ?_
    refine pi_au 2 (u := 5 * dr + i) (n := 40) (a := 39) (x := nI 0) (pc' := 27) (l' := [some (.ref 38), some (.int (nI dr)), some (.int (nI i))]) (t := []) (σ' := z1) (fun f => rfl) (by omega) (by omega) ?_
    generalize es2 : pi_up z1 39 (5 * dr + i) (nI 0) = s2
    refine pi_go 5 (pc' := 34) (l' := [some (.ref 38), some (.int (nI dr)), some (.int (nI i))]) (st' := [.int (nI dr * nI 5), .ref 40]) (σ' := s2) (fun f => rfl) ?_
    refine pi_tp (y := nI (5 * dr)) ((pk_mul _ _).trans (congrArg nI (Nat.mul_comm _ _))) ?_
    refine pi_go 2 (pc' := 36) (l' := [some (.ref 38), some (.int (nI dr)), some (.int (nI i))]) (st' := [.int (nI (5 * dr) + nI i), .ref 40]) (σ' := s2) (fun f => rfl) ?_
    refine pi_tp (y := nI (5 * dr + i)) (nI_add _ _) ?_
    refine pi_au 2 (u := 5 * dr + i) (n := 40) (a := 40) (x := nI 0) (pc' := 38) (l' := [some (.ref 38), some (.int (nI dr)), some (.int (nI i))]) (t := []) (σ' := s2) (fun f => rfl) (by omega) (by omega) ?_
    generalize es3 : pi_up s2 40 (5 * dr + i) (nI 0) = s3
    refine pi_go 1 (pc' := 41) (l' := [some (.ref 38), some (.int (nI dr)), some (.int (nI i + nI 1))]) (st' := []) (σ' := s3) (fun f => rfl) ?_
    rw [show nI i + nI 1 = nI (i + 1) from nI_add _ 1]
    refine pi_go 1 (pc' := 2) (l' := [some (.ref 38), some (.int (nI dr)), some (.int (nI (i + 1)))]) (st' := []) (σ' := s3) (fun f => rfl) ?_
    exact ih1 _ ((congrFun es3 39).symm.trans ((pi_up_ne _ _ _ (by decide)).trans ((congrFun es2 39).symm.trans ((pi_up_self _ _ _ _).trans (congrArg (fun z => upd z (5 * dr + i) (nI 0)) (fz1_39)))))) ((congrFun es3 40).symm.trans ((pi_up_self _ _ _ _).trans (congrArg (fun z => upd z (5 * dr + i) (nI 0)) ((congrFun es2 40).symm.trans ((pi_up_ne _ _ _ (by decide)).trans (fz1_40)))))) (pi_fr_of es3 (by decide) (pi_fr_of es2 (by decide) (pi_fr_tr hrz1 (by decide) (pi_fr_rf))))
set_option maxRecDepth 20000 in
theorem pi_C_drop_t {xs : Nat → Int32} {L d : Nat} {σ : pi_S} {dr kd : Nat} {x : Int32} (hd : dr < 8) (hkd : kd < 5)  : pi_wp xs L (d + 1) 20 0 [some (.ref 38), some (.int (nI dr)), some (.int (nI kd)), some (.int x)] [] σ (fun v s => v = none ∧ s 39 = (z_fl (5 * dr + kd) dr x (σ 39, σ 40)).1 ∧ s 40 = (z_fl (5 * dr + kd) dr x (σ 39, σ 40)).2 ∧ pi_fr [39, 40] s σ) := by
  refine pi_ca 3 (m' := 94) (l' := [some (.int (nI dr)), some (.int (nI 8))]) (σ' := σ) (pc2 := 6) (l2 := [some (.ref 38), some (.int (nI dr)), some (.int (nI kd)), some (.int x)]) (t := []) (fun f => rfl) (pi_below1 _ _ (z_BL (by omega) (by omega))) ?_
  rintro _ _ ⟨rfl, rfl⟩
  refine pi_cf 1 (c := nI 1 = 0) (pc' := 9) (l' := [some (.ref 38), some (.int (nI dr)), some (.int (nI kd)), some (.int x)]) (st' := []) (σ' := σ) (pc2 := 17) (l2 := [some (.ref 38), some (.int (nI dr)), some (.int (nI kd)), some (.int x)]) (st2 := []) (σ2 := σ) (fun f => rfl) (by decide) ?_
  refine pi_ca 3 (m' := 94) (l' := [some (.int (nI kd)), some (.int (nI 5))]) (σ' := σ) (pc2 := 14) (l2 := [some (.ref 38), some (.int (nI dr)), some (.int (nI kd)), some (.int x)]) (t := []) (fun f => rfl) (pi_below1 _ _ (z_BL (by omega) (by omega))) ?_
  rintro _ _ ⟨rfl, rfl⟩
  refine pi_cf 1 (c := nI 1 = 0) (pc' := 18) (l' := [some (.ref 38), some (.int (nI dr)), some (.int (nI kd)), some (.int x)]) (st' := []) (σ' := σ) (pc2 := 17) (l2 := [some (.ref 38), some (.int (nI dr)), some (.int (nI kd)), some (.int x)]) (st2 := []) (σ2 := σ) (fun f => rfl) (by decide) ?_
  refine pi_go 5 (pc' := 25) (l' := [some (.ref 38), some (.int (nI dr)), some (.int (nI kd)), some (.int x)]) (st' := [.int (nI dr * nI 5), .ref 39]) (σ' := σ) (fun f => rfl) ?_
  refine pi_tp (y := nI (5 * dr)) ((pk_mul _ _).trans (congrArg nI (Nat.mul_comm _ _))) ?_
  refine pi_go 2 (pc' := 27) (l' := [some (.ref 38), some (.int (nI dr)), some (.int (nI kd)), some (.int x)]) (st' := [.int (nI (5 * dr) + nI kd), .ref 39]) (σ' := σ) (fun f => rfl) ?_
  refine pi_tp (y := nI (5 * dr + kd)) (nI_add _ _) ?_
  refine pi_ai 2 (u := 5 * dr + kd) (n := 40) (g := σ 39) (pc' := 29) (l' := [some (.ref 38), some (.int (nI dr)), some (.int (nI kd)), some (.int x)]) (t := [.int (nI (5 * dr + kd)), .ref 39]) (σ' := σ) (fun f => rfl) (by omega) (by omega) ?_
  refine pi_au 3 (u := 5 * dr + kd) (n := 40) (a := 39) (x := (σ 39 (5 * dr + kd)) + x) (pc' := 32) (l' := [some (.ref 38), some (.int (nI dr)), some (.int (nI kd)), some (.int x)]) (t := []) (σ' := σ) (fun f => rfl) (by omega) (by omega) ?_
  generalize es1 : pi_up σ 39 (5 * dr + kd) ((σ 39 (5 * dr + kd)) + x) = s1
  refine pi_go 5 (pc' := 39) (l' := [some (.ref 38), some (.int (nI dr)), some (.int (nI kd)), some (.int x)]) (st' := [.int (nI dr * nI 5), .ref 40]) (σ' := s1) (fun f => rfl) ?_
  refine pi_tp (y := nI (5 * dr)) ((pk_mul _ _).trans (congrArg nI (Nat.mul_comm _ _))) ?_
  refine pi_go 2 (pc' := 41) (l' := [some (.ref 38), some (.int (nI dr)), some (.int (nI kd)), some (.int x)]) (st' := [.int (nI (5 * dr) + nI kd), .ref 40]) (σ' := s1) (fun f => rfl) ?_
  refine pi_tp (y := nI (5 * dr + kd)) (nI_add _ _) ?_
  refine pi_ai 2 (u := 5 * dr + kd) (n := 40) (g := s1 40) (pc' := 43) (l' := [some (.ref 38), some (.int (nI dr)), some (.int (nI kd)), some (.int x)]) (t := [.int (nI (5 * dr + kd)), .ref 40]) (σ' := s1) (fun f => rfl) (by omega) (by omega) ?_
  refine pi_tp (y := σ 40 (5 * dr + kd)) ((congrFun ((congrFun es1 40).symm.trans (pi_up_ne _ _ _ (by decide))) (5 * dr + kd))) ?_
  refine pi_au 5 (u := 5 * dr + kd) (n := 40) (a := 40) (x := (σ 40 (5 * dr + kd)) ||| ((nI 1) <<< (nI dr &&& 31))) (pc' := 48) (l' := [some (.ref 38), some (.int (nI dr)), some (.int (nI kd)), some (.int x)]) (t := []) (σ' := s1) (fun f => rfl) (by omega) (by omega) ?_
  generalize es2 : pi_up s1 40 (5 * dr + kd) ((σ 40 (5 * dr + kd)) ||| ((nI 1) <<< (nI dr &&& 31))) = s2
  refine pi_rt 1 (v := none) (σ' := s2) (fun f => rfl) ?_
  exact ⟨rfl, (congrFun es2 39).symm.trans ((pi_up_ne _ _ _ (by decide)).trans ((congrFun es1 39).symm.trans ((pi_up_self _ _ _ _)))), (congrFun es2 40).symm.trans ((pi_up_self _ _ _ _).trans (congrArg (fun z => upd z (5 * dr + kd) ((σ 40 (5 * dr + kd)) ||| ((nI 1) <<< (nI dr &&& 31)))) ((congrFun es1 40).symm.trans ((pi_up_ne _ _ _ (by decide)))))), pi_fr_of es2 (by decide) (pi_fr_of es1 (by decide) (pi_fr_rf))⟩
set_option maxRecDepth 20000 in
theorem pi_C_slide_t {xs : Nat → Int32} {L d : Nat} {σ : pi_S} {u l : Nat} (hu : u < 8) (hl : l < 8) (hul : ¬ u = l)  : pi_wp xs L (d + 1) 21 0 [some (.ref 38), some (.int (nI u)), some (.int (nI l)), none, none, none] [] σ (fun v s => v = none ∧ s 39 = (z_gd u l (σ 39, σ 40)).1 ∧ s 40 = (z_gd u l (σ 39, σ 40)).2 ∧ pi_fr [39, 40] s σ) := by
  refine pi_ca 3 (m' := 94) (l' := [some (.int (nI u)), some (.int (nI 8))]) (σ' := σ) (pc2 := 6) (l2 := [some (.ref 38), some (.int (nI u)), some (.int (nI l)), none, none, none]) (t := []) (fun f => rfl) (pi_below1 _ _ (z_BL (by omega) (by omega))) ?_
  rintro _ _ ⟨rfl, rfl⟩
  refine pi_cf 1 (c := nI 1 = 0) (pc' := 9) (l' := [some (.ref 38), some (.int (nI u)), some (.int (nI l)), none, none, none]) (st' := []) (σ' := σ) (pc2 := 23) (l2 := [some (.ref 38), some (.int (nI u)), some (.int (nI l)), none, none, none]) (st2 := []) (σ2 := σ) (fun f => rfl) (by decide) ?_
  refine pi_ca 3 (m' := 94) (l' := [some (.int (nI l)), some (.int (nI 8))]) (σ' := σ) (pc2 := 15) (l2 := [some (.ref 38), some (.int (nI u)), some (.int (nI l)), none, none, none]) (t := []) (fun f => rfl) (pi_below1 _ _ (z_BL (by omega) (by omega))) ?_
  rintro _ _ ⟨rfl, rfl⟩
  refine pi_cf 1 (c := nI 1 = 0) (pc' := 18) (l' := [some (.ref 38), some (.int (nI u)), some (.int (nI l)), none, none, none]) (st' := []) (σ' := σ) (pc2 := 23) (l2 := [some (.ref 38), some (.int (nI u)), some (.int (nI l)), none, none, none]) (st2 := []) (σ2 := σ) (fun f => rfl) (by decide) ?_
  refine pi_cf 3 (c := nI u = nI l) (pc' := 24) (l' := [some (.ref 38), some (.int (nI u)), some (.int (nI l)), none, none, none]) (st' := []) (σ' := σ) (pc2 := 23) (l2 := [some (.ref 38), some (.int (nI u)), some (.int (nI l)), none, none, none]) (st2 := []) (σ2 := σ) (fun f => rfl) (fun q => hul ((nI_eq (by omega) (by omega)).mp q)) ?_
  refine pi_go 2 (pc' := 26) (l' := [some (.ref 38), some (.int (nI u)), some (.int (nI l)), some (.int (nI 0)), none, none]) (st' := []) (σ' := σ) (fun f => rfl) ?_
  suffices hl1 : ∀ i, i ≤ 5 → ∀ (j4 j5 : Option Value), ∀ (z1 : pi_S), z1 39 = (pi_lp (z_g1 u l) i (σ 39, σ 40)).1 → z1 40 = (pi_lp (z_g1 u l) i (σ 39, σ 40)).2 → pi_fr [39, 40] z1 σ → pi_wp xs L (d + 1) 21 26 [some (.ref 38), some (.int (nI u)), some (.int (nI l)), some (.int (nI i)), j4, j5] [] z1 (fun v s => v = none ∧ s 39 = (z_gd u l (σ 39, σ 40)).1 ∧ s 40 = (z_gd u l (σ 39, σ 40)).2 ∧ pi_fr [39, 40] s σ) from hl1 0 (by omega) _ _ _ (rfl) (rfl) (pi_fr_rf)
  refine pi_lp0 ?_ ?_
  · intro j4 j5 z1 fz1_39 fz1_40 hrz1
    refine pi_ct 3 (c := nI 5 ≤ nI 5) (pc' := 101) (l' := [some (.ref 38), some (.int (nI u)), some (.int (nI l)), some (.int (nI 5)), j4, j5]) (st' := []) (σ' := z1) (pc2 := 31) (l2 := [some (.ref 38), some (.int (nI u)), some (.int (nI l)), some (.int (nI 5)), j4, j5]) (st2 := []) (σ2 := z1) (fun f => rfl) (by decide) ?_
    refine pi_rt 1 (v := none) (σ' := z1) (fun f => rfl) ?_
    exact ⟨rfl, fz1_39, fz1_40, pi_fr_tr hrz1 (by decide) (pi_fr_rf)⟩
  · intro i hi1 ih1 j4 j5 z1 fz1_39 fz1_40 hrz1
    refine pi_cf 3 (c := nI 5 ≤ nI i) (pc' := 31) (l' := [some (.ref 38), some (.int (nI u)), some (.int (nI l)), some (.int (nI i)), j4, j5]) (st' := []) (σ' := z1) (pc2 := 101) (l2 := [some (.ref 38), some (.int (nI u)), some (.int (nI l)), some (.int (nI i)), j4, j5]) (st2 := []) (σ2 := z1) (fun f => rfl) (fun zq => absurd ((show nI 5 ≤ nI i ↔ _ from nI_leI (by omega) (by omega)).mp zq) (by omega)) ?_
    refine pi_go 3 (pc' := 34) (l' := [some (.ref 38), some (.int (nI u)), some (.int (nI l)), some (.int (nI i)), j4, j5]) (st' := [.int (nI u * nI 5)]) (σ' := z1) (fun f => rfl) ?_
    refine pi_tp (y := nI (5 * u)) ((pk_mul _ _).trans (congrArg nI (Nat.mul_comm _ _))) ?_
    refine pi_go 2 (pc' := 36) (l' := [some (.ref 38), some (.int (nI u)), some (.int (nI l)), some (.int (nI i)), j4, j5]) (st' := [.int (nI (5 * u) + nI i)]) (σ' := z1) (fun f => rfl) ?_
    refine pi_tp (y := nI (5 * u + i)) (nI_add _ _) ?_
    refine pi_go 4 (pc' := 41) (l' := [some (.ref 38), some (.int (nI u)), some (.int (nI l)), some (.int (nI i)), some (.int (nI (5 * u + i))), j5]) (st' := [.int (nI l * nI 5)]) (σ' := z1) (fun f => rfl) ?_
    refine pi_tp (y := nI (5 * l)) ((pk_mul _ _).trans (congrArg nI (Nat.mul_comm _ _))) ?_
    refine pi_go 2 (pc' := 43) (l' := [some (.ref 38), some (.int (nI u)), some (.int (nI l)), some (.int (nI i)), some (.int (nI (5 * u + i))), j5]) (st' := [.int (nI (5 * l) + nI i)]) (σ' := z1) (fun f => rfl) ?_
    refine pi_tp (y := nI (5 * l + i)) (nI_add _ _) ?_
    refine pi_ai 6 (u := 5 * l + i) (n := 40) (g := z1 39) (pc' := 53) (l' := [some (.ref 38), some (.int (nI u)), some (.int (nI l)), some (.int (nI i)), some (.int (nI (5 * u + i))), some (.int (nI (5 * l + i)))]) (t := [.int (nI (5 * l + i)), .ref 39]) (σ' := z1) (fun f => rfl) (by omega) (by omega) ?_
    refine pi_tp (y := ((pi_lp (z_g1 u l) i (σ 39, σ 40)).1) (5 * l + i)) (congrFun (fz1_39) (5 * l + i)) ?_
    refine pi_ai 4 (u := 5 * u + i) (n := 40) (g := z1 39) (pc' := 60) (l' := [some (.ref 38), some (.int (nI u)), some (.int (nI l)), some (.int (nI i)), some (.int (nI (5 * u + i))), some (.int (nI (5 * l + i)))]) (t := [.int (((pi_lp (z_g1 u l) i (σ 39, σ 40)).1) (5 * l + i)), .int (nI (5 * l + i)), .ref 39]) (σ' := z1) (fun f => rfl) (by omega) (by omega) ?_
    refine pi_tp (y := ((pi_lp (z_g1 u l) i (σ 39, σ 40)).1) (5 * u + i)) (congrFun (fz1_39) (5 * u + i)) ?_
    refine pi_au 2 (u := 5 * l + i) (n := 40) (a := 39) (x := (((pi_lp (z_g1 u l) i (σ 39, σ 40)).1) (5 * l + i)) + (((pi_lp (z_g1 u l) i (σ 39, σ 40)).1) (5 * u + i))) (pc' := 62) (l' := [some (.ref 38), some (.int (nI u)), some (.int (nI l)), some (.int (nI i)), some (.int (nI (5 * u + i))), some (.int (nI (5 * l + i)))]) (t := []) (σ' := z1) (fun f => rfl) (by omega) (by omega) ?_
    generalize es2 : pi_up z1 39 (5 * l + i) ((((pi_lp (z_g1 u l) i (σ 39, σ 40)).1) (5 * l + i)) + (((pi_lp (z_g1 u l) i (σ 39, σ 40)).1) (5 * u + i))) = s2
    refine pi_ai 5 (u := 5 * l + i) (n := 40) (g := s2 40) (pc' := 70) (l' := [some (.ref 38), some (.int (nI u)), some (.int (nI l)), some (.int (nI i)), some (.int (nI (5 * u + i))), some (.int (nI (5 * l + i)))]) (t := [.int (nI (5 * l + i)), .ref 40]) (σ' := s2) (fun f => rfl) (by omega) (by omega) ?_
    refine pi_tp (y := ((pi_lp (z_g1 u l) i (σ 39, σ 40)).2) (5 * l + i)) ((congrFun ((congrFun es2 40).symm.trans (pi_up_ne _ _ _ (by decide))) (5 * l + i)).trans (congrFun (fz1_40) (5 * l + i))) ?_
    refine pi_ai 4 (u := 5 * u + i) (n := 40) (g := s2 40) (pc' := 77) (l' := [some (.ref 38), some (.int (nI u)), some (.int (nI l)), some (.int (nI i)), some (.int (nI (5 * u + i))), some (.int (nI (5 * l + i)))]) (t := [.int (((pi_lp (z_g1 u l) i (σ 39, σ 40)).2) (5 * l + i)), .int (nI (5 * l + i)), .ref 40]) (σ' := s2) (fun f => rfl) (by omega) (by omega) ?_
    refine pi_tp (y := ((pi_lp (z_g1 u l) i (σ 39, σ 40)).2) (5 * u + i)) ((congrFun ((congrFun es2 40).symm.trans (pi_up_ne _ _ _ (by decide))) (5 * u + i)).trans (congrFun (fz1_40) (5 * u + i))) ?_
    refine pi_au 2 (u := 5 * l + i) (n := 40) (a := 40) (x := (((pi_lp (z_g1 u l) i (σ 39, σ 40)).2) (5 * l + i)) ||| (((pi_lp (z_g1 u l) i (σ 39, σ 40)).2) (5 * u + i))) (pc' := 79) (l' := [some (.ref 38), some (.int (nI u)), some (.int (nI l)), some (.int (nI i)), some (.int (nI (5 * u + i))), some (.int (nI (5 * l + i)))]) (t := []) (σ' := s2) (fun f => rfl) (by omega) (by omega) ?_
    generalize es3 : pi_up s2 40 (5 * l + i) ((((pi_lp (z_g1 u l) i (σ 39, σ 40)).2) (5 * l + i)) ||| (((pi_lp (z_g1 u l) i (σ 39, σ 40)).2) (5 * u + i))) = s3
    refine pi_au 5 (u := 5 * u + i) (n := 40) (a := 39) (x := nI 0) (pc' := 87) (l' := [some (.ref 38), some (.int (nI u)), some (.int (nI l)), some (.int (nI i)), some (.int (nI (5 * u + i))), some (.int (nI (5 * l + i)))]) (t := []) (σ' := s3) (fun f => rfl) (by omega) (by omega) ?_
    generalize es4 : pi_up s3 39 (5 * u + i) (nI 0) = s4
    refine pi_au 5 (u := 5 * u + i) (n := 40) (a := 40) (x := nI 0) (pc' := 95) (l' := [some (.ref 38), some (.int (nI u)), some (.int (nI l)), some (.int (nI i)), some (.int (nI (5 * u + i))), some (.int (nI (5 * l + i)))]) (t := []) (σ' := s4) (fun f => rfl) (by omega) (by omega) ?_
    generalize es5 : pi_up s4 40 (5 * u + i) (nI 0) = s5
    refine pi_go 1 (pc' := 98) (l' := [some (.ref 38), some (.int (nI u)), some (.int (nI l)), some (.int (nI i + nI 1)), some (.int (nI (5 * u + i))), some (.int (nI (5 * l + i)))]) (st' := []) (σ' := s5) (fun f => rfl) ?_
    rw [show nI i + nI 1 = nI (i + 1) from nI_add _ 1]
    refine pi_go 1 (pc' := 26) (l' := [some (.ref 38), some (.int (nI u)), some (.int (nI l)), some (.int (nI (i + 1))), some (.int (nI (5 * u + i))), some (.int (nI (5 * l + i)))]) (st' := []) (σ' := s5) (fun f => rfl) ?_
    exact ih1 _ _ _ ((congrFun es5 39).symm.trans ((pi_up_ne _ _ _ (by decide)).trans ((congrFun es4 39).symm.trans ((pi_up_self _ _ _ _).trans (congrArg (fun z => upd z (5 * u + i) (nI 0)) ((congrFun es3 39).symm.trans ((pi_up_ne _ _ _ (by decide)).trans ((congrFun es2 39).symm.trans ((pi_up_self _ _ _ _).trans (congrArg (fun z => upd z (5 * l + i) ((((pi_lp (z_g1 u l) i (σ 39, σ 40)).1) (5 * l + i)) + (((pi_lp (z_g1 u l) i (σ 39, σ 40)).1) (5 * u + i)))) (fz1_39))))))))))) ((congrFun es5 40).symm.trans ((pi_up_self _ _ _ _).trans (congrArg (fun z => upd z (5 * u + i) (nI 0)) ((congrFun es4 40).symm.trans ((pi_up_ne _ _ _ (by decide)).trans ((congrFun es3 40).symm.trans ((pi_up_self _ _ _ _).trans (congrArg (fun z => upd z (5 * l + i) ((((pi_lp (z_g1 u l) i (σ 39, σ 40)).2) (5 * l + i)) ||| (((pi_lp (z_g1 u l) i (σ 39, σ 40)).2) (5 * u + i)))) ((congrFun es2 40).symm.trans ((pi_up_ne _ _ _ (by decide)).trans (fz1_40))))))))))) (pi_fr_of es5 (by decide) (pi_fr_of es4 (by decide) (pi_fr_of es3 (by decide) (pi_fr_of es2 (by decide) (pi_fr_tr hrz1 (by decide) (pi_fr_rf))))))
set_option maxRecDepth 20000 in
theorem pi_C_barrowsAt_t {xs : Nat → Int32} {L d : Nat} {σ : pi_S} {dr kd : Nat} (hd : dr < 8) (hkd : kd < 5)  : pi_wp xs L (d + 1) 22 0 [some (.ref 38), some (.int (nI dr)), some (.int (nI kd))] [] σ (fun v s => v = some (.int (σ 39 (5 * dr + kd))) ∧ σ = s) := by
  refine pi_ca 3 (m' := 94) (l' := [some (.int (nI dr)), some (.int (nI 8))]) (σ' := σ) (pc2 := 6) (l2 := [some (.ref 38), some (.int (nI dr)), some (.int (nI kd))]) (t := []) (fun f => rfl) (pi_below1 _ _ (z_BL (by omega) (by omega))) ?_
  rintro _ _ ⟨rfl, rfl⟩
  refine pi_cf 1 (c := nI 1 = 0) (pc' := 9) (l' := [some (.ref 38), some (.int (nI dr)), some (.int (nI kd))]) (st' := []) (σ' := σ) (pc2 := 30) (l2 := [some (.ref 38), some (.int (nI dr)), some (.int (nI kd))]) (st2 := []) (σ2 := σ) (fun f => rfl) (by decide) ?_
  refine pi_ca 3 (m' := 94) (l' := [some (.int (nI kd)), some (.int (nI 5))]) (σ' := σ) (pc2 := 14) (l2 := [some (.ref 38), some (.int (nI dr)), some (.int (nI kd))]) (t := []) (fun f => rfl) (pi_below1 _ _ (z_BL (by omega) (by omega))) ?_
  rintro _ _ ⟨rfl, rfl⟩
  refine pi_cf 1 (c := nI 1 = 0) (pc' := 17) (l' := [some (.ref 38), some (.int (nI dr)), some (.int (nI kd))]) (st' := []) (σ' := σ) (pc2 := 30) (l2 := [some (.ref 38), some (.int (nI dr)), some (.int (nI kd))]) (st2 := []) (σ2 := σ) (fun f => rfl) (by decide) ?_
  refine pi_go 5 (pc' := 24) (l' := [some (.ref 38), some (.int (nI dr)), some (.int (nI kd))]) (st' := [.int (nI dr * nI 5), .ref 39]) (σ' := σ) (fun f => rfl) ?_
  refine pi_tp (y := nI (5 * dr)) ((pk_mul _ _).trans (congrArg nI (Nat.mul_comm _ _))) ?_
  refine pi_go 2 (pc' := 26) (l' := [some (.ref 38), some (.int (nI dr)), some (.int (nI kd))]) (st' := [.int (nI (5 * dr) + nI kd), .ref 39]) (σ' := σ) (fun f => rfl) ?_
  refine pi_tp (y := nI (5 * dr + kd)) (nI_add _ _) ?_
  refine pi_ai 1 (u := 5 * dr + kd) (n := 40) (g := σ 39) (pc' := 27) (l' := [some (.ref 38), some (.int (nI dr)), some (.int (nI kd))]) (t := []) (σ' := σ) (fun f => rfl) (by omega) (by omega) ?_
  refine pi_rt 2 (v := some (.int (σ 39 (5 * dr + kd)))) (σ' := σ) (fun f => rfl) ?_
  exact ⟨rfl, rfl⟩
set_option maxRecDepth 20000 in
theorem pi_C_yardsAt_t {xs : Nat → Int32} {L d : Nat} {σ : pi_S} {dr kd : Nat} (hd : dr < 8) (hkd : kd < 5)  : pi_wp xs L (d + 1) 24 0 [some (.ref 38), some (.int (nI dr)), some (.int (nI kd))] [] σ (fun v s => v = some (.int (σ 40 (5 * dr + kd))) ∧ σ = s) := by
  refine pi_ca 3 (m' := 94) (l' := [some (.int (nI dr)), some (.int (nI 8))]) (σ' := σ) (pc2 := 6) (l2 := [some (.ref 38), some (.int (nI dr)), some (.int (nI kd))]) (t := []) (fun f => rfl) (pi_below1 _ _ (z_BL (by omega) (by omega))) ?_
  rintro _ _ ⟨rfl, rfl⟩
  refine pi_cf 1 (c := nI 1 = 0) (pc' := 9) (l' := [some (.ref 38), some (.int (nI dr)), some (.int (nI kd))]) (st' := []) (σ' := σ) (pc2 := 30) (l2 := [some (.ref 38), some (.int (nI dr)), some (.int (nI kd))]) (st2 := []) (σ2 := σ) (fun f => rfl) (by decide) ?_
  refine pi_ca 3 (m' := 94) (l' := [some (.int (nI kd)), some (.int (nI 5))]) (σ' := σ) (pc2 := 14) (l2 := [some (.ref 38), some (.int (nI dr)), some (.int (nI kd))]) (t := []) (fun f => rfl) (pi_below1 _ _ (z_BL (by omega) (by omega))) ?_
  rintro _ _ ⟨rfl, rfl⟩
  refine pi_cf 1 (c := nI 1 = 0) (pc' := 17) (l' := [some (.ref 38), some (.int (nI dr)), some (.int (nI kd))]) (st' := []) (σ' := σ) (pc2 := 30) (l2 := [some (.ref 38), some (.int (nI dr)), some (.int (nI kd))]) (st2 := []) (σ2 := σ) (fun f => rfl) (by decide) ?_
  refine pi_go 5 (pc' := 24) (l' := [some (.ref 38), some (.int (nI dr)), some (.int (nI kd))]) (st' := [.int (nI dr * nI 5), .ref 40]) (σ' := σ) (fun f => rfl) ?_
  refine pi_tp (y := nI (5 * dr)) ((pk_mul _ _).trans (congrArg nI (Nat.mul_comm _ _))) ?_
  refine pi_go 2 (pc' := 26) (l' := [some (.ref 38), some (.int (nI dr)), some (.int (nI kd))]) (st' := [.int (nI (5 * dr) + nI kd), .ref 40]) (σ' := σ) (fun f => rfl) ?_
  refine pi_tp (y := nI (5 * dr + kd)) (nI_add _ _) ?_
  refine pi_ai 1 (u := 5 * dr + kd) (n := 40) (g := σ 40) (pc' := 27) (l' := [some (.ref 38), some (.int (nI dr)), some (.int (nI kd))]) (t := []) (σ' := σ) (fun f => rfl) (by omega) (by omega) ?_
  refine pi_rt 2 (v := some (.int (σ 40 (5 * dr + kd)))) (σ' := σ) (fun f => rfl) ?_
  exact ⟨rfl, rfl⟩
set_option maxRecDepth 20000 in
theorem pi_C_all_t {xs : Nat → Int32} {L d : Nat} {σ : pi_S} {dr : Nat} (hd : dr < 8)  : pi_wp xs L (d + 1) 23 0 [some (.ref 38), some (.int (nI dr)), none, none] [] σ (fun v s => v = some (.int (z_all (σ 39) dr)) ∧ σ = s) := by
  refine pi_go 4 (pc' := 4) (l' := [some (.ref 38), some (.int (nI dr)), some (.int (nI 0)), some (.int (nI 0))]) (st' := []) (σ' := σ) (fun f => rfl) ?_
  suffices hl1 : ∀ i, i ≤ 5 → pi_wp xs L (d + 1) 23 4 [some (.ref 38), some (.int (nI dr)), some (.int (pi_lp (fun k a => a + σ 39 (5 * dr + k)) i (nI 0))), some (.int (nI i))] [] σ (fun v s => v = some (.int (z_all (σ 39) dr)) ∧ σ = s) from hl1 0 (by omega) 
  refine pi_lp0 ?_ ?_
  · refine pi_ct 3 (c := nI 5 ≤ nI 5) (pc' := 37) (l' := [some (.ref 38), some (.int (nI dr)), some (.int (pi_lp (fun k a => a + σ 39 (5 * dr + k)) 5 (nI 0))), some (.int (nI 5))]) (st' := []) (σ' := σ) (pc2 := 9) (l2 := [some (.ref 38), some (.int (nI dr)), some (.int (pi_lp (fun k a => a + σ 39 (5 * dr + k)) 5 (nI 0))), some (.int (nI 5))]) (st2 := []) (σ2 := σ) (fun f => rfl) (by decide) ?_
    refine pi_rt 2 (v := some (.int (pi_lp (fun k a => a + σ 39 (5 * dr + k)) 5 (nI 0)))) (σ' := σ) (fun f => rfl) ?_
    exact ⟨rfl, rfl⟩
  · intro i hi1 ih1
    refine pi_cf 3 (c := nI 5 ≤ nI i) (pc' := 9) (l' := [some (.ref 38), some (.int (nI dr)), some (.int (pi_lp (fun k a => a + σ 39 (5 * dr + k)) i (nI 0))), some (.int (nI i))]) (st' := []) (σ' := σ) (pc2 := 37) (l2 := [some (.ref 38), some (.int (nI dr)), some (.int (pi_lp (fun k a => a + σ 39 (5 * dr + k)) i (nI 0))), some (.int (nI i))]) (st2 := []) (σ2 := σ) (fun f => rfl) (fun zq => absurd ((show nI 5 ≤ nI i ↔ _ from nI_leI (by omega) (by omega)).mp zq) (by omega)) ?_
    refine pi_ca 3 (m' := 94) (l' := [some (.int (nI dr)), some (.int (nI 8))]) (σ' := σ) (pc2 := 15) (l2 := [some (.ref 38), some (.int (nI dr)), some (.int (pi_lp (fun k a => a + σ 39 (5 * dr + k)) i (nI 0))), some (.int (nI i))]) (t := []) (fun f => rfl) (pi_below1 _ _ (z_BL (by omega) (by omega))) ?_
    rintro _ _ ⟨rfl, rfl⟩
    refine pi_cf 1 (c := nI 1 = 0) (pc' := 18) (l' := [some (.ref 38), some (.int (nI dr)), some (.int (pi_lp (fun k a => a + σ 39 (5 * dr + k)) i (nI 0))), some (.int (nI i))]) (st' := []) (σ' := σ) (pc2 := 37) (l2 := [some (.ref 38), some (.int (nI dr)), some (.int (pi_lp (fun k a => a + σ 39 (5 * dr + k)) i (nI 0))), some (.int (nI i))]) (st2 := []) (σ2 := σ) (fun f => rfl) (by decide) ?_
    refine pi_go 6 (pc' := 26) (l' := [some (.ref 38), some (.int (nI dr)), some (.int (pi_lp (fun k a => a + σ 39 (5 * dr + k)) i (nI 0))), some (.int (nI i))]) (st' := [.int (nI dr * nI 5), .ref 39, .int (pi_lp (fun k a => a + σ 39 (5 * dr + k)) i (nI 0))]) (σ' := σ) (fun f => rfl) ?_
    refine pi_tp (y := nI (5 * dr)) ((pk_mul _ _).trans (congrArg nI (Nat.mul_comm _ _))) ?_
    refine pi_go 2 (pc' := 28) (l' := [some (.ref 38), some (.int (nI dr)), some (.int (pi_lp (fun k a => a + σ 39 (5 * dr + k)) i (nI 0))), some (.int (nI i))]) (st' := [.int (nI (5 * dr) + nI i), .ref 39, .int (pi_lp (fun k a => a + σ 39 (5 * dr + k)) i (nI 0))]) (σ' := σ) (fun f => rfl) ?_
    refine pi_tp (y := nI (5 * dr + i)) (nI_add _ _) ?_
    refine pi_ai 1 (u := 5 * dr + i) (n := 40) (g := σ 39) (pc' := 29) (l' := [some (.ref 38), some (.int (nI dr)), some (.int (pi_lp (fun k a => a + σ 39 (5 * dr + k)) i (nI 0))), some (.int (nI i))]) (t := [.int (pi_lp (fun k a => a + σ 39 (5 * dr + k)) i (nI 0))]) (σ' := σ) (fun f => rfl) (by omega) (by omega) ?_
    refine pi_go 3 (pc' := 34) (l' := [some (.ref 38), some (.int (nI dr)), some (.int ((pi_lp (fun k a => a + σ 39 (5 * dr + k)) i (nI 0)) + (σ 39 (5 * dr + i)))), some (.int (nI i + nI 1))]) (st' := []) (σ' := σ) (fun f => rfl) ?_
    rw [show nI i + nI 1 = nI (i + 1) from nI_add _ 1]
    refine pi_go 1 (pc' := 4) (l' := [some (.ref 38), some (.int (nI dr)), some (.int ((pi_lp (fun k a => a + σ 39 (5 * dr + k)) i (nI 0)) + (σ 39 (5 * dr + i)))), some (.int (nI (i + 1)))]) (st' := []) (σ' := σ) (fun f => rfl) ?_
    exact ih1 
