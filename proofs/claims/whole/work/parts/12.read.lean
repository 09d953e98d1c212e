set_option maxRecDepth 20000 in
theorem pi_m_fig0 {xs : Nat → Int32} {L d : Nat} {σ : pi_S} {n k : Nat} (hn : σ 57 0 = nI n) (hn40 : n ≤ 40) (hk : k < 60)  : pi_wp xs L (d + 1) 107 0 [some (.ref 56), some (.int (nI 0)), some (.int (nI k)), none] [] σ (fun v s => v = some (.int (z_fg n (fun k => σ 58 (0 + k)) k)) ∧ σ = s) := by
  refine pi_ai 5 (u := 0) (n := 2) (g := σ 57) (pc' := 7) (l' := [some (.ref 56), some (.int (nI 0)), some (.int (nI k)), none]) (t := [.int (nI k)]) (σ' := σ) (fun f => rfl) (by omega) (by omega) ?_
  refine pi_tp (y := nI n) (hn) ?_
  refine pi_if 1 (c := nI n ≤ nI k) (pc' := 27) (l' := [some (.ref 56), some (.int (nI 0)), some (.int (nI k)), none]) (st' := []) (σ' := σ) (pc2 := 10) (l2 := [some (.ref 56), some (.int (nI 0)), some (.int (nI k)), none]) (st2 := []) (σ2 := σ) (fun f => rfl) (fun h1 => ?_) (fun h1 => ?_)
  · replace h1 : n ≤ k := (nI_leI (by omega) (by omega)).mp h1
    refine pi_ca 6 (m' := 100) (l' := [some (.int (-1)), some (.int (nI 0)), some (.int (nI 9))]) (σ' := σ) (pc2 := 36) (l2 := [some (.ref 56), some (.int (nI 0)), some (.int (nI k)), some (.int (-1))]) (t := []) (fun f => rfl) (pi_m_in _ _ _) ?_
    rintro _ _ (⟨b2, rfl, rfl⟩ | ⟨b2, rfl, rfl⟩)
    · refine pi_cf 1 (c := nI 1 = 0) (pc' := 39) (l' := [some (.ref 56), some (.int (nI 0)), some (.int (nI k)), some (.int (-1))]) (st' := []) (σ' := σ) (pc2 := 43) (l2 := [some (.ref 56), some (.int (nI 0)), some (.int (nI k)), some (.int (-1))]) (st2 := []) (σ2 := σ) (fun f => rfl) (by decide) ?_
      refine pi_rt 3 (v := some (.int (-1))) (σ' := σ) (fun f => rfl) ?_
      exact ⟨congrArg (fun z => some (Value.int z)) (show _ = z_fg n _ k from by rw [z_fg, if_neg (by omega)]), rfl⟩
    · refine pi_ct 1 (c := nI 0 = 0) (pc' := 43) (l' := [some (.ref 56), some (.int (nI 0)), some (.int (nI k)), some (.int (-1))]) (st' := []) (σ' := σ) (pc2 := 39) (l2 := [some (.ref 56), some (.int (nI 0)), some (.int (nI k)), some (.int (-1))]) (st2 := []) (σ2 := σ) (fun f => rfl) (by decide) ?_
      refine pi_rt 2 (v := some (.int (-1))) (σ' := σ) (fun f => rfl) ?_
      exact ⟨congrArg (fun z => some (Value.int z)) (show _ = z_fg n _ k from by rw [z_fg, if_neg (by omega)]), rfl⟩
  · replace h1 : ¬ (n ≤ k) := fun zq => h1 ((nI_leI (by omega) (by omega)).mpr zq)
    refine pi_go 5 (pc' := 18) (l' := [some (.ref 56), some (.int (nI 0)), some (.int (nI k)), none]) (st' := [.int (nI 40 * nI 0), .ref 58]) (σ' := σ) (fun f => rfl) ?_
    refine pi_tp (y := nI 0) (pk_mul _ _) ?_
    refine pi_go 2 (pc' := 20) (l' := [some (.ref 56), some (.int (nI 0)), some (.int (nI k)), none]) (st' := [.int (nI 0 + nI k), .ref 58]) (σ' := σ) (fun f => rfl) ?_
    refine pi_tp (y := nI (0 + k)) (nI_add _ _) ?_
    refine pi_ai 1 (u := 0 + k) (n := 80) (g := σ 58) (pc' := 21) (l' := [some (.ref 56), some (.int (nI 0)), some (.int (nI k)), none]) (t := []) (σ' := σ) (fun f => rfl) (by omega) (by omega) ?_
    refine pi_ca 8 (m' := 100) (l' := [some (.int ((σ 58 (0 + k)) - (nI 48))), some (.int (nI 0)), some (.int (nI 9))]) (σ' := σ) (pc2 := 36) (l2 := [some (.ref 56), some (.int (nI 0)), some (.int (nI k)), some (.int ((σ 58 (0 + k)) - (nI 48)))]) (t := []) (fun f => rfl) (pi_m_in _ _ _) ?_
    rintro _ _ (⟨b3, rfl, rfl⟩ | ⟨b3, rfl, rfl⟩)
    · refine pi_cf 1 (c := nI 1 = 0) (pc' := 39) (l' := [some (.ref 56), some (.int (nI 0)), some (.int (nI k)), some (.int ((σ 58 (0 + k)) - (nI 48)))]) (st' := []) (σ' := σ) (pc2 := 43) (l2 := [some (.ref 56), some (.int (nI 0)), some (.int (nI k)), some (.int ((σ 58 (0 + k)) - (nI 48)))]) (st2 := []) (σ2 := σ) (fun f => rfl) (by decide) ?_
      refine pi_rt 3 (v := some (.int ((σ 58 (0 + k)) - (nI 48)))) (σ' := σ) (fun f => rfl) ?_
      exact ⟨congrArg (fun z => some (Value.int z)) (show _ = z_fg n _ k from by rw [z_fg, if_pos (by omega), if_pos b3]), rfl⟩
    · refine pi_ct 1 (c := nI 0 = 0) (pc' := 43) (l' := [some (.ref 56), some (.int (nI 0)), some (.int (nI k)), some (.int ((σ 58 (0 + k)) - (nI 48)))]) (st' := []) (σ' := σ) (pc2 := 39) (l2 := [some (.ref 56), some (.int (nI 0)), some (.int (nI k)), some (.int ((σ 58 (0 + k)) - (nI 48)))]) (st2 := []) (σ2 := σ) (fun f => rfl) (by decide) ?_
      refine pi_rt 2 (v := some (.int (-1))) (σ' := σ) (fun f => rfl) ?_
      exact ⟨congrArg (fun z => some (Value.int z)) (show _ = z_fg n _ k from by rw [z_fg, if_pos (by omega), if_neg b3]), rfl⟩
set_option maxRecDepth 20000 in
theorem pi_m_fig1 {xs : Nat → Int32} {L d : Nat} {σ : pi_S} {n k : Nat} (hn : σ 57 1 = nI n) (hn40 : n ≤ 40) (hk : k < 60)  : pi_wp xs L (d + 1) 107 0 [some (.ref 56), some (.int (nI 1)), some (.int (nI k)), none] [] σ (fun v s => v = some (.int (z_fg n (fun k => σ 58 (40 + k)) k)) ∧ σ = s) := by
  refine pi_ai 5 (u := 1) (n := 2) (g := σ 57) (pc' := 7) (l' := [some (.ref 56), some (.int (nI 1)), some (.int (nI k)), none]) (t := [.int (nI k)]) (σ' := σ) (fun f => rfl) (by omega) (by omega) ?_
  refine pi_tp (y := nI n) (hn) ?_
  refine pi_if 1 (c := nI n ≤ nI k) (pc' := 27) (l' := [some (.ref 56), some (.int (nI 1)), some (.int (nI k)), none]) (st' := []) (σ' := σ) (pc2 := 10) (l2 := [some (.ref 56), some (.int (nI 1)), some (.int (nI k)), none]) (st2 := []) (σ2 := σ) (fun f => rfl) (fun h1 => ?_) (fun h1 => ?_)
  · replace h1 : n ≤ k := (nI_leI (by omega) (by omega)).mp h1
    refine pi_ca 6 (m' := 100) (l' := [some (.int (-1)), some (.int (nI 0)), some (.int (nI 9))]) (σ' := σ) (pc2 := 36) (l2 := [some (.ref 56), some (.int (nI 1)), some (.int (nI k)), some (.int (-1))]) (t := []) (fun f => rfl) (pi_m_in _ _ _) ?_
    rintro _ _ (⟨b2, rfl, rfl⟩ | ⟨b2, rfl, rfl⟩)
    · refine pi_cf 1 (c := nI 1 = 0) (pc' := 39) (l' := [some (.ref 56), some (.int (nI 1)), some (.int (nI k)), some (.int (-1))]) (st' := []) (σ' := σ) (pc2 := 43) (l2 := [some (.ref 56), some (.int (nI 1)), some (.int (nI k)), some (.int (-1))]) (st2 := []) (σ2 := σ) (fun f => rfl) (by decide) ?_
      refine pi_rt 3 (v := some (.int (-1))) (σ' := σ) (fun f => rfl) ?_
      exact ⟨congrArg (fun z => some (Value.int z)) (show _ = z_fg n _ k from by rw [z_fg, if_neg (by omega)]), rfl⟩
    · refine pi_ct 1 (c := nI 0 = 0) (pc' := 43) (l' := [some (.ref 56), some (.int (nI 1)), some (.int (nI k)), some (.int (-1))]) (st' := []) (σ' := σ) (pc2 := 39) (l2 := [some (.ref 56), some (.int (nI 1)), some (.int (nI k)), some (.int (-1))]) (st2 := []) (σ2 := σ) (fun f => rfl) (by decide) ?_
      refine pi_rt 2 (v := some (.int (-1))) (σ' := σ) (fun f => rfl) ?_
      exact ⟨congrArg (fun z => some (Value.int z)) (show _ = z_fg n _ k from by rw [z_fg, if_neg (by omega)]), rfl⟩
  · replace h1 : ¬ (n ≤ k) := fun zq => h1 ((nI_leI (by omega) (by omega)).mpr zq)
    refine pi_go 5 (pc' := 18) (l' := [some (.ref 56), some (.int (nI 1)), some (.int (nI k)), none]) (st' := [.int (nI 40 * nI 1), .ref 58]) (σ' := σ) (fun f => rfl) ?_
    refine pi_tp (y := nI 40) (pk_mul _ _) ?_
    refine pi_go 2 (pc' := 20) (l' := [some (.ref 56), some (.int (nI 1)), some (.int (nI k)), none]) (st' := [.int (nI 40 + nI k), .ref 58]) (σ' := σ) (fun f => rfl) ?_
    refine pi_tp (y := nI (40 + k)) (nI_add _ _) ?_
    refine pi_ai 1 (u := 40 + k) (n := 80) (g := σ 58) (pc' := 21) (l' := [some (.ref 56), some (.int (nI 1)), some (.int (nI k)), none]) (t := []) (σ' := σ) (fun f => rfl) (by omega) (by omega) ?_
    refine pi_ca 8 (m' := 100) (l' := [some (.int ((σ 58 (40 + k)) - (nI 48))), some (.int (nI 0)), some (.int (nI 9))]) (σ' := σ) (pc2 := 36) (l2 := [some (.ref 56), some (.int (nI 1)), some (.int (nI k)), some (.int ((σ 58 (40 + k)) - (nI 48)))]) (t := []) (fun f => rfl) (pi_m_in _ _ _) ?_
    rintro _ _ (⟨b3, rfl, rfl⟩ | ⟨b3, rfl, rfl⟩)
    · refine pi_cf 1 (c := nI 1 = 0) (pc' := 39) (l' := [some (.ref 56), some (.int (nI 1)), some (.int (nI k)), some (.int ((σ 58 (40 + k)) - (nI 48)))]) (st' := []) (σ' := σ) (pc2 := 43) (l2 := [some (.ref 56), some (.int (nI 1)), some (.int (nI k)), some (.int ((σ 58 (40 + k)) - (nI 48)))]) (st2 := []) (σ2 := σ) (fun f => rfl) (by decide) ?_
      refine pi_rt 3 (v := some (.int ((σ 58 (40 + k)) - (nI 48)))) (σ' := σ) (fun f => rfl) ?_
      exact ⟨congrArg (fun z => some (Value.int z)) (show _ = z_fg n _ k from by rw [z_fg, if_pos (by omega), if_pos b3]), rfl⟩
    · refine pi_ct 1 (c := nI 0 = 0) (pc' := 43) (l' := [some (.ref 56), some (.int (nI 1)), some (.int (nI k)), some (.int ((σ 58 (40 + k)) - (nI 48)))]) (st' := []) (σ' := σ) (pc2 := 39) (l2 := [some (.ref 56), some (.int (nI 1)), some (.int (nI k)), some (.int ((σ 58 (40 + k)) - (nI 48)))]) (st2 := []) (σ2 := σ) (fun f => rfl) (by decide) ?_
      refine pi_rt 2 (v := some (.int (-1))) (σ' := σ) (fun f => rfl) ?_
      exact ⟨congrArg (fun z => some (Value.int z)) (show _ = z_fg n _ k from by rw [z_fg, if_pos (by omega), if_neg b3]), rfl⟩
set_option maxRecDepth 20000 in
theorem pi_m_rdoors {xs : Nat → Int32} {L d : Nat} {σ : pi_S} {n0 nd : Nat} {f0 : Int32} (hn0 : σ 57 0 = nI n0) (hn8 : n0 ≤ 8) (hz : z_dr n0 (fun k => σ 58 (0 + k)) nd f0)  : pi_wp xs L (d + 2) 108 0 [some (.ref 56), none] [] σ (fun v s => v = some (.int f0) ∧ s 56 2 = nI nd ∧ (∀ k, k < nd → s 59 k = z_fg n0 (fun k => σ 58 (0 + k)) k) ∧ pi_fs 56 [2] s σ ∧ pi_fr [56, 59] s σ) := by
  refine pi_go 3 (pc' := 5) (l' := [some (.ref 56), none]) (st' := []) (σ' := (pi_up σ 56 2 (nI 0))) (fun f => rfl) ?_
  generalize es1 : pi_up σ 56 2 (nI 0) = s1
  refine pi_go 2 (pc' := 7) (l' := [some (.ref 56), some (.int (nI 0))]) (st' := []) (σ' := s1) (fun f => rfl) ?_
  suffices hl2 : ∀ i, i ≤ n0 → ∀ (z2 : pi_S), pi_fr [56, 59] z2 σ → (z2 56 2 = nI 0 ∧ (∀ k, k < i → z_fg n0 (fun k => σ 58 (0 + k)) k ≠ -1) ∧ (∀ k, k < i → z2 59 k = z_fg n0 (fun k => σ 58 (0 + k)) k) ∧ pi_fs 56 [2] z2 σ) → pi_wp xs L (d + 2) 108 7 [some (.ref 56), some (.int (nI i))] [] z2 (fun v s => v = some (.int f0) ∧ s 56 2 = nI nd ∧ (∀ k, k < nd → s 59 k = z_fg n0 (fun k => σ 58 (0 + k)) k) ∧ pi_fs 56 [2] s σ ∧ pi_fr [56, 59] s σ) from hl2 0 (by omega) _ (pi_fr_of es1 (by decide) (pi_fr_rf)) (⟨(congrFun (congrFun es1 56) 2).symm.trans (pi_up_ss _ _ _ _), fun k hk => absurd hk (Nat.not_lt_zero k), fun k hk => absurd hk (Nat.not_lt_zero k), pi_fs_up es1 (by decide) (pi_fs_rf)⟩)
  refine pi_lp0 ?_ ?_
  · intro z2 hrz2 hx2
    refine pi_ai 5 (u := 0) (n := 2) (g := z2 57) (pc' := 14) (l' := [some (.ref 56), some (.int (nI n0))]) (t := [.int (nI n0)]) (σ' := z2) (fun f => rfl) (by omega) (by omega) ?_
    refine pi_tp (y := nI n0) ((congrFun (hrz2 57 (by decide)) 0).trans (hn0)) ?_
    refine pi_ct 1 (c := nI n0 ≤ nI n0) (pc' := 47) (l' := [some (.ref 56), some (.int (nI n0))]) (st' := []) (σ' := z2) (pc2 := 17) (l2 := [some (.ref 56), some (.int (nI n0))]) (st2 := []) (σ2 := z2) (fun f => rfl) ((show nI n0 ≤ nI n0 ↔ _ from nI_leI (by omega) (by omega)).mpr (by omega)) ?_
    refine pi_ai 5 (u := 0) (n := 2) (g := z2 57) (pc' := 54) (l' := [some (.ref 56), some (.int (nI n0))]) (t := [.ref 56]) (σ' := z2) (fun f => rfl) (by omega) (by omega) ?_
    refine pi_tp (y := nI n0) ((congrFun (hrz2 57 (by decide)) 0).trans (hn0)) ?_
    refine pi_go 1 (pc' := 57) (l' := [some (.ref 56), some (.int (nI n0))]) (st' := []) (σ' := (pi_up z2 56 2 (nI n0))) (fun f => rfl) ?_
    generalize es3 : pi_up z2 56 2 (nI n0) = s3
    refine pi_rt 2 (v := some (.int (-1))) (σ' := s3) (fun f => rfl) ?_
    obtain ⟨rfl, rfl⟩ := z_dr_all hz hx2.2.1
    exact ⟨rfl, (congrFun (congrFun es3 56) 2).symm.trans (pi_up_ss _ _ _ _), fun k hk => (congrFun ((congrFun es3 59).symm.trans ((pi_up_ne _ _ _ (by decide)))) k).trans (hx2.2.2.1 k hk), pi_fs_up es3 (by decide) (pi_fs_ca (hx2.2.2.2) (by decide) (pi_fs_rf)), pi_fr_of es3 (by decide) (pi_fr_tr hrz2 (by decide) (pi_fr_rf))⟩
  · intro i hi2 ih2 z2 hrz2 hx2
    refine pi_ai 5 (u := 0) (n := 2) (g := z2 57) (pc' := 14) (l' := [some (.ref 56), some (.int (nI i))]) (t := [.int (nI i)]) (σ' := z2) (fun f => rfl) (by omega) (by omega) ?_
    refine pi_tp (y := nI n0) ((congrFun (hrz2 57 (by decide)) 0).trans (hn0)) ?_
    refine pi_cf 1 (c := nI n0 ≤ nI i) (pc' := 17) (l' := [some (.ref 56), some (.int (nI i))]) (st' := []) (σ' := z2) (pc2 := 47) (l2 := [some (.ref 56), some (.int (nI i))]) (st2 := []) (σ2 := z2) (fun f => rfl) (fun zq => absurd ((show nI n0 ≤ nI i ↔ _ from nI_leI (by omega) (by omega)).mp zq) (by omega)) ?_
    refine pi_ca 4 (m' := 107) (l' := [some (.ref 56), some (.int (nI 0)), some (.int (nI i)), none]) (σ' := z2) (pc2 := 23) (l2 := [some (.ref 56), some (.int (nI i))]) (t := []) (fun f => rfl) (pi_m_fig0 (n := n0) (k := i) ((congrFun (hrz2 57 (by decide)) 0).trans (hn0)) (by omega) (by omega)) ?_
    rintro _ _ ⟨rfl, rfl⟩
    refine pi_tp (y := z_fg n0 (fun k => σ 58 (0 + k)) i) (congrArg (fun (z : Nat → Int32) => z_fg n0 (fun k => z (0 + k)) i) ((hrz2 58 (by decide)))) ?_
    refine pi_if 2 (c := z_fg n0 (fun k => σ 58 (0 + k)) i = (-1)) (pc' := 27) (l' := [some (.ref 56), some (.int (nI i))]) (st' := []) (σ' := z2) (pc2 := 29) (l2 := [some (.ref 56), some (.int (nI i))]) (st2 := []) (σ2 := z2) (fun f => rfl) (fun h1 => ?_) (fun h1 => ?_)
    · refine pi_rt 2 (v := some (.int (nI i))) (σ' := z2) (fun f => rfl) ?_
      obtain ⟨rfl, rfl⟩ := z_dr_at hz (by omega) hx2.2.1 h1
      exact ⟨rfl, hx2.1, fun k hk => absurd hk (Nat.not_lt_zero k), pi_fs_ca (hx2.2.2.2) (by decide) (pi_fs_rf), pi_fr_tr hrz2 (by decide) (pi_fr_rf)⟩
    · refine pi_ca 7 (m' := 107) (l' := [some (.ref 56), some (.int (nI 0)), some (.int (nI i)), none]) (σ' := z2) (pc2 := 40) (l2 := [some (.ref 56), some (.int (nI i))]) (t := [.int (nI i), .ref 59]) (fun f => rfl) (pi_m_fig0 (n := n0) (k := i) ((congrFun (hrz2 57 (by decide)) 0).trans (hn0)) (by omega) (by omega)) ?_
      rintro _ _ ⟨rfl, rfl⟩
      refine pi_tp (y := z_fg n0 (fun k => σ 58 (0 + k)) i) (congrArg (fun (z : Nat → Int32) => z_fg n0 (fun k => z (0 + k)) i) ((hrz2 58 (by decide)))) ?_
      refine pi_au 1 (u := i) (n := 8) (a := 59) (x := z_fg n0 (fun k => σ 58 (0 + k)) i) (pc' := 41) (l' := [some (.ref 56), some (.int (nI i))]) (t := []) (σ' := z2) (fun f => rfl) (by omega) (by omega) ?_
      generalize es4 : pi_up z2 59 i (z_fg n0 (fun k => σ 58 (0 + k)) i) = s4
      refine pi_go 1 (pc' := 44) (l' := [some (.ref 56), some (.int (nI i + nI 1))]) (st' := []) (σ' := s4) (fun f => rfl) ?_
      rw [show nI i + nI 1 = nI (i + 1) from nI_add _ 1]
      refine pi_go 1 (pc' := 7) (l' := [some (.ref 56), some (.int (nI (i + 1)))]) (st' := []) (σ' := s4) (fun f => rfl) ?_
      exact ih2 _ (pi_fr_of es4 (by decide) (pi_fr_tr hrz2 (by decide) (pi_fr_rf))) (⟨(congrFun ((congrFun es4 56).symm.trans (pi_up_ne _ _ _ (by decide))) 2).trans (hx2.1), lt_s hx2.2.1 h1, lt_s (fun k hk => (congrFun ((congrFun es4 59).symm.trans ((pi_up_self _ _ _ _))) k).trans ((if_neg (by omega)).trans (hx2.2.2.1 k hk))) ((congrFun ((congrFun es4 59).symm.trans ((pi_up_self _ _ _ _))) i).trans (if_pos rfl)), pi_fs_ne es4 (by decide) (pi_fs_ca (hx2.2.2.2) (by decide) (pi_fs_rf))⟩)
