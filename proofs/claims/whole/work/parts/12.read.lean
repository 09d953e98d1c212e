set_option maxRecDepth 20000 in
theorem pi_m_fig0 {xs : Nat → Int32} {L d : Nat} {σ : pi_S} {n k : Nat} (hn : σ 57 0 = nI n) (hn40 : n ≤ 40) (hk : k < 60)  : pi_wp xs L (d + 1) 107 0 [some (.ref 56), some (.int (nI 0)), some (.int (nI k)), none] [] σ (fun v s => v = some (.int (z_fg n (fun k => σ 58 (0 + k)) k)) ∧ σ = s) := by
  refine pi_ai 5 (u := 0) (n := 2) (g := σ 57) (pc' := 7) (l' := [some (.ref 56), some (.int (nI 0)), some (.int (nI k)), none]) (t := [.int (nI k)]) (σ' := σ) (fun f => rfl) (by omega) (by omega) ?_
  refine pi_tp (y := nI n) (hn) ?_
  refine pi_if 1 (c := nI n ≤ nI k) (pc' := 27) (l' := [some (.ref 56), some (.int (nI 0)), some (.int (nI k)), none]) (st' := []) (σ' := σ) (pc2 := 10) (l2 := [some (.ref 56), some (.int (nI 0)), some (.int (nI k)), none]) (st2 := []) (σ2 := σ) (fun f => rfl) (fun h1 => ?_) (fun h1 => ?_)
  · replace h1 : n ≤ k := (nI_leI (by omega) (by omega)).mp h1
    refine pi_ca 6 (m' := 100) (l' := [some (.int (-1)), some (.int (nI 0)), some (.int (nI 9))]) (σ' := σ) (pc2 := 36) (l2 := [some (.ref 56), some (.int (nI 0)), some (.int (nI k)), some (.int (-1))]) (t := []) (fun f => rfl) (pi_m_in _ _ _) ?_
    rintro _ _ (⟨b2, rfl, rfl⟩ | ⟨b2, rfl, rfl⟩)
    · refine pi_cf 1 (c := nI 1 = 0) (pc' := 39) (l' := [some (.ref 56), some (.int (nI 0)), some (.int (nI k)), some (.int (-1))]) (st' := []) (σ' := σ) (pc2 := 43) (l2 := [some (.ref 56), some (.int (nI 0)), some (.int (nI k)), some (.int (-1))]) (st2 := []) (σ2 := σ) (fun f => rfl) (by decide) ?_
      refine pi_rt 3 (v := some (.int (-1))) (σ' := σ) (fun f => rfl) ?_
      exact ⟨congrArg (fun z => some (Value.int z)) (show _ = z_fg n _ k from by rw [z_fg, if_neg (by omega)]), rfl⟩
    · refine pi_ct 1 (c := nI 0 = 0) (pc' := 43) (l' := [some (.ref 56), some (.int (nI 0)), some (.int (nI k)), some (.int (-1))]) (st' := []) (σ' := σ) (pc2 := 39) (l2 := [some (.ref 56), some (.int (nI 0)), some (.int (nI k)), some (.int (-1))]) (st2 := []) (σ2 := σ) (fun f => rfl) (by decide) ?_
      refine pi_rt 2 (v := some (.int (-1))) (σ' := σ) (fun f => rfl) ?_
      exact ⟨congrArg (fun z => some (Value.int z)) (show _ = z_fg n _ k from by rw [z_fg, if_neg (by omega)]), rfl⟩
  · replace h1 : ¬ (n ≤ k) := fun zq => h1 ((nI_leI (by omega) (by omega)).mpr zq)
    refine pi_go 5 (pc' := 18) (l' := [some (.ref 56), some (.int (nI 0)), some (.int (nI k)), none]) (st' := [.int (nI 40 * nI 0), .ref 58]) (σ' := σ) (fun f => rfl) ?_
    refine pi_tp (y := nI 0) (pk_mul _ _) ?_
    refine pi_go 2 (pc' := 20) (l' := [some (.ref 56), some (.int (nI 0)), some (.int (nI k)), none]) (st' := [.int (nI 0 + nI k), .ref 58]) (σ' := σ) (fun f => rfl) ?_
    refine pi_tp (y := nI (0 + k)) (nI_add _ _) ?_
    refine pi_ai 1 (u := 0 + k) (n := 80) (g := σ 58) (pc' := 21) (l' := [some (.ref 56), some (.int (nI 0)), some (.int (nI k)), none]) (t := []) (σ' := σ) (fun f => rfl) (by omega) (by omega) ?_
    refine pi_ca 8 (m' := 100) (l' := [some (.int ((σ 58 (0 + k)) - (nI 48))), some (.int (nI 0)), some (.int (nI 9))]) (σ' := σ) (pc2 := 36) (l2 := [some (.ref 56), some (.int (nI 0)), some (.int (nI k)), some (.int ((σ 58 (0 + k)) - (nI 48)))]) (t := []) (fun f => rfl) (pi_m_in _ _ _) ?_
    rintro _ _ (⟨b3, rfl, rfl⟩ | ⟨b3, rfl, rfl⟩)
    · refine pi_cf 1 (c := nI 1 = 0) (pc' := 39) (l' := [some (.ref 56), some (.int (nI 0)), some (.int (nI k)), some (.int ((σ 58 (0 + k)) - (nI 48)))]) (st' := []) (σ' := σ) (pc2 := 43) (l2 := [some (.ref 56), some (.int (nI 0)), some (.int (nI k)), some (.int ((σ 58 (0 + k)) - (nI 48)))]) (st2 := []) (σ2 := σ) (fun f => rfl) (by decide) ?_
      refine pi_rt 3 (v := some (.int ((σ 58 (0 + k)) - (nI 48)))) (σ' := σ) (fun f => rfl) ?_
      exact ⟨congrArg (fun z => some (Value.int z)) (show _ = z_fg n _ k from by rw [z_fg, if_pos (by omega), if_pos b3]), rfl⟩
    · refine pi_ct 1 (c := nI 0 = 0) (pc' := 43) (l' := [some (.ref 56), some (.int (nI 0)), some (.int (nI k)), some (.int ((σ 58 (0 + k)) - (nI 48)))]) (st' := []) (σ' := σ) (pc2 := 39) (l2 := [some (.ref 56), some (.int (nI 0)), some (.int (nI k)), some (.int ((σ 58 (0 + k)) - (nI 48)))]) (st2 := []) (σ2 := σ) (fun f => rfl) (by decide) ?_
      refine pi_rt 2 (v := some (.int (-1))) (σ' := σ) (fun f => rfl) ?_
      exact ⟨congrArg (fun z => some (Value.int z)) (show _ = z_fg n _ k from by rw [z_fg, if_pos (by omega), if_neg b3]), rfl⟩
set_option maxRecDepth 20000 in
theorem pi_m_fig1 {xs : Nat → Int32} {L d : Nat} {σ : pi_S} {n k : Nat} (hn : σ 57 1 = nI n) (hn40 : n ≤ 40) (hk : k < 60)  : pi_wp xs L (d + 1) 107 0 [some (.ref 56), some (.int (nI 1)), some (.int (nI k)), none] [] σ (fun v s => v = some (.int (z_fg n (fun k => σ 58 (40 + k)) k)) ∧ σ = s) := by
  refine pi_ai 5 (u := 1) (n := 2) (g := σ 57) (pc' := 7) (l' := [some (.ref 56), some (.int (nI 1)), some (.int (nI k)), none]) (t := [.int (nI k)]) (σ' := σ) (fun f => rfl) (by omega) (by omega) ?_
  refine pi_tp (y := nI n) (hn) ?_
  refine pi_if 1 (c := nI n ≤ nI k) (pc' := 27) (l' := [some (.ref 56), some (.int (nI 1)), some (.int (nI k)), none]) (st' := []) (σ' := σ) (pc2 := 10) (l2 := [some (.ref 56), some (.int (nI 1)), some (.int (nI k)), none]) (st2 := []) (σ2 := σ) (fun f => rfl) (fun h1 => ?_) (fun h1 => ?_)
  · replace h1 : n ≤ k := (nI_leI (by omega) (by omega)).mp h1
    refine pi_ca 6 (m' := 100) (l' := [some (.int (-1)), some (.int (nI 0)), some (.int (nI 9))]) (σ' := σ) (pc2 := 36) (l2 := [some (.ref 56), some (.int (nI 1)), some (.int (nI k)), some (.int (-1))]) (t := []) (fun f => rfl) (pi_m_in _ _ _) ?_
    rintro _ _ (⟨b2, rfl, rfl⟩ | ⟨b2, rfl, rfl⟩)
    · refine pi_cf 1 (c := nI 1 = 0) (pc' := 39) (l' := [some (.ref 56), some (.int (nI 1)), some (.int (nI k)), some (.int (-1))]) (st' := []) (σ' := σ) (pc2 := 43) (l2 := [some (.ref 56), some (.int (nI 1)), some (.int (nI k)), some (.int (-1))]) (st2 := []) (σ2 := σ) (fun f => rfl) (by decide) ?_
      refine pi_rt 3 (v := some (.int (-1))) (σ' := σ) (fun f => rfl) ?_
      exact ⟨congrArg (fun z => some (Value.int z)) (show _ = z_fg n _ k from by rw [z_fg, if_neg (by omega)]), rfl⟩
    · refine pi_ct 1 (c := nI 0 = 0) (pc' := 43) (l' := [some (.ref 56), some (.int (nI 1)), some (.int (nI k)), some (.int (-1))]) (st' := []) (σ' := σ) (pc2 := 39) (l2 := [some (.ref 56), some (.int (nI 1)), some (.int (nI k)), some (.int (-1))]) (st2 := []) (σ2 := σ) (fun f => rfl) (by decide) ?_
      refine pi_rt 2 (v := some (.int (-1))) (σ' := σ) (fun f => rfl) ?_
      exact ⟨congrArg (fun z => some (Value.int z)) (show _ = z_fg n _ k from by rw [z_fg, if_neg (by omega)]), rfl⟩
  · replace h1 : ¬ (n ≤ k) := fun zq => h1 ((nI_leI (by omega) (by omega)).mpr zq)
    refine pi_go 5 (pc' := 18) (l' := [some (.ref 56), some (.int (nI 1)), some (.int (nI k)), none]) (st' := [.int (nI 40 * nI 1), .ref 58]) (σ' := σ) (fun f => rfl) ?_
    refine pi_tp (y := nI 40) (pk_mul _ _) ?_
    refine pi_go 2 (pc' := 20) (l' := [some (.ref 56), some (.int (nI 1)), some (.int (nI k)), none]) (st' := [.int (nI 40 + nI k), .ref 58]) (σ' := σ) (fun f => rfl) ?_
    refine pi_tp (y := nI (40 + k)) (nI_add _ _) ?_
    refine pi_ai 1 (u := 40 + k) (n := 80) (g := σ 58) (pc' := 21) (l' := [some (.ref 56), some (.int (nI 1)), some (.int (nI k)), none]) (t := []) (σ' := σ) (fun f => rfl) (by omega) (by omega) ?_
    refine pi_ca 8 (m' := 100) (l' := [some (.int ((σ 58 (40 + k)) - (nI 48))), some (.int (nI 0)), some (.int (nI 9))]) (σ' := σ) (pc2 := 36) (l2 := [some (.ref 56), some (.int (nI 1)), some (.int (nI k)), some (.int ((σ 58 (40 + k)) - (nI 48)))]) (t := []) (fun f => rfl) (pi_m_in _ _ _) ?_
    rintro _ _ (⟨b3, rfl, rfl⟩ | ⟨b3, rfl, rfl⟩)
    · refine pi_cf 1 (c := nI 1 = 0) (pc' := 39) (l' := [some (.ref 56), some (.int (nI 1)), some (.int (nI k)), some (.int ((σ 58 (40 + k)) - (nI 48)))]) (st' := []) (σ' := σ) (pc2 := 43) (l2 := [some (.ref 56), some (.int (nI 1)), some (.int (nI k)), some (.int ((σ 58 (40 + k)) - (nI 48)))]) (st2 := []) (σ2 := σ) (fun f => rfl) (by decide) ?_
      refine pi_rt 3 (v := some (.int ((σ 58 (40 + k)) - (nI 48)))) (σ' := σ) (fun f => rfl) ?_
      exact ⟨congrArg (fun z => some (Value.int z)) (show _ = z_fg n _ k from by rw [z_fg, if_pos (by omega), if_pos b3]), rfl⟩
    · refine pi_ct 1 (c := nI 0 = 0) (pc' := 43) (l' := [some (.ref 56), some (.int (nI 1)), some (.int (nI k)), some (.int ((σ 58 (40 + k)) - (nI 48)))]) (st' := []) (σ' := σ) (pc2 := 39) (l2 := [some (.ref 56), some (.int (nI 1)), some (.int (nI k)), some (.int ((σ 58 (40 + k)) - (nI 48)))]) (st2 := []) (σ2 := σ) (fun f => rfl) (by decide) ?_
      refine pi_rt 2 (v := some (.int (-1))) (σ' := σ) (fun f => rfl) ?_
      exact ⟨congrArg (fun z => some (Value.int z)) (show _ = z_fg n _ k from by rw [z_fg, if_pos (by omega), if_neg b3]), rfl⟩
set_option maxRecDepth 20000 in
theorem pi_m_rdoors {xs : Nat → Int32} {L d : Nat} {σ : pi_S} {n0 nd : Nat} {f0 : Int32} (hn0 : σ 57 0 = nI n0) (hn8 : n0 ≤ 8) (hz : z_dr n0 (fun k => σ 58 (0 + k)) nd f0)  : pi_wp xs L (d + 2) 108 0 [some (.ref 56), none] [] σ (fun v s => v = some (.int f0) ∧ s 56 2 = nI nd ∧ (∀ k, k < nd → s 59 k = z_fg n0 (fun k => σ 58 (0 + k)) k) ∧ pi_fs 56 [2] s σ ∧ pi_fr [56, 59] s σ) := by
  refine pi_go 3 (pc' := 5) (l' := [some (.ref 56), none]) (st' := []) (σ' := (pi_up σ 56 2 (nI 0))) (fun f => rfl) ?_
  generalize es1 : pi_up σ 56 2 (nI 0) = s1
  refine pi_go 2 (pc' := 7) (l' := [some (.ref 56), some (.int (nI 0))]) (st' := []) (σ' := s1) (fun f => rfl) ?_
  suffices hl2 : ∀ i, i ≤ n0 → ∀ (z2 : pi_S), pi_fr [56, 59] z2 σ → (z2 56 2 = nI 0 ∧ (∀ k, k < i → z_fg n0 (fun k => σ 58 (0 + k)) k ≠ -1) ∧ (∀ k, k < i → z2 59 k = z_fg n0 (fun k => σ 58 (0 + k)) k) ∧ pi_fs 56 [2] z2 σ) → pi_wp xs L (d + 2) 108 7 [some (.ref 56), some (.int (nI i))] [] z2 (fun v s => v = some (.int f0) ∧ s 56 2 = nI nd ∧ (∀ k, k < nd → s 59 k = z_fg n0 (fun k => σ 58 (0 + k)) k) ∧ pi_fs 56 [2] s σ ∧ pi_fr [56, 59] s σ) from hl2 0 (by omega) _ (pi_fr_of es1 (by decide) (pi_fr_rf)) (⟨(congrFun (congrFun es1 56) 2).symm.trans (pi_up_ss _ _ _ _), fun k hk => absurd hk (Nat.not_lt_zero k), fun k hk => absurd hk (Nat.not_lt_zero k), pi_fs_up es1 (by decide) (pi_fs_rf)⟩)
  refine pi_lp0 ?_ ?_
  · intro z2 hrz2 hx2
    refine pi_ai 5 (u := 0) (n := 2) (g := z2 57) (pc' := 14) (l' := [some (.ref 56), some (.int (nI n0))]) (t := [.int (nI n0)]) (σ' := z2) (fun f => rfl) (by omega) (by omega) ?_
    refine pi_tp (y := nI n0) ((congrFun (hrz2 57 (by decide)) 0).trans (hn0)) ?_
    refine pi_ct 1 (c := nI n0 ≤ nI n0) (pc' := 47) (l' := [some (.ref 56), some (.int (nI n0))]) (st' := []) (σ' := z2) (pc2 := 17) (l2 := [some (.ref 56), some (.int (nI n0))]) (st2 := []) (σ2 := z2) (fun f => rfl) ((show nI n0 ≤ nI n0 ↔ _ from nI_leI (by omega) (by omega)).mpr (by omega)) ?_
    refine pi_ai 5 (u := 0) (n := 2) (g := z2 57) (pc' := 54) (l' := [some (.ref 56), some (.int (nI n0))]) (t := [.ref 56]) (σ' := z2) (fun f => rfl) (by omega) (by omega) ?_
    refine pi_tp (y := nI n0) ((congrFun (hrz2 57 (by decide)) 0).trans (hn0)) ?_
    refine pi_go 1 (pc' := 57) (l' := [some (.ref 56), some (.int (nI n0))]) (st' := []) (σ' := (pi_up z2 56 2 (nI n0))) (fun f => rfl) ?_
    generalize es3 : pi_up z2 56 2 (nI n0) = s3
    refine pi_rt 2 (v := some (.int (-1))) (σ' := s3) (fun f => rfl) ?_
    obtain ⟨rfl, rfl⟩ := z_dr_all hz hx2.2.1
    exact ⟨rfl, (congrFun (congrFun es3 56) 2).symm.trans (pi_up_ss _ _ _ _), fun k hk => (congrFun ((congrFun es3 59).symm.trans ((pi_up_ne _ _ _ (by decide)))) k).trans (hx2.2.2.1 k hk), pi_fs_up es3 (by decide) (pi_fs_ca (hx2.2.2.2) (by decide) (pi_fs_rf)), pi_fr_of es3 (by decide) (pi_fr_tr hrz2 (by decide) (pi_fr_rf))⟩
  · intro i hi2 ih2 z2 hrz2 hx2
    refine pi_ai 5 (u := 0) (n := 2) (g := z2 57) (pc' := 14) (l' := [some (.ref 56), some (.int (nI i))]) (t := [.int (nI i)]) (σ' := z2) (fun f => rfl) (by omega) (by omega) ?_
    refine pi_tp (y := nI n0) ((congrFun (hrz2 57 (by decide)) 0).trans (hn0)) ?_
    refine pi_cf 1 (c := nI n0 ≤ nI i) (pc' := 17) (l' := [some (.ref 56), some (.int (nI i))]) (st' := []) (σ' := z2) (pc2 := 47) (l2 := [some (.ref 56), some (.int (nI i))]) (st2 := []) (σ2 := z2) (fun f => rfl) (fun zq => absurd ((show nI n0 ≤ nI i ↔ _ from nI_leI (by omega) (by omega)).mp zq) (by omega)) ?_
    refine pi_ca 4 (m' := 107) (l' := [some (.ref 56), some (.int (nI 0)), some (.int (nI i)), none]) (σ' := z2) (pc2 := 23) (l2 := [some (.ref 56), some (.int (nI i))]) (t := []) (fun f => rfl) (pi_m_fig0 (n := n0) (k := i) ((congrFun (hrz2 57 (by decide)) 0).trans (hn0)) (by omega) (by omega)) ?_
    rintro _ _ ⟨rfl, rfl⟩
    refine pi_tp (y := z_fg n0 (fun k => σ 58 (0 + k)) i) (congrArg (fun (z : Nat → Int32) => z_fg n0 (fun k => z (0 + k)) i) ((hrz2 58 (by decide)))) ?_
    refine pi_if 2 (c := z_fg n0 (fun k => σ 58 (0 + k)) i = (-1)) (pc' := 27) (l' := [some (.ref 56), some (.int (nI i))]) (st' := []) (σ' := z2) (pc2 := 29) (l2 := [some (.ref 56), some (.int (nI i))]) (st2 := []) (σ2 := z2) (fun f => rfl) (fun h1 => ?_) (fun h1 => ?_)
    · refine pi_rt 2 (v := some (.int (nI i))) (σ' := z2) (fun f => rfl) ?_
      obtain ⟨rfl, rfl⟩ := z_dr_at hz (by omega) hx2.2.1 h1
      exact ⟨rfl, hx2.1, fun k hk => absurd hk (Nat.not_lt_zero k), pi_fs_ca (hx2.2.2.2) (by decide) (pi_fs_rf), pi_fr_tr hrz2 (by decide) (pi_fr_rf)⟩
    · refine pi_ca 7 (m' := 107) (l' := [some (.ref 56), some (.int (nI 0)), some (.int (nI i)), none]) (σ' := z2) (pc2 := 40) (l2 := [some (.ref 56), some (.int (nI i))]) (t := [.int (nI i), .ref 59]) (fun f => rfl) (pi_m_fig0 (n := n0) (k := i) ((congrFun (hrz2 57 (by decide)) 0).trans (hn0)) (by omega) (by omega)) ?_
      rintro _ _ ⟨rfl, rfl⟩
      refine pi_tp (y := z_fg n0 (fun k => σ 58 (0 + k)) i) (congrArg (fun (z : Nat → Int32) => z_fg n0 (fun k => z (0 + k)) i) ((hrz2 58 (by decide)))) ?_
      refine pi_au 1 (u := i) (n := 8) (a := 59) (x := z_fg n0 (fun k => σ 58 (0 + k)) i) (pc' := 41) (l' := [some (.ref 56), some (.int (nI i))]) (t := []) (σ' := z2) (fun f => rfl) (by omega) (by omega) ?_
      generalize es4 : pi_up z2 59 i (z_fg n0 (fun k => σ 58 (0 + k)) i) = s4
      refine pi_go 1 (pc' := 44) (l' := [some (.ref 56), some (.int (nI i + nI 1))]) (st' := []) (σ' := s4) (fun f => rfl) ?_
      rw [show nI i + nI 1 = nI (i + 1) from nI_add _ 1]
      refine pi_go 1 (pc' := 7) (l' := [some (.ref 56), some (.int (nI (i + 1)))]) (st' := []) (σ' := s4) (fun f => rfl) ?_
      exact ih2 _ (pi_fr_of es4 (by decide) (pi_fr_tr hrz2 (by decide) (pi_fr_rf))) (⟨(congrFun ((congrFun es4 56).symm.trans (pi_up_ne _ _ _ (by decide))) 2).trans (hx2.1), lt_s hx2.2.1 h1, lt_s (fun k hk => (congrFun ((congrFun es4 59).symm.trans ((pi_up_self _ _ _ _))) k).trans ((if_neg (by omega)).trans (hx2.2.2.1 k hk))) ((congrFun ((congrFun es4 59).symm.trans ((pi_up_self _ _ _ _))) i).trans (if_pos rfl)), pi_fs_ne es4 (by decide) (pi_fs_ca (hx2.2.2.2) (by decide) (pi_fs_rf))⟩)
theorem z_in_iff {x : Int32} {nd : Nat} (hnd : nd < 2 ^ 30) : (nI 0 ≤ x ∧ x ≤ nI nd - nI 1) ↔ ∃ a, a < nd ∧ x = nI a := by
  constructor
  · intro ⟨h1, h2⟩
    obtain ⟨j, hj, rfl⟩ := nI_of (x := x) (fun q => Int32.not_lt.mpr h1 q)
    refine ⟨j, ?_, rfl⟩
    rw [Int32.le_iff_toInt_le, pk_sub_toInt hnd (by omega), nI_toInt hj] at h2
    omega
  · rintro ⟨a, ha, rfl⟩
    exact (z_pred (by omega) hnd).mpr ha
set_option maxRecDepth 20000 in
theorem pi_m_rstreets {xs : Nat → Int32} {L d : Nat} {σ : pi_S} {n1 nd ns : Nat} {f1 : Int32} (hn1 : σ 57 1 = nI n1) (hn40 : n1 ≤ 40) (hnd : σ 56 2 = nI nd) (hnd8 : nd ≤ 8) (hz : z_sr n1 (fun k => σ 58 (40 + k)) (σ 59) nd ns f1)  : pi_wp xs L (d + 2) 109 0 [some (.ref 56), none, none, none, none] [] σ (fun v s => v = some (.int f1) ∧ s 56 4 = nI ns ∧ (∀ k, k < ns → s 60 k = z_fg n1 (fun k => σ 58 (40 + k)) (3 * k) ∧ s 61 k = z_fg n1 (fun k => σ 58 (40 + k)) (3 * k + 1)) ∧ pi_fs 56 [4] s σ ∧ pi_fr [56, 60, 61] s σ) := by
  refine pi_go 3 (pc' := 5) (l' := [some (.ref 56), none, none, none, none]) (st' := []) (σ' := (pi_up σ 56 4 (nI 0))) (fun f => rfl) ?_
  generalize es1 : pi_up σ 56 4 (nI 0) = s1
  refine pi_go 4 (pc' := 9) (l' := [some (.ref 56), some (.int (nI 0)), some (.int (nI 0)), none, none]) (st' := []) (σ' := s1) (fun f => rfl) ?_
  by_cases hn1p : 0 < n1
  · suffices hl2 : ∀ j, j ≤ 12 → ∀ (j3 j4 : Option Value), ∀ (z2 : pi_S), pi_fr [56, 60, 61] z2 σ → (z2 56 4 = nI 0 ∧ (∀ q, q < j → z_sC n1 (fun k => σ 58 (40 + k)) (σ 59) nd q) ∧ (∀ q, q < j → z2 60 q = z_fg n1 (fun k => σ 58 (40 + k)) (3 * q) ∧ z2 61 q = z_fg n1 (fun k => σ 58 (40 + k)) (3 * q + 1)) ∧ pi_fs 56 [4] z2 σ) → pi_wp xs L (d + 2) 109 9 [some (.ref 56), some (.int (nI j)), some (.int (nI (3 * j))), j3, j4] [] z2 (fun v s => v = some (.int f1) ∧ s 56 4 = nI ns ∧ (∀ k, k < ns → s 60 k = z_fg n1 (fun k => σ 58 (40 + k)) (3 * k) ∧ s 61 k = z_fg n1 (fun k => σ 58 (40 + k)) (3 * k + 1)) ∧ pi_fs 56 [4] s σ ∧ pi_fr [56, 60, 61] s σ) from hl2 0 (by omega) _ _ _ (pi_fr_of es1 (by decide) (pi_fr_rf)) (⟨(congrFun (congrFun es1 56) 4).symm.trans (pi_up_ss _ _ _ _), fun k hk => absurd hk (Nat.not_lt_zero k), fun k hk => absurd hk (Nat.not_lt_zero k), pi_fs_up es1 (by decide) (pi_fs_rf)⟩)
    refine pi_lp0 ?_ ?_
    · intro j3 j4 z2 hrz2 hx2
      have hj3 : ∀ (y3 : pi_S), pi_fr [56, 60, 61] y3 σ → (y3 56 4 = nI 0 ∧ (∀ q, q < 12 → z_sC n1 (fun k => σ 58 (40 + k)) (σ 59) nd q) ∧ (∀ q, q < 12 → y3 60 q = z_fg n1 (fun k => σ 58 (40 + k)) (3 * q) ∧ y3 61 q = z_fg n1 (fun k => σ 58 (40 + k)) (3 * q + 1)) ∧ pi_fs 56 [4] y3 σ) → pi_wp xs L (d + 2) 109 23 [some (.ref 56), some (.int (nI 12)), some (.int (nI 36)), j3, j4] [] y3 (fun v s => v = some (.int f1) ∧ s 56 4 = nI ns ∧ (∀ k, k < ns → s 60 k = z_fg n1 (fun k => σ 58 (40 + k)) (3 * k) ∧ s 61 k = z_fg n1 (fun k => σ 58 (40 + k)) (3 * k + 1)) ∧ pi_fs 56 [4] s σ ∧ pi_fr [56, 60, 61] s σ) := by
        intro y3 hry3 hx3
        refine pi_ca 4 (m' := 107) (l' := [some (.ref 56), some (.int (nI 1)), some (.int (nI 36)), none]) (σ' := y3) (pc2 := 29) (l2 := [some (.ref 56), some (.int (nI 12)), some (.int (nI 36)), j3, j4]) (t := []) (fun f => rfl) (pi_m_fig1 (n := n1) (k := 36) ((congrFun (hry3 57 (by decide)) 1).trans (hn1)) (by omega) (by omega)) ?_
        rintro _ _ ⟨rfl, rfl⟩
        refine pi_tp (y := z_fg n1 (fun k => σ 58 (40 + k)) 36) (congrArg (fun (z : Nat → Int32) => z_fg n1 (fun k => z (40 + k)) 36) ((hry3 58 (by decide)))) ?_
        refine pi_go 6 (pc' := 35) (l' := [some (.ref 56), some (.int (nI 12)), some (.int (nI 36)), some (.int (z_fg n1 (fun k => σ 58 (40 + k)) 36)), j4]) (st' := [.int (nI 36 + nI 1), .int (nI 1), .ref 56]) (σ' := y3) (fun f => rfl) ?_
        refine pi_tp (y := nI 37) (nI_add _ _) ?_
        refine pi_ca 1 (m' := 107) (l' := [some (.ref 56), some (.int (nI 1)), some (.int (nI 37)), none]) (σ' := y3) (pc2 := 38) (l2 := [some (.ref 56), some (.int (nI 12)), some (.int (nI 36)), some (.int (z_fg n1 (fun k => σ 58 (40 + k)) 36)), j4]) (t := []) (fun f => rfl) (pi_m_fig1 (n := n1) (k := 37) ((congrFun (hry3 57 (by decide)) 1).trans (hn1)) (by omega) (by omega)) ?_
        rintro _ _ ⟨rfl, rfl⟩
        refine pi_tp (y := z_fg n1 (fun k => σ 58 (40 + k)) 37) (congrArg (fun (z : Nat → Int32) => z_fg n1 (fun k => z (40 + k)) 37) ((hry3 58 (by decide)))) ?_
        refine pi_ct 4 (c := nI 12 = nI 12) (pc' := 60) (l' := [some (.ref 56), some (.int (nI 12)), some (.int (nI 36)), some (.int (z_fg n1 (fun k => σ 58 (40 + k)) 36)), some (.int (z_fg n1 (fun k => σ 58 (40 + k)) 37))]) (st' := []) (σ' := y3) (pc2 := 46) (l2 := [some (.ref 56), some (.int (nI 12)), some (.int (nI 36)), some (.int (z_fg n1 (fun k => σ 58 (40 + k)) 36)), some (.int (z_fg n1 (fun k => σ 58 (40 + k)) 37))]) (st2 := []) (σ2 := y3) (fun f => rfl) (by decide) ?_
        refine pi_rt 2 (v := some (.int (nI 36))) (σ' := y3) (fun f => rfl) ?_
        obtain ⟨rfl, rfl⟩ := z_sr_at hz hn1p (J := 12) (by omega) hx3.2.1 (Or.inl ⟨Or.inl rfl, rfl, rfl⟩)
        exact ⟨rfl, hx3.1, fun k hk => absurd hk (Nat.not_lt_zero k), pi_fs_ca (hx3.2.2.2) (by decide) (pi_fs_rf), pi_fr_tr hry3 (by decide) (pi_fr_rf)⟩
      refine pi_ai 5 (u := 1) (n := 2) (g := z2 57) (pc' := 16) (l' := [some (.ref 56), some (.int (nI 12)), some (.int (nI 36)), j3, j4]) (t := [.int (nI 36)]) (σ' := z2) (fun f => rfl) (by omega) (by omega) ?_
      refine pi_tp (y := nI n1) ((congrFun (hrz2 57 (by decide)) 1).trans (hn1)) ?_
      refine pi_if 1 (c := nI 36 < nI n1) (pc' := 23) (l' := [some (.ref 56), some (.int (nI 12)), some (.int (nI 36)), j3, j4]) (st' := []) (σ' := z2) (pc2 := 19) (l2 := [some (.ref 56), some (.int (nI 12)), some (.int (nI 36)), j3, j4]) (st2 := []) (σ2 := z2) (fun f => rfl) (fun h1 => ?_) (fun h1 => ?_)
      · replace h1 : 36 < n1 := (nI_ltI (by omega) (by omega)).mp h1
        exact hj3 _ (pi_fr_tr hrz2 (by decide) (pi_fr_rf)) (hx2)
      · replace h1 : ¬ (36 < n1) := fun zq => h1 ((nI_ltI (by omega) (by omega)).mpr zq)
        refine pi_cf 2 (c := nI 36 ≤ 0) (pc' := 23) (l' := [some (.ref 56), some (.int (nI 12)), some (.int (nI 36)), j3, j4]) (st' := []) (σ' := z2) (pc2 := 157) (l2 := [some (.ref 56), some (.int (nI 12)), some (.int (nI 36)), j3, j4]) (st2 := []) (σ2 := z2) (fun f => rfl) (by decide) ?_
        exact hj3 _ (pi_fr_tr hrz2 (by decide) (pi_fr_rf)) (hx2)
    · intro j hi2 ih2 j3 j4 z2 hrz2 hx2
      have hj4 : ∀ (y4 : pi_S), pi_fr [56, 60, 61] y4 σ → (y4 56 4 = nI 0 ∧ (∀ q, q < j → z_sC n1 (fun k => σ 58 (40 + k)) (σ 59) nd q) ∧ (∀ q, q < j → y4 60 q = z_fg n1 (fun k => σ 58 (40 + k)) (3 * q) ∧ y4 61 q = z_fg n1 (fun k => σ 58 (40 + k)) (3 * q + 1)) ∧ pi_fs 56 [4] y4 σ) → pi_wp xs L (d + 2) 109 23 [some (.ref 56), some (.int (nI j)), some (.int (nI (3 * j))), j3, j4] [] y4 (fun v s => v = some (.int f1) ∧ s 56 4 = nI ns ∧ (∀ k, k < ns → s 60 k = z_fg n1 (fun k => σ 58 (40 + k)) (3 * k) ∧ s 61 k = z_fg n1 (fun k => σ 58 (40 + k)) (3 * k + 1)) ∧ pi_fs 56 [4] s σ ∧ pi_fr [56, 60, 61] s σ) := by
        intro y4 hry4 hx4
        refine pi_ca 4 (m' := 107) (l' := [some (.ref 56), some (.int (nI 1)), some (.int (nI (3 * j))), none]) (σ' := y4) (pc2 := 29) (l2 := [some (.ref 56), some (.int (nI j)), some (.int (nI (3 * j))), j3, j4]) (t := []) (fun f => rfl) (pi_m_fig1 (n := n1) (k := 3 * j) ((congrFun (hry4 57 (by decide)) 1).trans (hn1)) (by omega) (by omega)) ?_
        rintro _ _ ⟨rfl, rfl⟩
        refine pi_tp (y := z_fg n1 (fun k => σ 58 (40 + k)) (3 * j)) (congrArg (fun (z : Nat → Int32) => z_fg n1 (fun k => z (40 + k)) (3 * j)) ((hry4 58 (by decide)))) ?_
        refine pi_go 6 (pc' := 35) (l' := [some (.ref 56), some (.int (nI j)), some (.int (nI (3 * j))), some (.int (z_fg n1 (fun k => σ 58 (40 + k)) (3 * j))), j4]) (st' := [.int (nI (3 * j) + nI 1), .int (nI 1), .ref 56]) (σ' := y4) (fun f => rfl) ?_
        refine pi_tp (y := nI (3 * j + 1)) (nI_add _ _) ?_
        refine pi_ca 1 (m' := 107) (l' := [some (.ref 56), some (.int (nI 1)), some (.int (nI (3 * j + 1))), none]) (σ' := y4) (pc2 := 38) (l2 := [some (.ref 56), some (.int (nI j)), some (.int (nI (3 * j))), some (.int (z_fg n1 (fun k => σ 58 (40 + k)) (3 * j))), j4]) (t := []) (fun f => rfl) (pi_m_fig1 (n := n1) (k := 3 * j + 1) ((congrFun (hry4 57 (by decide)) 1).trans (hn1)) (by omega) (by omega)) ?_
        rintro _ _ ⟨rfl, rfl⟩
        refine pi_tp (y := z_fg n1 (fun k => σ 58 (40 + k)) (3 * j + 1)) (congrArg (fun (z : Nat → Int32) => z_fg n1 (fun k => z (40 + k)) (3 * j + 1)) ((hry4 58 (by decide)))) ?_
        refine pi_cf 4 (c := nI j = nI 12) (pc' := 46) (l' := [some (.ref 56), some (.int (nI j)), some (.int (nI (3 * j))), some (.int (z_fg n1 (fun k => σ 58 (40 + k)) (3 * j))), some (.int (z_fg n1 (fun k => σ 58 (40 + k)) (3 * j + 1)))]) (st' := []) (σ' := y4) (pc2 := 60) (l2 := [some (.ref 56), some (.int (nI j)), some (.int (nI (3 * j))), some (.int (z_fg n1 (fun k => σ 58 (40 + k)) (3 * j))), some (.int (z_fg n1 (fun k => σ 58 (40 + k)) (3 * j + 1)))]) (st2 := []) (σ2 := y4) (fun f => rfl) (fun zq => absurd ((show nI j = nI 12 ↔ _ from nI_eq (by omega) (by omega)).mp zq) (by omega)) ?_
        refine pi_go 4 (pc' := 52) (l' := [some (.ref 56), some (.int (nI j)), some (.int (nI (3 * j))), some (.int (z_fg n1 (fun k => σ 58 (40 + k)) (3 * j))), some (.int (z_fg n1 (fun k => σ 58 (40 + k)) (3 * j + 1)))]) (st' := [.int (y4 56 2), .int (nI 0), .int (z_fg n1 (fun k => σ 58 (40 + k)) (3 * j))]) (σ' := y4) (fun f => rfl) ?_
        refine pi_tp (y := nI nd) ((hx4.2.2.2 2 (by decide)).trans (hnd)) ?_
        refine pi_ca 3 (m' := 100) (l' := [some (.int (z_fg n1 (fun k => σ 58 (40 + k)) (3 * j))), some (.int (nI 0)), some (.int ((nI nd) - (nI 1)))]) (σ' := y4) (pc2 := 57) (l2 := [some (.ref 56), some (.int (nI j)), some (.int (nI (3 * j))), some (.int (z_fg n1 (fun k => σ 58 (40 + k)) (3 * j))), some (.int (z_fg n1 (fun k => σ 58 (40 + k)) (3 * j + 1)))]) (t := []) (fun f => rfl) (pi_m_in _ _ _) ?_
        rintro _ _ (⟨b2, rfl, rfl⟩ | ⟨b2, rfl, rfl⟩)
        · obtain ⟨aa, ha, hea⟩ := (z_in_iff (by omega)).mp b2
          rw [hea]
          refine pi_cf 1 (c := nI 1 = 0) (pc' := 62) (l' := [some (.ref 56), some (.int (nI j)), some (.int (nI (3 * j))), some (.int (nI aa)), some (.int (z_fg n1 (fun k => σ 58 (40 + k)) (3 * j + 1)))]) (st' := []) (σ' := y4) (pc2 := 60) (l2 := [some (.ref 56), some (.int (nI j)), some (.int (nI (3 * j))), some (.int (nI aa)), some (.int (z_fg n1 (fun k => σ 58 (40 + k)) (3 * j + 1)))]) (st2 := []) (σ2 := y4) (fun f => rfl) (by decide) ?_
          refine pi_go 4 (pc' := 69) (l' := [some (.ref 56), some (.int (nI j)), some (.int (nI (3 * j))), some (.int (nI aa)), some (.int (z_fg n1 (fun k => σ 58 (40 + k)) (3 * j + 1)))]) (st' := [.int (y4 56 2), .int (nI 0), .int (z_fg n1 (fun k => σ 58 (40 + k)) (3 * j + 1))]) (σ' := y4) (fun f => rfl) ?_
          refine pi_tp (y := nI nd) ((hx4.2.2.2 2 (by decide)).trans (hnd)) ?_
          refine pi_ca 3 (m' := 100) (l' := [some (.int (z_fg n1 (fun k => σ 58 (40 + k)) (3 * j + 1))), some (.int (nI 0)), some (.int ((nI nd) - (nI 1)))]) (σ' := y4) (pc2 := 74) (l2 := [some (.ref 56), some (.int (nI j)), some (.int (nI (3 * j))), some (.int (nI aa)), some (.int (z_fg n1 (fun k => σ 58 (40 + k)) (3 * j + 1)))]) (t := []) (fun f => rfl) (pi_m_in _ _ _) ?_
          rintro _ _ (⟨b3, rfl, rfl⟩ | ⟨b3, rfl, rfl⟩)
          · obtain ⟨bb, hb, heb⟩ := (z_in_iff (by omega)).mp b3
            rw [heb]
            refine pi_cf 1 (c := nI 1 = 0) (pc' := 77) (l' := [some (.ref 56), some (.int (nI j)), some (.int (nI (3 * j))), some (.int (nI aa)), some (.int (nI bb))]) (st' := []) (σ' := y4) (pc2 := 93) (l2 := [some (.ref 56), some (.int (nI j)), some (.int (nI (3 * j))), some (.int (nI aa)), some (.int (nI bb))]) (st2 := []) (σ2 := y4) (fun f => rfl) (by decide) ?_
            refine pi_ai 4 (u := bb) (n := 8) (g := y4 59) (pc' := 84) (l' := [some (.ref 56), some (.int (nI j)), some (.int (nI (3 * j))), some (.int (nI aa)), some (.int (nI bb))]) (t := []) (σ' := y4) (fun f => rfl) (by omega) (by omega) ?_
            refine pi_tp (y := σ 59 bb) ((congrFun (hry4 59 (by decide)) bb)) ?_
            refine pi_ai 4 (u := aa) (n := 8) (g := y4 59) (pc' := 90) (l' := [some (.ref 56), some (.int (nI j)), some (.int (nI (3 * j))), some (.int (nI aa)), some (.int (nI bb))]) (t := [.int (σ 59 bb)]) (σ' := y4) (fun f => rfl) (by omega) (by omega) ?_
            refine pi_tp (y := σ 59 aa) ((congrFun (hry4 59 (by decide)) aa)) ?_
            refine pi_if 1 (c := σ 59 bb < σ 59 aa) (pc' := 97) (l' := [some (.ref 56), some (.int (nI j)), some (.int (nI (3 * j))), some (.int (nI aa)), some (.int (nI bb))]) (st' := []) (σ' := y4) (pc2 := 93) (l2 := [some (.ref 56), some (.int (nI j)), some (.int (nI (3 * j))), some (.int (nI aa)), some (.int (nI bb))]) (st2 := []) (σ2 := y4) (fun f => rfl) (fun h4 => ?_) (fun h4 => ?_)
            · refine pi_au 5 (u := j) (n := 12) (a := 60) (x := nI aa) (pc' := 104) (l' := [some (.ref 56), some (.int (nI j)), some (.int (nI (3 * j))), some (.int (nI aa)), some (.int (nI bb))]) (t := []) (σ' := y4) (fun f => rfl) (by omega) (by omega) ?_
              generalize es5 : pi_up y4 60 j (nI aa) = s5
              refine pi_au 5 (u := j) (n := 12) (a := 61) (x := nI bb) (pc' := 112) (l' := [some (.ref 56), some (.int (nI j)), some (.int (nI (3 * j))), some (.int (nI aa)), some (.int (nI bb))]) (t := []) (σ' := s5) (fun f => rfl) (by omega) (by omega) ?_
              generalize es6 : pi_up s5 61 j (nI bb) = s6
              refine pi_go 1 (pc' := 115) (l' := [some (.ref 56), some (.int (nI j + nI 1)), some (.int (nI (3 * j))), some (.int (nI aa)), some (.int (nI bb))]) (st' := []) (σ' := s6) (fun f => rfl) ?_
              rw [show nI j + nI 1 = nI (j + 1) from nI_add _ 1]
              refine pi_go 1 (pc' := 118) (l' := [some (.ref 56), some (.int (nI (j + 1))), some (.int (nI (3 * j) + nI 2)), some (.int (nI aa)), some (.int (nI bb))]) (st' := []) (σ' := s6) (fun f => rfl) ?_
              rw [show nI (3 * j) + nI 2 = nI (3 * j + 2) from nI_add _ 2]
              refine pi_ai 5 (u := 1) (n := 2) (g := s6 57) (pc' := 125) (l' := [some (.ref 56), some (.int (nI (j + 1))), some (.int (nI (3 * j + 2))), some (.int (nI aa)), some (.int (nI bb))]) (t := [.int (nI (3 * j + 2))]) (σ' := s6) (fun f => rfl) (by omega) (by omega) ?_
              refine pi_tp (y := nI n1) ((congrFun ((congrFun es6 57).symm.trans (pi_up_ne _ _ _ (by decide))) 1).trans ((congrFun ((congrFun es5 57).symm.trans (pi_up_ne _ _ _ (by decide))) 1).trans ((congrFun (hry4 57 (by decide)) 1).trans (hn1)))) ?_
              refine pi_if 1 (c := nI (3 * j + 2) = nI n1) (pc' := 128) (l' := [some (.ref 56), some (.int (nI (j + 1))), some (.int (nI (3 * j + 2))), some (.int (nI aa)), some (.int (nI bb))]) (st' := []) (σ' := s6) (pc2 := 135) (l2 := [some (.ref 56), some (.int (nI (j + 1))), some (.int (nI (3 * j + 2))), some (.int (nI aa)), some (.int (nI bb))]) (st2 := []) (σ2 := s6) (fun f => rfl) (fun h5 => ?_) (fun h5 => ?_)
              · replace h5 : (3 * j + 2) = n1 := (nI_eq (by omega) (by omega)).mp h5
                refine pi_go 3 (pc' := 133) (l' := [some (.ref 56), some (.int (nI (j + 1))), some (.int (nI (3 * j + 2))), some (.int (nI aa)), some (.int (nI bb))]) (st' := []) (σ' := (pi_up s6 56 4 (nI (j + 1)))) (fun f => rfl) ?_
                generalize es7 : pi_up s6 56 4 (nI (j + 1)) = s7
                refine pi_rt 2 (v := some (.int (-1))) (σ' := s7) (fun f => rfl) ?_
                obtain ⟨rfl, rfl⟩ := z_sr_at hz hn1p (J := j) (by omega) hx4.2.1 (Or.inr (Or.inr (Or.inl ⟨by omega, ⟨aa, bb, ha, hb, hea, heb, h4⟩, h5, rfl, rfl⟩)))
                exact ⟨rfl, (congrFun (congrFun es7 56) 4).symm.trans (pi_up_ss _ _ _ _), lt_s (fun q hq => ⟨(congrFun ((congrFun es7 60).symm.trans ((pi_up_ne _ _ _ (by decide)).trans ((congrFun es6 60).symm.trans ((pi_up_ne _ _ _ (by decide)).trans ((congrFun es5 60).symm.trans ((pi_up_self _ _ _ _))))))) q).trans ((if_neg (by omega)).trans (hx4.2.2.1 q hq).1), (congrFun ((congrFun es7 61).symm.trans ((pi_up_ne _ _ _ (by decide)).trans ((congrFun es6 61).symm.trans ((pi_up_self _ _ _ _).trans (congrArg (fun z => upd z j (nI bb)) ((congrFun es5 61).symm.trans ((pi_up_ne _ _ _ (by decide))))))))) q).trans ((if_neg (by omega)).trans (hx4.2.2.1 q hq).2)⟩) ⟨(congrFun ((congrFun es7 60).symm.trans ((pi_up_ne _ _ _ (by decide)).trans ((congrFun es6 60).symm.trans ((pi_up_ne _ _ _ (by decide)).trans ((congrFun es5 60).symm.trans ((pi_up_self _ _ _ _))))))) j).trans ((if_pos rfl).trans hea.symm), (congrFun ((congrFun es7 61).symm.trans ((pi_up_ne _ _ _ (by decide)).trans ((congrFun es6 61).symm.trans ((pi_up_self _ _ _ _).trans (congrArg (fun z => upd z j (nI bb)) ((congrFun es5 61).symm.trans ((pi_up_ne _ _ _ (by decide))))))))) j).trans ((if_pos rfl).trans heb.symm)⟩, pi_fs_up es7 (by decide) (pi_fs_ne es6 (by decide) (pi_fs_ne es5 (by decide) (pi_fs_ca (hx4.2.2.2) (by decide) (pi_fs_rf)))), pi_fr_of es7 (by decide) (pi_fr_of es6 (by decide) (pi_fr_of es5 (by decide) (pi_fr_tr hry4 (by decide) (pi_fr_rf))))⟩
              · replace h5 : ¬ ((3 * j + 2) = n1) := fun zq => h5 ((nI_eq (by omega) (by omega)).mpr zq)
                refine pi_go 5 (pc' := 143) (l' := [some (.ref 56), some (.int (nI (j + 1))), some (.int (nI (3 * j + 2))), some (.int (nI aa)), some (.int (nI bb))]) (st' := [.int (nI 40 + nI (3 * j + 2)), .ref 58]) (σ' := s6) (fun f => rfl) ?_
                refine pi_tp (y := nI (40 + (3 * j + 2))) (nI_add _ _) ?_
                refine pi_ai 1 (u := 40 + (3 * j + 2)) (n := 80) (g := s6 58) (pc' := 144) (l' := [some (.ref 56), some (.int (nI (j + 1))), some (.int (nI (3 * j + 2))), some (.int (nI aa)), some (.int (nI bb))]) (t := []) (σ' := s6) (fun f => rfl) (by omega) (by omega) ?_
                refine pi_tp (y := σ 58 (40 + (3 * j + 2))) ((congrFun ((congrFun es6 58).symm.trans (pi_up_ne _ _ _ (by decide))) (40 + (3 * j + 2))).trans ((congrFun ((congrFun es5 58).symm.trans (pi_up_ne _ _ _ (by decide))) (40 + (3 * j + 2))).trans ((congrFun (hry4 58 (by decide)) (40 + (3 * j + 2)))))) ?_
                refine pi_if 2 (c := σ 58 (40 + (3 * j + 2)) = nI 59) (pc' := 151) (l' := [some (.ref 56), some (.int (nI (j + 1))), some (.int (nI (3 * j + 2))), some (.int (nI aa)), some (.int (nI bb))]) (st' := []) (σ' := s6) (pc2 := 149) (l2 := [some (.ref 56), some (.int (nI (j + 1))), some (.int (nI (3 * j + 2))), some (.int (nI aa)), some (.int (nI bb))]) (st2 := []) (σ2 := s6) (fun f => rfl) (fun h6 => ?_) (fun h6 => ?_)
                · refine pi_go 1 (pc' := 154) (l' := [some (.ref 56), some (.int (nI (j + 1))), some (.int (nI (3 * j + 2) + nI 1)), some (.int (nI aa)), some (.int (nI bb))]) (st' := []) (σ' := s6) (fun f => rfl) ?_
                  rw [show nI (3 * j + 2) + nI 1 = nI (3 * j + 2 + 1) from nI_add _ 1]
                  refine pi_go 1 (pc' := 9) (l' := [some (.ref 56), some (.int (nI (j + 1))), some (.int (nI (3 * j + 2 + 1))), some (.int (nI aa)), some (.int (nI bb))]) (st' := []) (σ' := s6) (fun f => rfl) ?_
                  rw [show 3 * j + 2 + 1 = 3 * (j + 1) by omega]
                  exact ih2 _ _ _ (pi_fr_of es6 (by decide) (pi_fr_of es5 (by decide) (pi_fr_tr hry4 (by decide) (pi_fr_rf)))) (⟨(congrFun ((congrFun es6 56).symm.trans (pi_up_ne _ _ _ (by decide))) 4).trans ((congrFun ((congrFun es5 56).symm.trans (pi_up_ne _ _ _ (by decide))) 4).trans (hx4.1)), lt_s hx4.2.1 ⟨⟨aa, bb, ha, hb, hea, heb, h4⟩, h5, h6⟩, lt_s (fun q hq => ⟨(congrFun ((congrFun es6 60).symm.trans ((pi_up_ne _ _ _ (by decide)).trans ((congrFun es5 60).symm.trans ((pi_up_self _ _ _ _))))) q).trans ((if_neg (by omega)).trans (hx4.2.2.1 q hq).1), (congrFun ((congrFun es6 61).symm.trans ((pi_up_self _ _ _ _).trans (congrArg (fun z => upd z j (nI bb)) ((congrFun es5 61).symm.trans ((pi_up_ne _ _ _ (by decide))))))) q).trans ((if_neg (by omega)).trans (hx4.2.2.1 q hq).2)⟩) ⟨(congrFun ((congrFun es6 60).symm.trans ((pi_up_ne _ _ _ (by decide)).trans ((congrFun es5 60).symm.trans ((pi_up_self _ _ _ _))))) j).trans ((if_pos rfl).trans hea.symm), (congrFun ((congrFun es6 61).symm.trans ((pi_up_self _ _ _ _).trans (congrArg (fun z => upd z j (nI bb)) ((congrFun es5 61).symm.trans ((pi_up_ne _ _ _ (by decide))))))) j).trans ((if_pos rfl).trans heb.symm)⟩, pi_fs_ne es6 (by decide) (pi_fs_ne es5 (by decide) (pi_fs_ca (hx4.2.2.2) (by decide) (pi_fs_rf)))⟩)
                · refine pi_rt 2 (v := some (.int (nI (3 * j + 2)))) (σ' := s6) (fun f => rfl) ?_
                  obtain ⟨rfl, rfl⟩ := z_sr_at hz hn1p (J := j) (by omega) hx4.2.1 (Or.inr (Or.inr (Or.inr ⟨by omega, ⟨aa, bb, ha, hb, hea, heb, h4⟩, h5, h6, rfl, rfl⟩)))
                  exact ⟨rfl, (congrFun ((congrFun es6 56).symm.trans (pi_up_ne _ _ _ (by decide))) 4).trans ((congrFun ((congrFun es5 56).symm.trans (pi_up_ne _ _ _ (by decide))) 4).trans (hx4.1)), fun k hk => absurd hk (Nat.not_lt_zero k), pi_fs_ne es6 (by decide) (pi_fs_ne es5 (by decide) (pi_fs_ca (hx4.2.2.2) (by decide) (pi_fs_rf))), pi_fr_of es6 (by decide) (pi_fr_of es5 (by decide) (pi_fr_tr hry4 (by decide) (pi_fr_rf)))⟩
            · refine pi_go 3 (pc' := 96) (l' := [some (.ref 56), some (.int (nI j)), some (.int (nI (3 * j))), some (.int (nI aa)), some (.int (nI bb))]) (st' := [.int (nI (3 * j) + nI 1)]) (σ' := y4) (fun f => rfl) ?_
              refine pi_tp (y := nI (3 * j + 1)) (nI_add _ _) ?_
              refine pi_rt 1 (v := some (.int (nI (3 * j + 1)))) (σ' := y4) (fun f => rfl) ?_
              obtain ⟨rfl, rfl⟩ := z_sr_at hz hn1p (J := j) (by omega) hx4.2.1 (Or.inr (Or.inl ⟨by omega, ⟨aa, ha, hea⟩, fun ⟨a, b, q1, q2, q3, q4, q5⟩ => h4 (by rw [(nI_eq (by omega) (by omega)).mp (hea.symm.trans q3), (nI_eq (by omega) (by omega)).mp (heb.symm.trans q4)]; exact q5), rfl, rfl⟩))
              exact ⟨rfl, hx4.1, fun k hk => absurd hk (Nat.not_lt_zero k), pi_fs_ca (hx4.2.2.2) (by decide) (pi_fs_rf), pi_fr_tr hry4 (by decide) (pi_fr_rf)⟩
          · refine pi_ct 1 (c := nI 0 = 0) (pc' := 93) (l' := [some (.ref 56), some (.int (nI j)), some (.int (nI (3 * j))), some (.int (nI aa)), some (.int (z_fg n1 (fun k => σ 58 (40 + k)) (3 * j + 1)))]) (st' := []) (σ' := y4) (pc2 := 77) (l2 := [some (.ref 56), some (.int (nI j)), some (.int (nI (3 * j))), some (.int (nI aa)), some (.int (z_fg n1 (fun k => σ 58 (40 + k)) (3 * j + 1)))]) (st2 := []) (σ2 := y4) (fun f => rfl) (by decide) ?_
            refine pi_go 3 (pc' := 96) (l' := [some (.ref 56), some (.int (nI j)), some (.int (nI (3 * j))), some (.int (nI aa)), some (.int (z_fg n1 (fun k => σ 58 (40 + k)) (3 * j + 1)))]) (st' := [.int (nI (3 * j) + nI 1)]) (σ' := y4) (fun f => rfl) ?_
            refine pi_tp (y := nI (3 * j + 1)) (nI_add _ _) ?_
            refine pi_rt 1 (v := some (.int (nI (3 * j + 1)))) (σ' := y4) (fun f => rfl) ?_
            obtain ⟨rfl, rfl⟩ := z_sr_at hz hn1p (J := j) (by omega) hx4.2.1 (Or.inr (Or.inl ⟨by omega, ⟨aa, ha, hea⟩, fun ⟨a, b, q1, q2, q3, q4, q5⟩ => b3 ((z_in_iff (by omega)).mpr ⟨b, q2, q4⟩), rfl, rfl⟩))
            exact ⟨rfl, hx4.1, fun k hk => absurd hk (Nat.not_lt_zero k), pi_fs_ca (hx4.2.2.2) (by decide) (pi_fs_rf), pi_fr_tr hry4 (by decide) (pi_fr_rf)⟩
        · refine pi_ct 1 (c := nI 0 = 0) (pc' := 60) (l' := [some (.ref 56), some (.int (nI j)), some (.int (nI (3 * j))), some (.int (z_fg n1 (fun k => σ 58 (40 + k)) (3 * j))), some (.int (z_fg n1 (fun k => σ 58 (40 + k)) (3 * j + 1)))]) (st' := []) (σ' := y4) (pc2 := 62) (l2 := [some (.ref 56), some (.int (nI j)), some (.int (nI (3 * j))), some (.int (z_fg n1 (fun k => σ 58 (40 + k)) (3 * j))), some (.int (z_fg n1 (fun k => σ 58 (40 + k)) (3 * j + 1)))]) (st2 := []) (σ2 := y4) (fun f => rfl) (by decide) ?_
          refine pi_rt 2 (v := some (.int (nI (3 * j)))) (σ' := y4) (fun f => rfl) ?_
          obtain ⟨rfl, rfl⟩ := z_sr_at hz hn1p (J := j) (by omega) hx4.2.1 (Or.inl ⟨Or.inr (fun ⟨a, q1, q2⟩ => b2 ((z_in_iff (by omega)).mpr ⟨a, q1, q2⟩)), rfl, rfl⟩)
          exact ⟨rfl, hx4.1, fun k hk => absurd hk (Nat.not_lt_zero k), pi_fs_ca (hx4.2.2.2) (by decide) (pi_fs_rf), pi_fr_tr hry4 (by decide) (pi_fr_rf)⟩
      refine pi_ai 5 (u := 1) (n := 2) (g := z2 57) (pc' := 16) (l' := [some (.ref 56), some (.int (nI j)), some (.int (nI (3 * j))), j3, j4]) (t := [.int (nI (3 * j))]) (σ' := z2) (fun f => rfl) (by omega) (by omega) ?_
      refine pi_tp (y := nI n1) ((congrFun (hrz2 57 (by decide)) 1).trans (hn1)) ?_
      refine pi_if 1 (c := nI (3 * j) < nI n1) (pc' := 23) (l' := [some (.ref 56), some (.int (nI j)), some (.int (nI (3 * j))), j3, j4]) (st' := []) (σ' := z2) (pc2 := 19) (l2 := [some (.ref 56), some (.int (nI j)), some (.int (nI (3 * j))), j3, j4]) (st2 := []) (σ2 := z2) (fun f => rfl) (fun h7 => ?_) (fun h7 => ?_)
      · replace h7 : (3 * j) < n1 := (nI_ltI (by omega) (by omega)).mp h7
        exact hj4 _ (pi_fr_tr hrz2 (by decide) (pi_fr_rf)) (hx2)
      · replace h7 : ¬ ((3 * j) < n1) := fun zq => h7 ((nI_ltI (by omega) (by omega)).mpr zq)
        refine pi_if 2 (c := nI (3 * j) ≤ 0) (pc' := 157) (l' := [some (.ref 56), some (.int (nI j)), some (.int (nI (3 * j))), j3, j4]) (st' := []) (σ' := z2) (pc2 := 23) (l2 := [some (.ref 56), some (.int (nI j)), some (.int (nI (3 * j))), j3, j4]) (st2 := []) (σ2 := z2) (fun f => rfl) (fun h8 => ?_) (fun h8 => ?_)
        · replace h8 : (3 * j) ≤ 0 := (show nI (3 * j) ≤ nI 0 ↔ _ from nI_leI (by omega) (by omega)).mp h8
          refine pi_rt 2 (v := some (.int (-1))) (σ' := z2) (fun f => rfl) ?_
          exfalso
          omega
        · replace h8 : ¬ ((3 * j) ≤ 0) := fun zq => h8 ((show nI (3 * j) ≤ nI 0 ↔ _ from nI_leI (by omega) (by omega)).mpr zq)
          exact hj4 _ (pi_fr_tr hrz2 (by decide) (pi_fr_rf)) (hx2)
  · have hn10 : n1 = 0 := by omega
    subst hn10
    refine pi_ai 5 (u := 1) (n := 2) (g := s1 57) (pc' := 16) (l' := [some (.ref 56), some (.int (nI 0)), some (.int (nI 0)), none, none]) (t := [.int (nI 0)]) (σ' := s1) (fun f => rfl) (by omega) (by omega) ?_
    refine pi_tp (y := nI 0) ((congrFun ((congrFun es1 57).symm.trans (pi_up_ne _ _ _ (by decide))) 1).trans (hn1)) ?_
    refine pi_cf 1 (c := nI 0 < nI 0) (pc' := 19) (l' := [some (.ref 56), some (.int (nI 0)), some (.int (nI 0)), none, none]) (st' := []) (σ' := s1) (pc2 := 23) (l2 := [some (.ref 56), some (.int (nI 0)), some (.int (nI 0)), none, none]) (st2 := []) (σ2 := s1) (fun f => rfl) (by decide) ?_
    refine pi_ct 2 (c := nI 0 ≤ 0) (pc' := 157) (l' := [some (.ref 56), some (.int (nI 0)), some (.int (nI 0)), none, none]) (st' := []) (σ' := s1) (pc2 := 23) (l2 := [some (.ref 56), some (.int (nI 0)), some (.int (nI 0)), none, none]) (st2 := []) (σ2 := s1) (fun f => rfl) (by decide) ?_
    refine pi_rt 2 (v := some (.int (-1))) (σ' := s1) (fun f => rfl) ?_
    rcases hz with ⟨-, rfl, rfl⟩ | ⟨hz, -⟩
    · exact ⟨rfl, (congrFun (congrFun es1 56) 4).symm.trans (pi_up_ss _ _ _ _), fun k hk => absurd hk (Nat.not_lt_zero k), pi_fs_up es1 (by decide) (pi_fs_rf), pi_fr_of es1 (by decide) (pi_fr_rf)⟩
    · omega
