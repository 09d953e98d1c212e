def z_B (n : Nat) (a : Int32) : Prop := ∃ k, k < n ∧ a = nI k
def z_B1 (n : Nat) (a : Int32) : Prop := a = -1 ∨ z_B n a
def z_P (n : Nat) (a : Int32) : Prop := ∃ k, 1 ≤ k ∧ k ≤ n ∧ a = nI k
theorem z_B_in {a : Int32} {c : Nat} (hc : c < 2 ^ 30) : (nI 0 ≤ a ∧ a ≤ nI c) ↔ z_B (c + 1) a := by
  constructor
  · rintro ⟨h1, h2⟩
    obtain ⟨j, hj, e⟩ := nI_of2 (x := a) (M := nI c) (n := c) (nI_toInt (by omega)) (fun q => Int32.not_lt.mpr h1 q) h2
    exact ⟨j, by omega, e⟩
  · rintro ⟨k, hk, rfl⟩
    exact ⟨(nI_leI (by omega) (by omega)).mpr (by omega), (nI_leI (by omega) (by omega)).mpr (by omega)⟩
theorem z_B1_in {a : Int32} {c : Nat} (hc : c < 2 ^ 30) : (-1 ≤ a ∧ a ≤ nI c) ↔ z_B1 (c + 1) a := by
  have hm : (-1 : Int32).toInt = -1 := by decide
  constructor
  · rintro ⟨h1, h2⟩
    by_cases q : a = -1
    · exact Or.inl q
    · refine Or.inr ((z_B_in hc).mp ⟨?_, h2⟩)
      rw [Int32.le_iff_toInt_le] at h1 ⊢
      have h3 : a.toInt ≠ -1 := fun e => q (Int32.toInt_inj.mp (e.trans hm.symm))
      rw [nI_toInt (by omega)]
      omega
  · rintro (rfl | h)
    · refine ⟨Int32.le_refl _, ?_⟩
      rw [Int32.le_iff_toInt_le, nI_toInt (by omega)]
      omega
    · have q := (z_B_in hc).mpr h
      refine ⟨?_, q.2⟩
      have q1 := q.1
      rw [Int32.le_iff_toInt_le, nI_toInt (by omega)] at q1
      rw [Int32.le_iff_toInt_le]
      omega
theorem z_P_in {a : Int32} {c : Nat} (hc : c < 2 ^ 30) : (nI 1 ≤ a ∧ a ≤ nI c) ↔ z_P c a := by
  constructor
  · rintro ⟨h1, h2⟩
    have h0 : nI 0 ≤ a := Int32.le_trans ((nI_leI (by omega) (by omega)).mpr (by omega)) h1
    obtain ⟨j, hj, e⟩ := (z_B_in hc).mp ⟨h0, h2⟩
    refine ⟨j, ?_, by omega, e⟩
    rw [e] at h1
    exact (nI_leI (by omega) (by omega)).mp h1
  · rintro ⟨k, h1, hk, rfl⟩
    exact ⟨(nI_leI (by omega) (by omega)).mpr (by omega), (nI_leI (by omega) (by omega)).mpr (by omega)⟩
theorem pi_M_inT {xs : Nat → Int32} {L d : Nat} {σ : pi_S} {a b c : Int32} (h : b ≤ a ∧ a ≤ c) : pi_wp xs L d 100 0 [some (.int a), some (.int b), some (.int c)] [] σ (fun v s => v = some (.int (nI 1)) ∧ σ = s) :=
  pi_mo (fun v s q => q.elim (fun q => q.2) (fun q => absurd h q.1)) (pi_m_in a b c)
theorem pi_M_inB {xs : Nat → Int32} {L d : Nat} {σ : pi_S} {a b c : Int32} {p : Prop} (h : (b ≤ a ∧ a ≤ c) ↔ p) : pi_wp xs L d 100 0 [some (.int a), some (.int b), some (.int c)] [] σ (fun v s => (p ∧ v = some (.int (nI 1)) ∧ σ = s) ∨ (¬ p ∧ v = some (.int (nI 0)) ∧ σ = s)) :=
  pi_mo (fun v s q => q.elim (fun q => Or.inl ⟨h.mp q.1, q.2⟩) (fun q => Or.inr ⟨fun z => q.1 (h.mpr z), q.2⟩)) (pi_m_in a b c)
set_option maxRecDepth 20000 in
theorem pi_M_isDoor {xs : Nat → Int32} {L d : Nat} {W : zW} {σ : pi_S} (hm : z_MR W σ) (a : Int32)  : pi_wp xs L (d + 5) 113 0 [some (.ref 56), some (.int a)] [] σ (fun v s => (z_B W.nd a ∧ v = some (.int (nI 1)) ∧ z_MT W s ∧ pi_fr z_RC s σ) ∨ (¬ z_B W.nd a ∧ v = some (.int (nI 0)) ∧ z_MT W s ∧ pi_fr z_RC s σ)) := by
  have hk := hm.wk
  have hnd8 := hk.wd.nd8
  have hns12 := hk.wd.ns12
  have hn60 := hk.nine
  have hnf := hk.nf
  have hnw := hk.nw
  have hnc := hk.nc
  have hn08 := hk.wd.n0
  have hn140 := hk.wd.n1
  refine pi_ca 2 (m' := 111) (l' := [some (.ref 56), none]) (σ' := σ) (pc2 := 4) (l2 := [some (.ref 56), some (.int a)]) (t := []) (fun f => rfl) (pi_M_reads hm ) ?_
  rintro _ t1 ⟨rfl, gt1, rt1⟩
  refine pi_go 4 (pc' := 10) (l' := [some (.ref 56), some (.int a)]) (st' := [.int (t1 56 2), .int (nI 0), .int a]) (σ' := t1) (fun f => rfl) ?_
  refine pi_tp (y := nI W.nd) (gt1.d2) ?_
  refine pi_ca 3 (m' := 100) (l' := [some (.int a), some (.int (nI 0)), some (.int ((nI W.nd) - (nI 1)))]) (σ' := t1) (pc2 := 15) (l2 := [some (.ref 56), some (.int a)]) (t := []) (fun f => rfl) (pi_m_in _ _ _) ?_
  rintro _ _ (⟨b1, rfl, rfl⟩ | ⟨b1, rfl, rfl⟩)
  · refine pi_rb 1 (c := (nI 1) &&& 1 = nI 1) (v := some (.int (nI 1))) (σ' := t1) (fun f => rfl) (by decide) ?_
    exact Or.inl ⟨(z_in_iff (by omega)).mp b1, rfl, gt1, pi_fr_t2 rt1 (pi_fr_rf)⟩
  · refine pi_rb 1 (c := (nI 0) &&& 1 = nI 0) (v := some (.int (nI 0))) (σ' := t1) (fun f => rfl) (by decide) ?_
    exact Or.inr ⟨fun q => b1 ((z_in_iff (by omega)).mpr q), rfl, gt1, pi_fr_t2 rt1 (pi_fr_rf)⟩
theorem pi_M_isDoorT {xs : Nat → Int32} {L d : Nat} {W : zW} {σ : pi_S} (hm : z_MR W σ) {a : Int32} (h : z_B W.nd a) : pi_wp xs L (d + 5) 113 0 [some (.ref 56), some (.int a)] [] σ (fun v s => v = some (.int (nI 1)) ∧ z_MT W s ∧ pi_fr z_RC s σ) :=
  pi_mo (fun v s q => q.elim (fun q => q.2) (fun q => absurd h q.1)) (pi_M_isDoor hm a)
set_option maxRecDepth 20000 in
theorem pi_M_isStreet {xs : Nat → Int32} {L d : Nat} {W : zW} {σ : pi_S} (hm : z_MR W σ) (a : Int32)  : pi_wp xs L (d + 5) 114 0 [some (.ref 56), some (.int a)] [] σ (fun v s => (z_B W.ns a ∧ v = some (.int (nI 1)) ∧ z_MT W s ∧ pi_fr z_RC s σ) ∨ (¬ z_B W.ns a ∧ v = some (.int (nI 0)) ∧ z_MT W s ∧ pi_fr z_RC s σ)) := by
  have hk := hm.wk
  have hnd8 := hk.wd.nd8
  have hns12 := hk.wd.ns12
  have hn60 := hk.nine
  have hnf := hk.nf
  have hnw := hk.nw
  have hnc := hk.nc
  have hn08 := hk.wd.n0
  have hn140 := hk.wd.n1
  refine pi_ca 2 (m' := 111) (l' := [some (.ref 56), none]) (σ' := σ) (pc2 := 4) (l2 := [some (.ref 56), some (.int a)]) (t := []) (fun f => rfl) (pi_M_reads hm ) ?_
  rintro _ t1 ⟨rfl, gt1, rt1⟩
  refine pi_go 4 (pc' := 10) (l' := [some (.ref 56), some (.int a)]) (st' := [.int (t1 56 4), .int (nI 0), .int a]) (σ' := t1) (fun f => rfl) ?_
  refine pi_tp (y := nI W.ns) (gt1.d4) ?_
  refine pi_ca 3 (m' := 100) (l' := [some (.int a), some (.int (nI 0)), some (.int ((nI W.ns) - (nI 1)))]) (σ' := t1) (pc2 := 15) (l2 := [some (.ref 56), some (.int a)]) (t := []) (fun f => rfl) (pi_m_in _ _ _) ?_
  rintro _ _ (⟨b1, rfl, rfl⟩ | ⟨b1, rfl, rfl⟩)
  · refine pi_rb 1 (c := (nI 1) &&& 1 = nI 1) (v := some (.int (nI 1))) (σ' := t1) (fun f => rfl) (by decide) ?_
    exact Or.inl ⟨(z_in_iff (by omega)).mp b1, rfl, gt1, pi_fr_t2 rt1 (pi_fr_rf)⟩
  · refine pi_rb 1 (c := (nI 0) &&& 1 = nI 0) (v := some (.int (nI 0))) (σ' := t1) (fun f => rfl) (by decide) ?_
    exact Or.inr ⟨fun q => b1 ((z_in_iff (by omega)).mpr q), rfl, gt1, pi_fr_t2 rt1 (pi_fr_rf)⟩
theorem pi_M_isStreetT {xs : Nat → Int32} {L d : Nat} {W : zW} {σ : pi_S} (hm : z_MR W σ) {a : Int32} (h : z_B W.ns a) : pi_wp xs L (d + 5) 114 0 [some (.ref 56), some (.int a)] [] σ (fun v s => v = some (.int (nI 1)) ∧ z_MT W s ∧ pi_fr z_RC s σ) :=
  pi_mo (fun v s q => q.elim (fun q => q.2) (fun q => absurd h q.1)) (pi_M_isStreet hm a)
set_option maxRecDepth 20000 in
theorem pi_M_isMinute {xs : Nat → Int32} {L d : Nat} {σ : pi_S} (a : Int32)  : pi_wp xs L (d + 1) 115 0 [some (.int a)] [] σ (fun v s => (z_B 60 a ∧ v = some (.int (nI 1)) ∧ σ = s) ∨ (¬ z_B 60 a ∧ v = some (.int (nI 0)) ∧ σ = s)) := by
  refine pi_ca 4 (m' := 100) (l' := [some (.int a), some (.int (nI 0)), some (.int (nI 59))]) (σ' := σ) (pc2 := 7) (l2 := [some (.int a)]) (t := []) (fun f => rfl) (pi_M_inB (p := z_B 60 a) (z_B_in (by omega))) ?_
  rintro _ _ (⟨b1, rfl, rfl⟩ | ⟨b1, rfl, rfl⟩)
  · refine pi_rb 1 (c := (nI 1) &&& 1 = nI 1) (v := some (.int (nI 1))) (σ' := σ) (fun f => rfl) (by decide) ?_
    exact Or.inl ⟨b1, rfl, rfl⟩
  · refine pi_rb 1 (c := (nI 0) &&& 1 = nI 0) (v := some (.int (nI 0))) (σ' := σ) (fun f => rfl) (by decide) ?_
    exact Or.inr ⟨b1, rfl, rfl⟩
theorem pi_M_isMinuteT {xs : Nat → Int32} {L d : Nat} {σ : pi_S} {a : Int32} (h : z_B 60 a) : pi_wp xs L (d + 1) 115 0 [some (.int a)] [] σ (fun v s => v = some (.int (nI 1)) ∧ σ = s) :=
  pi_mo (fun v s q => q.elim (fun q => q.2) (fun q => absurd h q.1)) (pi_M_isMinute a)
set_option maxRecDepth 20000 in
theorem pi_M_isEight {xs : Nat → Int32} {L d : Nat} {σ : pi_S} (a : Int32)  : pi_wp xs L (d + 1) 116 0 [some (.int a)] [] σ (fun v s => (z_B 8 a ∧ v = some (.int (nI 1)) ∧ σ = s) ∨ (¬ z_B 8 a ∧ v = some (.int (nI 0)) ∧ σ = s)) := by
  refine pi_ca 4 (m' := 100) (l' := [some (.int a), some (.int (nI 0)), some (.int (nI 7))]) (σ' := σ) (pc2 := 7) (l2 := [some (.int a)]) (t := []) (fun f => rfl) (pi_M_inB (p := z_B 8 a) (z_B_in (by omega))) ?_
  rintro _ _ (⟨b1, rfl, rfl⟩ | ⟨b1, rfl, rfl⟩)
  · refine pi_rb 1 (c := (nI 1) &&& 1 = nI 1) (v := some (.int (nI 1))) (σ' := σ) (fun f => rfl) (by decide) ?_
    exact Or.inl ⟨b1, rfl, rfl⟩
  · refine pi_rb 1 (c := (nI 0) &&& 1 = nI 0) (v := some (.int (nI 0))) (σ' := σ) (fun f => rfl) (by decide) ?_
    exact Or.inr ⟨b1, rfl, rfl⟩
theorem pi_M_isEightT {xs : Nat → Int32} {L d : Nat} {σ : pi_S} {a : Int32} (h : z_B 8 a) : pi_wp xs L (d + 1) 116 0 [some (.int a)] [] σ (fun v s => v = some (.int (nI 1)) ∧ σ = s) :=
  pi_mo (fun v s q => q.elim (fun q => q.2) (fun q => absurd h q.1)) (pi_M_isEight a)
set_option maxRecDepth 20000 in
theorem pi_M_isSheet {xs : Nat → Int32} {L d : Nat} {σ : pi_S} (a : Int32)  : pi_wp xs L (d + 1) 163 0 [some (.int a)] [] σ (fun v s => (z_B 4 a ∧ v = some (.int (nI 1)) ∧ σ = s) ∨ (¬ z_B 4 a ∧ v = some (.int (nI 0)) ∧ σ = s)) := by
  refine pi_ca 4 (m' := 100) (l' := [some (.int a), some (.int (nI 0)), some (.int (nI 3))]) (σ' := σ) (pc2 := 6) (l2 := [some (.int a)]) (t := []) (fun f => rfl) (pi_M_inB (p := z_B 4 a) (z_B_in (by omega))) ?_
  rintro _ _ (⟨b1, rfl, rfl⟩ | ⟨b1, rfl, rfl⟩)
  · refine pi_rb 1 (c := (nI 1) &&& 1 = nI 1) (v := some (.int (nI 1))) (σ' := σ) (fun f => rfl) (by decide) ?_
    exact Or.inl ⟨b1, rfl, rfl⟩
  · refine pi_rb 1 (c := (nI 0) &&& 1 = nI 0) (v := some (.int (nI 0))) (σ' := σ) (fun f => rfl) (by decide) ?_
    exact Or.inr ⟨b1, rfl, rfl⟩
theorem pi_M_isSheetT {xs : Nat → Int32} {L d : Nat} {σ : pi_S} {a : Int32} (h : z_B 4 a) : pi_wp xs L (d + 1) 163 0 [some (.int a)] [] σ (fun v s => v = some (.int (nI 1)) ∧ σ = s) :=
  pi_mo (fun v s q => q.elim (fun q => q.2) (fun q => absurd h q.1)) (pi_M_isSheet a)
set_option maxRecDepth 20000 in
theorem pi_P_fault_bad {xs : Nat → Int32} {L d : Nat} {W : zW} {σ : pi_S} (hm : z_MR W σ) {a : Int32} (hb : ¬ (z_B 2 a))  : pi_wp xs L (d + 9) 112 0 [some (.ref 56), some (.int a)] [] σ (fun v s => v = some (.int (-2)) ∧ z_MR W s ∧ pi_fr z_RC s σ) := by
  have hk := hm.wk
  have hnd8 := hk.wd.nd8
  have hns12 := hk.wd.ns12
  have hn60 := hk.nine
  have hnf := hk.nf
  have hnw := hk.nw
  have hnc := hk.nc
  have hn08 := hk.wd.n0
  have hn140 := hk.wd.n1
  refine pi_ca 4 (m' := 100) (l' := [some (.int a), some (.int (nI 0)), some (.int (nI 1))]) (σ' := σ) (pc2 := 6) (l2 := [some (.ref 56), some (.int a)]) (t := []) (fun f => rfl) (pi_M_inB (p := z_B 2 a) (z_B_in (by omega))) ?_
  rintro _ _ (⟨b1, rfl, rfl⟩ | ⟨b1, rfl, rfl⟩)
  · refine pi_cf 1 (c := nI 1 = 0) (pc' := 9) (l' := [some (.ref 56), some (.int a)]) (st' := []) (σ' := σ) (pc2 := 17) (l2 := [some (.ref 56), some (.int a)]) (st2 := []) (σ2 := σ) (fun f => rfl) (by decide) ?_
    exact (hb b1).elim
  · refine pi_ct 1 (c := nI 0 = 0) (pc' := 17) (l' := [some (.ref 56), some (.int a)]) (st' := []) (σ' := σ) (pc2 := 9) (l2 := [some (.ref 56), some (.int a)]) (st2 := []) (σ2 := σ) (fun f => rfl) (by decide) ?_
    refine pi_rt 2 (v := some (.int (-2))) (σ' := σ) (fun f => rfl) ?_
    exact ⟨rfl, hm, pi_fr_rf⟩
set_option maxRecDepth 20000 in
theorem pi_P_fault0 {xs : Nat → Int32} {L d : Nat} {W : zW} {σ : pi_S} (hm : z_MR W σ)   : pi_wp xs L (d + 9) 112 0 [some (.ref 56), some (.int (nI 0))] [] σ (fun v s => v = some (.int (W.f0)) ∧ z_MR W s ∧ pi_fr z_RC s σ) := by
  have hk := hm.wk
  have hnd8 := hk.wd.nd8
  have hns12 := hk.wd.ns12
  have hn60 := hk.nine
  have hnf := hk.nf
  have hnw := hk.nw
  have hnc := hk.nc
  have hn08 := hk.wd.n0
  have hn140 := hk.wd.n1
  refine pi_ca 4 (m' := 100) (l' := [some (.int (nI 0)), some (.int (nI 0)), some (.int (nI 1))]) (σ' := σ) (pc2 := 6) (l2 := [some (.ref 56), some (.int (nI 0))]) (t := []) (fun f => rfl) (pi_M_inT ((z_B_in (by omega)).mpr (⟨_, by omega, rfl⟩))) ?_
  rintro _ _ ⟨rfl, rfl⟩
  refine pi_cf 1 (c := nI 1 = 0) (pc' := 9) (l' := [some (.ref 56), some (.int (nI 0))]) (st' := []) (σ' := σ) (pc2 := 17) (l2 := [some (.ref 56), some (.int (nI 0))]) (st2 := []) (σ2 := σ) (fun f => rfl) (by decide) ?_
  refine pi_ca 3 (m' := 110) (l' := [some (.ref 56), some (.int (nI 0)), none, none]) (σ' := σ) (pc2 := 14) (l2 := [some (.ref 56), some (.int (nI 0))]) (t := []) (fun f => rfl) (pi_M_faultOf hm (nI 0)) ?_
  rintro _ t1 ⟨rfl, gt1, rt1⟩
  refine pi_tp (y := W.f0) (if_pos rfl) ?_
  refine pi_rt 2 (v := some (.int W.f0)) (σ' := t1) (fun f => rfl) ?_
  exact ⟨rfl, gt1.mr, pi_fr_t2 rt1 (pi_fr_rf)⟩
set_option maxRecDepth 20000 in
theorem pi_P_fault1 {xs : Nat → Int32} {L d : Nat} {W : zW} {σ : pi_S} (hm : z_MR W σ)   : pi_wp xs L (d + 9) 112 0 [some (.ref 56), some (.int (nI 1))] [] σ (fun v s => v = some (.int (W.f1)) ∧ z_MR W s ∧ pi_fr z_RC s σ) := by
  have hk := hm.wk
  have hnd8 := hk.wd.nd8
  have hns12 := hk.wd.ns12
  have hn60 := hk.nine
  have hnf := hk.nf
  have hnw := hk.nw
  have hnc := hk.nc
  have hn08 := hk.wd.n0
  have hn140 := hk.wd.n1
  refine pi_ca 4 (m' := 100) (l' := [some (.int (nI 1)), some (.int (nI 0)), some (.int (nI 1))]) (σ' := σ) (pc2 := 6) (l2 := [some (.ref 56), some (.int (nI 1))]) (t := []) (fun f => rfl) (pi_M_inT ((z_B_in (by omega)).mpr (⟨_, by omega, rfl⟩))) ?_
  rintro _ _ ⟨rfl, rfl⟩
  refine pi_cf 1 (c := nI 1 = 0) (pc' := 9) (l' := [some (.ref 56), some (.int (nI 1))]) (st' := []) (σ' := σ) (pc2 := 17) (l2 := [some (.ref 56), some (.int (nI 1))]) (st2 := []) (σ2 := σ) (fun f => rfl) (by decide) ?_
  refine pi_ca 3 (m' := 110) (l' := [some (.ref 56), some (.int (nI 1)), none, none]) (σ' := σ) (pc2 := 14) (l2 := [some (.ref 56), some (.int (nI 1))]) (t := []) (fun f => rfl) (pi_M_faultOf hm (nI 1)) ?_
  rintro _ t1 ⟨rfl, gt1, rt1⟩
  refine pi_tp (y := W.f1) (if_neg (by decide)) ?_
  refine pi_rt 2 (v := some (.int W.f1)) (σ' := t1) (fun f => rfl) ?_
  exact ⟨rfl, gt1.mr, pi_fr_t2 rt1 (pi_fr_rf)⟩
set_option maxRecDepth 20000 in
theorem pi_P_height_bad {xs : Nat → Int32} {L d : Nat} {W : zW} {σ : pi_S} (hm : z_MR W σ) {a : Int32} (hb : ¬ (z_B W.nd a))  : pi_wp xs L (d + 9) 117 0 [some (.ref 56), some (.int a)] [] σ (fun v s => v = some (.int (-2)) ∧ z_MR W s ∧ pi_fr z_RC s σ) := by
  have hk := hm.wk
  have hnd8 := hk.wd.nd8
  have hns12 := hk.wd.ns12
  have hn60 := hk.nine
  have hnf := hk.nf
  have hnw := hk.nw
  have hnc := hk.nc
  have hn08 := hk.wd.n0
  have hn140 := hk.wd.n1
  refine pi_ca 3 (m' := 113) (l' := [some (.ref 56), some (.int a)]) (σ' := σ) (pc2 := 5) (l2 := [some (.ref 56), some (.int a)]) (t := []) (fun f => rfl) (pi_M_isDoor hm a) ?_
  rintro _ t1 (⟨b1, rfl, gt1, rt1⟩ | ⟨b1, rfl, gt1, rt1⟩)
  · refine pi_cf 1 (c := nI 1 = 0) (pc' := 8) (l' := [some (.ref 56), some (.int a)]) (st' := []) (σ' := t1) (pc2 := 17) (l2 := [some (.ref 56), some (.int a)]) (st2 := []) (σ2 := t1) (fun f => rfl) (by decide) ?_
    exact (hb b1).elim
  · refine pi_ct 1 (c := nI 0 = 0) (pc' := 17) (l' := [some (.ref 56), some (.int a)]) (st' := []) (σ' := t1) (pc2 := 8) (l2 := [some (.ref 56), some (.int a)]) (st2 := []) (σ2 := t1) (fun f => rfl) (by decide) ?_
    refine pi_rt 2 (v := some (.int (-2))) (σ' := t1) (fun f => rfl) ?_
    exact ⟨rfl, gt1.mr, pi_fr_t2 rt1 (pi_fr_rf)⟩
set_option maxRecDepth 20000 in
theorem pi_P_height {xs : Nat → Int32} {L d : Nat} {W : zW} {σ : pi_S} (hm : z_MR W σ) {dr : Nat} (hd : dr < W.nd)  : pi_wp xs L (d + 9) 117 0 [some (.ref 56), some (.int (nI dr))] [] σ (fun v s => v = some (.int (W.hh dr)) ∧ z_MR W s ∧ pi_fr z_RC s σ) := by
  have hk := hm.wk
  have hnd8 := hk.wd.nd8
  have hns12 := hk.wd.ns12
  have hn60 := hk.nine
  have hnf := hk.nf
  have hnw := hk.nw
  have hnc := hk.nc
  have hn08 := hk.wd.n0
  have hn140 := hk.wd.n1
  refine pi_ca 3 (m' := 113) (l' := [some (.ref 56), some (.int (nI dr))]) (σ' := σ) (pc2 := 5) (l2 := [some (.ref 56), some (.int (nI dr))]) (t := []) (fun f => rfl) (pi_M_isDoorT hm ⟨_, by omega, rfl⟩) ?_
  rintro _ t1 ⟨rfl, gt1, rt1⟩
  refine pi_cf 1 (c := nI 1 = 0) (pc' := 8) (l' := [some (.ref 56), some (.int (nI dr))]) (st' := []) (σ' := t1) (pc2 := 17) (l2 := [some (.ref 56), some (.int (nI dr))]) (st2 := []) (σ2 := t1) (fun f => rfl) (by decide) ?_
  refine pi_ai 4 (u := dr) (n := 8) (g := t1 59) (pc' := 14) (l' := [some (.ref 56), some (.int (nI dr))]) (t := []) (σ' := t1) (fun f => rfl) (by omega) (by omega) ?_
  refine pi_tp (y := W.hh dr) ((gt1.h dr (by omega))) ?_
  refine pi_rt 2 (v := some (.int (W.hh dr))) (σ' := t1) (fun f => rfl) ?_
  exact ⟨rfl, gt1.mr, pi_fr_t2 rt1 (pi_fr_rf)⟩
set_option maxRecDepth 20000 in
theorem pi_P_street_bad {xs : Nat → Int32} {L d : Nat} {W : zW} {σ : pi_S} (hm : z_MR W σ) {a b : Int32} (hb : ¬ (z_B W.ns a ∧ z_B 2 b))  : pi_wp xs L (d + 9) 118 0 [some (.ref 56), some (.int a), some (.int b)] [] σ (fun v s => v = some (.int (-2)) ∧ z_MR W s ∧ pi_fr z_RC s σ) := by
  have hk := hm.wk
  have hnd8 := hk.wd.nd8
  have hns12 := hk.wd.ns12
  have hn60 := hk.nine
  have hnf := hk.nf
  have hnw := hk.nw
  have hnc := hk.nc
  have hn08 := hk.wd.n0
  have hn140 := hk.wd.n1
  refine pi_ca 3 (m' := 114) (l' := [some (.ref 56), some (.int a)]) (σ' := σ) (pc2 := 5) (l2 := [some (.ref 56), some (.int a), some (.int b)]) (t := []) (fun f => rfl) (pi_M_isStreet hm a) ?_
  rintro _ t1 (⟨b1, rfl, gt1, rt1⟩ | ⟨b1, rfl, gt1, rt1⟩)
  · refine pi_cf 1 (c := nI 1 = 0) (pc' := 8) (l' := [some (.ref 56), some (.int a), some (.int b)]) (st' := []) (σ' := t1) (pc2 := 39) (l2 := [some (.ref 56), some (.int a), some (.int b)]) (st2 := []) (σ2 := t1) (fun f => rfl) (by decide) ?_
    refine pi_ca 4 (m' := 100) (l' := [some (.int b), some (.int (nI 0)), some (.int (nI 1))]) (σ' := t1) (pc2 := 14) (l2 := [some (.ref 56), some (.int a), some (.int b)]) (t := []) (fun f => rfl) (pi_M_inB (p := z_B 2 b) (z_B_in (by omega))) ?_
    rintro _ _ (⟨b2, rfl, rfl⟩ | ⟨b2, rfl, rfl⟩)
    · refine pi_cf 1 (c := nI 1 = 0) (pc' := 17) (l' := [some (.ref 56), some (.int a), some (.int b)]) (st' := []) (σ' := t1) (pc2 := 39) (l2 := [some (.ref 56), some (.int a), some (.int b)]) (st2 := []) (σ2 := t1) (fun f => rfl) (by decide) ?_
      exact (hb ⟨b1, b2⟩).elim
    · refine pi_ct 1 (c := nI 0 = 0) (pc' := 39) (l' := [some (.ref 56), some (.int a), some (.int b)]) (st' := []) (σ' := t1) (pc2 := 17) (l2 := [some (.ref 56), some (.int a), some (.int b)]) (st2 := []) (σ2 := t1) (fun f => rfl) (by decide) ?_
      refine pi_rt 2 (v := some (.int (-2))) (σ' := t1) (fun f => rfl) ?_
      exact ⟨rfl, gt1.mr, pi_fr_t2 rt1 (pi_fr_rf)⟩
  · refine pi_ct 1 (c := nI 0 = 0) (pc' := 39) (l' := [some (.ref 56), some (.int a), some (.int b)]) (st' := []) (σ' := t1) (pc2 := 8) (l2 := [some (.ref 56), some (.int a), some (.int b)]) (st2 := []) (σ2 := t1) (fun f => rfl) (by decide) ?_
    refine pi_rt 2 (v := some (.int (-2))) (σ' := t1) (fun f => rfl) ?_
    exact ⟨rfl, gt1.mr, pi_fr_t2 rt1 (pi_fr_rf)⟩
set_option maxRecDepth 20000 in
theorem pi_P_street0 {xs : Nat → Int32} {L d : Nat} {W : zW} {σ : pi_S} (hm : z_MR W σ) {st : Nat} (hs : st < W.ns)  : pi_wp xs L (d + 9) 118 0 [some (.ref 56), some (.int (nI st)), some (.int (nI 0))] [] σ (fun v s => v = some (.int (nI (W.up st))) ∧ z_MR W s ∧ pi_fr z_RC s σ) := by
  have hk := hm.wk
  have hnd8 := hk.wd.nd8
  have hns12 := hk.wd.ns12
  have hn60 := hk.nine
  have hnf := hk.nf
  have hnw := hk.nw
  have hnc := hk.nc
  have hn08 := hk.wd.n0
  have hn140 := hk.wd.n1
  refine pi_ca 3 (m' := 114) (l' := [some (.ref 56), some (.int (nI st))]) (σ' := σ) (pc2 := 5) (l2 := [some (.ref 56), some (.int (nI st)), some (.int (nI 0))]) (t := []) (fun f => rfl) (pi_M_isStreetT hm ⟨_, by omega, rfl⟩) ?_
  rintro _ t1 ⟨rfl, gt1, rt1⟩
  refine pi_cf 1 (c := nI 1 = 0) (pc' := 8) (l' := [some (.ref 56), some (.int (nI st)), some (.int (nI 0))]) (st' := []) (σ' := t1) (pc2 := 39) (l2 := [some (.ref 56), some (.int (nI st)), some (.int (nI 0))]) (st2 := []) (σ2 := t1) (fun f => rfl) (by decide) ?_
  refine pi_ca 4 (m' := 100) (l' := [some (.int (nI 0)), some (.int (nI 0)), some (.int (nI 1))]) (σ' := t1) (pc2 := 14) (l2 := [some (.ref 56), some (.int (nI st)), some (.int (nI 0))]) (t := []) (fun f => rfl) (pi_M_inT ((z_B_in (by omega)).mpr (⟨_, by omega, rfl⟩))) ?_
  rintro _ _ ⟨rfl, rfl⟩
  refine pi_cf 1 (c := nI 1 = 0) (pc' := 17) (l' := [some (.ref 56), some (.int (nI st)), some (.int (nI 0))]) (st' := []) (σ' := t1) (pc2 := 39) (l2 := [some (.ref 56), some (.int (nI st)), some (.int (nI 0))]) (st2 := []) (σ2 := t1) (fun f => rfl) (by decide) ?_
  refine pi_ct 2 (c := nI 0 = 0) (pc' := 21) (l' := [some (.ref 56), some (.int (nI st)), some (.int (nI 0))]) (st' := []) (σ' := t1) (pc2 := 30) (l2 := [some (.ref 56), some (.int (nI st)), some (.int (nI 0))]) (st2 := []) (σ2 := t1) (fun f => rfl) (by decide) ?_
  refine pi_ai 4 (u := st) (n := 12) (g := t1 60) (pc' := 27) (l' := [some (.ref 56), some (.int (nI st)), some (.int (nI 0))]) (t := []) (σ' := t1) (fun f => rfl) (by omega) (by omega) ?_
  refine pi_tp (y := nI (W.up st)) ((gt1.st st (by omega)).1) ?_
  refine pi_rt 2 (v := some (.int (nI (W.up st)))) (σ' := t1) (fun f => rfl) ?_
  exact ⟨rfl, gt1.mr, pi_fr_t2 rt1 (pi_fr_rf)⟩
set_option maxRecDepth 20000 in
theorem pi_P_street1 {xs : Nat → Int32} {L d : Nat} {W : zW} {σ : pi_S} (hm : z_MR W σ) {st : Nat} (hs : st < W.ns)  : pi_wp xs L (d + 9) 118 0 [some (.ref 56), some (.int (nI st)), some (.int (nI 1))] [] σ (fun v s => v = some (.int (nI (W.lo st))) ∧ z_MR W s ∧ pi_fr z_RC s σ) := by
  have hk := hm.wk
  have hnd8 := hk.wd.nd8
  have hns12 := hk.wd.ns12
  have hn60 := hk.nine
  have hnf := hk.nf
  have hnw := hk.nw
  have hnc := hk.nc
  have hn08 := hk.wd.n0
  have hn140 := hk.wd.n1
  refine pi_ca 3 (m' := 114) (l' := [some (.ref 56), some (.int (nI st))]) (σ' := σ) (pc2 := 5) (l2 := [some (.ref 56), some (.int (nI st)), some (.int (nI 1))]) (t := []) (fun f => rfl) (pi_M_isStreetT hm ⟨_, by omega, rfl⟩) ?_
  rintro _ t1 ⟨rfl, gt1, rt1⟩
  refine pi_cf 1 (c := nI 1 = 0) (pc' := 8) (l' := [some (.ref 56), some (.int (nI st)), some (.int (nI 1))]) (st' := []) (σ' := t1) (pc2 := 39) (l2 := [some (.ref 56), some (.int (nI st)), some (.int (nI 1))]) (st2 := []) (σ2 := t1) (fun f => rfl) (by decide) ?_
  refine pi_ca 4 (m' := 100) (l' := [some (.int (nI 1)), some (.int (nI 0)), some (.int (nI 1))]) (σ' := t1) (pc2 := 14) (l2 := [some (.ref 56), some (.int (nI st)), some (.int (nI 1))]) (t := []) (fun f => rfl) (pi_M_inT ((z_B_in (by omega)).mpr (⟨_, by omega, rfl⟩))) ?_
  rintro _ _ ⟨rfl, rfl⟩
  refine pi_cf 1 (c := nI 1 = 0) (pc' := 17) (l' := [some (.ref 56), some (.int (nI st)), some (.int (nI 1))]) (st' := []) (σ' := t1) (pc2 := 39) (l2 := [some (.ref 56), some (.int (nI st)), some (.int (nI 1))]) (st2 := []) (σ2 := t1) (fun f => rfl) (by decide) ?_
  refine pi_cf 2 (c := nI 1 = 0) (pc' := 30) (l' := [some (.ref 56), some (.int (nI st)), some (.int (nI 1))]) (st' := []) (σ' := t1) (pc2 := 21) (l2 := [some (.ref 56), some (.int (nI st)), some (.int (nI 1))]) (st2 := []) (σ2 := t1) (fun f => rfl) (by decide) ?_
  refine pi_ai 4 (u := st) (n := 12) (g := t1 61) (pc' := 36) (l' := [some (.ref 56), some (.int (nI st)), some (.int (nI 1))]) (t := []) (σ' := t1) (fun f => rfl) (by omega) (by omega) ?_
  refine pi_tp (y := nI (W.lo st)) ((gt1.st st (by omega)).2) ?_
  refine pi_rt 2 (v := some (.int (nI (W.lo st)))) (σ' := t1) (fun f => rfl) ?_
  exact ⟨rfl, gt1.mr, pi_fr_t2 rt1 (pi_fr_rf)⟩
set_option maxRecDepth 20000 in
theorem pi_P_lies_bad {xs : Nat → Int32} {L d : Nat} {W : zW} {σ : pi_S} (hm : z_MR W σ) {a b c : Int32} (hb : ¬ (z_B W.nd a ∧ z_B (W.nine + 1) b ∧ z_B1 5 c))  : pi_wp xs L (d + 9) 134 0 [some (.ref 56), some (.int a), some (.int b), some (.int c)] [] σ (fun v s => v = some (.int (-2)) ∧ z_MR W s ∧ pi_fr z_RC s σ) := by
  have hk := hm.wk
  have hnd8 := hk.wd.nd8
  have hns12 := hk.wd.ns12
  have hn60 := hk.nine
  have hnf := hk.nf
  have hnw := hk.nw
  have hnc := hk.nc
  have hn08 := hk.wd.n0
  have hn140 := hk.wd.n1
  refine pi_ca 3 (m' := 113) (l' := [some (.ref 56), some (.int a)]) (σ' := σ) (pc2 := 5) (l2 := [some (.ref 56), some (.int a), some (.int b), some (.int c)]) (t := []) (fun f => rfl) (pi_M_isDoor hm a) ?_
  rintro _ t1 (⟨b1, rfl, gt1, rt1⟩ | ⟨b1, rfl, gt1, rt1⟩)
  · refine pi_cf 1 (c := nI 1 = 0) (pc' := 8) (l' := [some (.ref 56), some (.int a), some (.int b), some (.int c)]) (st' := []) (σ' := t1) (pc2 := 39) (l2 := [some (.ref 56), some (.int a), some (.int b), some (.int c)]) (st2 := []) (σ2 := t1) (fun f => rfl) (by decide) ?_
    refine pi_go 4 (pc' := 14) (l' := [some (.ref 56), some (.int a), some (.int b), some (.int c)]) (st' := [.int (t1 56 10), .int (nI 0), .int b]) (σ' := t1) (fun f => rfl) ?_
    refine pi_tp (y := nI W.nine) (gt1.mr.nine) ?_
    refine pi_ca 1 (m' := 100) (l' := [some (.int b), some (.int (nI 0)), some (.int (nI W.nine))]) (σ' := t1) (pc2 := 17) (l2 := [some (.ref 56), some (.int a), some (.int b), some (.int c)]) (t := []) (fun f => rfl) (pi_M_inB (p := z_B (W.nine + 1) b) (z_B_in (by omega))) ?_
    rintro _ _ (⟨b2, rfl, rfl⟩ | ⟨b2, rfl, rfl⟩)
    · refine pi_cf 1 (c := nI 1 = 0) (pc' := 20) (l' := [some (.ref 56), some (.int a), some (.int b), some (.int c)]) (st' := []) (σ' := t1) (pc2 := 39) (l2 := [some (.ref 56), some (.int a), some (.int b), some (.int c)]) (st2 := []) (σ2 := t1) (fun f => rfl) (by decide) ?_
      refine pi_ca 4 (m' := 100) (l' := [some (.int c), some (.int (-1)), some (.int (nI 4))]) (σ' := t1) (pc2 := 26) (l2 := [some (.ref 56), some (.int a), some (.int b), some (.int c)]) (t := []) (fun f => rfl) (pi_M_inB (p := z_B1 5 c) (z_B1_in (by omega))) ?_
      rintro _ _ (⟨b3, rfl, rfl⟩ | ⟨b3, rfl, rfl⟩)
      · refine pi_cf 1 (c := nI 1 = 0) (pc' := 29) (l' := [some (.ref 56), some (.int a), some (.int b), some (.int c)]) (st' := []) (σ' := t1) (pc2 := 39) (l2 := [some (.ref 56), some (.int a), some (.int b), some (.int c)]) (st2 := []) (σ2 := t1) (fun f => rfl) (by decide) ?_
        exact (hb ⟨b1, b2, b3⟩).elim
      · refine pi_ct 1 (c := nI 0 = 0) (pc' := 39) (l' := [some (.ref 56), some (.int a), some (.int b), some (.int c)]) (st' := []) (σ' := t1) (pc2 := 29) (l2 := [some (.ref 56), some (.int a), some (.int b), some (.int c)]) (st2 := []) (σ2 := t1) (fun f => rfl) (by decide) ?_
        refine pi_rt 2 (v := some (.int (-2))) (σ' := t1) (fun f => rfl) ?_
        exact ⟨rfl, gt1.mr, pi_fr_t2 rt1 (pi_fr_rf)⟩
    · refine pi_ct 1 (c := nI 0 = 0) (pc' := 39) (l' := [some (.ref 56), some (.int a), some (.int b), some (.int c)]) (st' := []) (σ' := t1) (pc2 := 20) (l2 := [some (.ref 56), some (.int a), some (.int b), some (.int c)]) (st2 := []) (σ2 := t1) (fun f => rfl) (by decide) ?_
      refine pi_rt 2 (v := some (.int (-2))) (σ' := t1) (fun f => rfl) ?_
      exact ⟨rfl, gt1.mr, pi_fr_t2 rt1 (pi_fr_rf)⟩
  · refine pi_ct 1 (c := nI 0 = 0) (pc' := 39) (l' := [some (.ref 56), some (.int a), some (.int b), some (.int c)]) (st' := []) (σ' := t1) (pc2 := 8) (l2 := [some (.ref 56), some (.int a), some (.int b), some (.int c)]) (st2 := []) (σ2 := t1) (fun f => rfl) (by decide) ?_
    refine pi_rt 2 (v := some (.int (-2))) (σ' := t1) (fun f => rfl) ?_
    exact ⟨rfl, gt1.mr, pi_fr_t2 rt1 (pi_fr_rf)⟩
set_option maxRecDepth 20000 in
theorem pi_P_lies0 {xs : Nat → Int32} {L d : Nat} {W : zW} {σ : pi_S} (hm : z_MR W σ) {dr mi : Nat} (hd : dr < W.nd) (hi : mi < W.nine + 1)  : pi_wp xs L (d + 9) 134 0 [some (.ref 56), some (.int (nI dr)), some (.int (nI mi)), some (.int (-1))] [] σ (fun v s => v = some (.int (z_all (z_R W (-1) (-1) 0 (fun _ => 0) (mi + 1)).1.1.1 dr)) ∧ z_MR W s ∧ pi_fr z_RC s σ) := by
  have hk := hm.wk
  have hnd8 := hk.wd.nd8
  have hns12 := hk.wd.ns12
  have hn60 := hk.nine
  have hnf := hk.nf
  have hnw := hk.nw
  have hnc := hk.nc
  have hn08 := hk.wd.n0
  have hn140 := hk.wd.n1
  refine pi_ca 3 (m' := 113) (l' := [some (.ref 56), some (.int (nI dr))]) (σ' := σ) (pc2 := 5) (l2 := [some (.ref 56), some (.int (nI dr)), some (.int (nI mi)), some (.int (-1))]) (t := []) (fun f => rfl) (pi_M_isDoorT hm ⟨_, by omega, rfl⟩) ?_
  rintro _ t1 ⟨rfl, gt1, rt1⟩
  refine pi_cf 1 (c := nI 1 = 0) (pc' := 8) (l' := [some (.ref 56), some (.int (nI dr)), some (.int (nI mi)), some (.int (-1))]) (st' := []) (σ' := t1) (pc2 := 39) (l2 := [some (.ref 56), some (.int (nI dr)), some (.int (nI mi)), some (.int (-1))]) (st2 := []) (σ2 := t1) (fun f => rfl) (by decide) ?_
  refine pi_go 4 (pc' := 14) (l' := [some (.ref 56), some (.int (nI dr)), some (.int (nI mi)), some (.int (-1))]) (st' := [.int (t1 56 10), .int (nI 0), .int (nI mi)]) (σ' := t1) (fun f => rfl) ?_
  refine pi_tp (y := nI W.nine) (gt1.mr.nine) ?_
  refine pi_ca 1 (m' := 100) (l' := [some (.int (nI mi)), some (.int (nI 0)), some (.int (nI W.nine))]) (σ' := t1) (pc2 := 17) (l2 := [some (.ref 56), some (.int (nI dr)), some (.int (nI mi)), some (.int (-1))]) (t := []) (fun f => rfl) (pi_M_inT ((z_B_in (by omega)).mpr (⟨_, by omega, rfl⟩))) ?_
  rintro _ _ ⟨rfl, rfl⟩
  refine pi_cf 1 (c := nI 1 = 0) (pc' := 20) (l' := [some (.ref 56), some (.int (nI dr)), some (.int (nI mi)), some (.int (-1))]) (st' := []) (σ' := t1) (pc2 := 39) (l2 := [some (.ref 56), some (.int (nI dr)), some (.int (nI mi)), some (.int (-1))]) (st2 := []) (σ2 := t1) (fun f => rfl) (by decide) ?_
  refine pi_ca 4 (m' := 100) (l' := [some (.int (-1)), some (.int (-1)), some (.int (nI 4))]) (σ' := t1) (pc2 := 26) (l2 := [some (.ref 56), some (.int (nI dr)), some (.int (nI mi)), some (.int (-1))]) (t := []) (fun f => rfl) (pi_M_inT ((z_B1_in (by omega)).mpr (Or.inl rfl))) ?_
  rintro _ _ ⟨rfl, rfl⟩
  refine pi_cf 1 (c := nI 1 = 0) (pc' := 29) (l' := [some (.ref 56), some (.int (nI dr)), some (.int (nI mi)), some (.int (-1))]) (st' := []) (σ' := t1) (pc2 := 39) (l2 := [some (.ref 56), some (.int (nI dr)), some (.int (nI mi)), some (.int (-1))]) (st2 := []) (σ2 := t1) (fun f => rfl) (by decide) ?_
  refine pi_ca 5 (m' := 133) (l' := [some (.ref 56), some (.int (nI dr)), some (.int (nI mi)), some (.int (-1))]) (σ' := t1) (pc2 := 36) (l2 := [some (.ref 56), some (.int (nI dr)), some (.int (nI mi)), some (.int (-1))]) (t := []) (fun f => rfl) (pi_M_liesOf0 (dr := dr) (mi := mi) gt1.mr (by omega) (by omega)) ?_
  rintro _ t2 ⟨rfl, gt2, rt2⟩
  refine pi_rt 2 (v := some (.int (z_all (z_R W (-1) (-1) 0 (fun _ => 0) (mi + 1)).1.1.1 dr))) (σ' := t2) (fun f => rfl) ?_
  exact ⟨rfl, gt2.mr, pi_fr_t2 rt2 (pi_fr_t2 rt1 (pi_fr_rf))⟩
set_option maxRecDepth 20000 in
theorem pi_P_lies1 {xs : Nat → Int32} {L d : Nat} {W : zW} {σ : pi_S} (hm : z_MR W σ) {dr mi kd : Nat} (hd : dr < W.nd) (hi : mi < W.nine + 1) (hkd : kd < 5)  : pi_wp xs L (d + 9) 134 0 [some (.ref 56), some (.int (nI dr)), some (.int (nI mi)), some (.int (nI kd))] [] σ (fun v s => v = some (.int ((z_R W (-1) (-1) 0 (fun _ => 0) (mi + 1)).1.1.1 (5 * dr + kd))) ∧ z_MR W s ∧ pi_fr z_RC s σ) := by
  have hk := hm.wk
  have hnd8 := hk.wd.nd8
  have hns12 := hk.wd.ns12
  have hn60 := hk.nine
  have hnf := hk.nf
  have hnw := hk.nw
  have hnc := hk.nc
  have hn08 := hk.wd.n0
  have hn140 := hk.wd.n1
  refine pi_ca 3 (m' := 113) (l' := [some (.ref 56), some (.int (nI dr))]) (σ' := σ) (pc2 := 5) (l2 := [some (.ref 56), some (.int (nI dr)), some (.int (nI mi)), some (.int (nI kd))]) (t := []) (fun f => rfl) (pi_M_isDoorT hm ⟨_, by omega, rfl⟩) ?_
  rintro _ t1 ⟨rfl, gt1, rt1⟩
  refine pi_cf 1 (c := nI 1 = 0) (pc' := 8) (l' := [some (.ref 56), some (.int (nI dr)), some (.int (nI mi)), some (.int (nI kd))]) (st' := []) (σ' := t1) (pc2 := 39) (l2 := [some (.ref 56), some (.int (nI dr)), some (.int (nI mi)), some (.int (nI kd))]) (st2 := []) (σ2 := t1) (fun f => rfl) (by decide) ?_
  refine pi_go 4 (pc' := 14) (l' := [some (.ref 56), some (.int (nI dr)), some (.int (nI mi)), some (.int (nI kd))]) (st' := [.int (t1 56 10), .int (nI 0), .int (nI mi)]) (σ' := t1) (fun f => rfl) ?_
  refine pi_tp (y := nI W.nine) (gt1.mr.nine) ?_
  refine pi_ca 1 (m' := 100) (l' := [some (.int (nI mi)), some (.int (nI 0)), some (.int (nI W.nine))]) (σ' := t1) (pc2 := 17) (l2 := [some (.ref 56), some (.int (nI dr)), some (.int (nI mi)), some (.int (nI kd))]) (t := []) (fun f => rfl) (pi_M_inT ((z_B_in (by omega)).mpr (⟨_, by omega, rfl⟩))) ?_
  rintro _ _ ⟨rfl, rfl⟩
  refine pi_cf 1 (c := nI 1 = 0) (pc' := 20) (l' := [some (.ref 56), some (.int (nI dr)), some (.int (nI mi)), some (.int (nI kd))]) (st' := []) (σ' := t1) (pc2 := 39) (l2 := [some (.ref 56), some (.int (nI dr)), some (.int (nI mi)), some (.int (nI kd))]) (st2 := []) (σ2 := t1) (fun f => rfl) (by decide) ?_
  refine pi_ca 4 (m' := 100) (l' := [some (.int (nI kd)), some (.int (-1)), some (.int (nI 4))]) (σ' := t1) (pc2 := 26) (l2 := [some (.ref 56), some (.int (nI dr)), some (.int (nI mi)), some (.int (nI kd))]) (t := []) (fun f => rfl) (pi_M_inT ((z_B1_in (by omega)).mpr (Or.inr ⟨_, by omega, rfl⟩))) ?_
  rintro _ _ ⟨rfl, rfl⟩
  refine pi_cf 1 (c := nI 1 = 0) (pc' := 29) (l' := [some (.ref 56), some (.int (nI dr)), some (.int (nI mi)), some (.int (nI kd))]) (st' := []) (σ' := t1) (pc2 := 39) (l2 := [some (.ref 56), some (.int (nI dr)), some (.int (nI mi)), some (.int (nI kd))]) (st2 := []) (σ2 := t1) (fun f => rfl) (by decide) ?_
  refine pi_ca 5 (m' := 133) (l' := [some (.ref 56), some (.int (nI dr)), some (.int (nI mi)), some (.int (nI kd))]) (σ' := t1) (pc2 := 36) (l2 := [some (.ref 56), some (.int (nI dr)), some (.int (nI mi)), some (.int (nI kd))]) (t := []) (fun f => rfl) (pi_M_liesOf1 (dr := dr) (mi := mi) (kd := kd) gt1.mr (by omega) (by omega) (by omega)) ?_
  rintro _ t2 ⟨rfl, gt2, rt2⟩
  refine pi_rt 2 (v := some (.int ((z_R W (-1) (-1) 0 (fun _ => 0) (mi + 1)).1.1.1 (5 * dr + kd)))) (σ' := t2) (fun f => rfl) ?_
  exact ⟨rfl, gt2.mr, pi_fr_t2 rt2 (pi_fr_t2 rt1 (pi_fr_rf))⟩
set_option maxRecDepth 20000 in
theorem pi_P_judged {xs : Nat → Int32} {L d : Nat} {W : zW} {σ : pi_S} (hm : z_MR W σ)   : pi_wp xs L (d + 9) 140 0 [some (.ref 56)] [] σ (fun v s => v = some (.int ((z_A W).1.2)) ∧ z_MR W s ∧ pi_fr z_RC s σ) := by
  have hk := hm.wk
  have hnd8 := hk.wd.nd8
  have hns12 := hk.wd.ns12
  have hn60 := hk.nine
  have hnf := hk.nf
  have hnw := hk.nw
  have hnc := hk.nc
  have hn08 := hk.wd.n0
  have hn140 := hk.wd.n1
  refine pi_ca 2 (m' := 139) (l' := [some (.ref 56)]) (σ' := σ) (pc2 := 4) (l2 := [some (.ref 56)]) (t := []) (fun f => rfl) (pi_M_judgedNow hm ) ?_
  rintro _ t1 ⟨rfl, gt1, rt1⟩
  refine pi_rt 1 (v := some (.int ((z_A W).1.2))) (σ' := t1) (fun f => rfl) ?_
  exact ⟨rfl, gt1.mr, pi_fr_t2 rt1 (pi_fr_rf)⟩
set_option maxRecDepth 20000 in
theorem pi_P_nets_bad {xs : Nat → Int32} {L d : Nat} {W : zW} {σ : pi_S} (hm : z_MR W σ) {a b : Int32} (hb : ¬ (z_B W.nd a ∧ z_B 2 b))  : pi_wp xs L (d + 9) 145 0 [some (.ref 56), some (.int a), some (.int b)] [] σ (fun v s => v = some (.int (-2)) ∧ z_MR W s ∧ pi_fr z_RC s σ) := by
  have hk := hm.wk
  have hnd8 := hk.wd.nd8
  have hns12 := hk.wd.ns12
  have hn60 := hk.nine
  have hnf := hk.nf
  have hnw := hk.nw
  have hnc := hk.nc
  have hn08 := hk.wd.n0
  have hn140 := hk.wd.n1
  refine pi_ca 3 (m' := 113) (l' := [some (.ref 56), some (.int a)]) (σ' := σ) (pc2 := 5) (l2 := [some (.ref 56), some (.int a), some (.int b)]) (t := []) (fun f => rfl) (pi_M_isDoor hm a) ?_
  rintro _ t1 (⟨b1, rfl, gt1, rt1⟩ | ⟨b1, rfl, gt1, rt1⟩)
  · refine pi_cf 1 (c := nI 1 = 0) (pc' := 8) (l' := [some (.ref 56), some (.int a), some (.int b)]) (st' := []) (σ' := t1) (pc2 := 26) (l2 := [some (.ref 56), some (.int a), some (.int b)]) (st2 := []) (σ2 := t1) (fun f => rfl) (by decide) ?_
    refine pi_ca 4 (m' := 100) (l' := [some (.int b), some (.int (nI 0)), some (.int (nI 1))]) (σ' := t1) (pc2 := 14) (l2 := [some (.ref 56), some (.int a), some (.int b)]) (t := []) (fun f => rfl) (pi_M_inB (p := z_B 2 b) (z_B_in (by omega))) ?_
    rintro _ _ (⟨b2, rfl, rfl⟩ | ⟨b2, rfl, rfl⟩)
    · refine pi_cf 1 (c := nI 1 = 0) (pc' := 17) (l' := [some (.ref 56), some (.int a), some (.int b)]) (st' := []) (σ' := t1) (pc2 := 26) (l2 := [some (.ref 56), some (.int a), some (.int b)]) (st2 := []) (σ2 := t1) (fun f => rfl) (by decide) ?_
      exact (hb ⟨b1, b2⟩).elim
    · refine pi_ct 1 (c := nI 0 = 0) (pc' := 26) (l' := [some (.ref 56), some (.int a), some (.int b)]) (st' := []) (σ' := t1) (pc2 := 17) (l2 := [some (.ref 56), some (.int a), some (.int b)]) (st2 := []) (σ2 := t1) (fun f => rfl) (by decide) ?_
      refine pi_rt 2 (v := some (.int (-2))) (σ' := t1) (fun f => rfl) ?_
      exact ⟨rfl, gt1.mr, pi_fr_t2 rt1 (pi_fr_rf)⟩
  · refine pi_ct 1 (c := nI 0 = 0) (pc' := 26) (l' := [some (.ref 56), some (.int a), some (.int b)]) (st' := []) (σ' := t1) (pc2 := 8) (l2 := [some (.ref 56), some (.int a), some (.int b)]) (st2 := []) (σ2 := t1) (fun f => rfl) (by decide) ?_
    refine pi_rt 2 (v := some (.int (-2))) (σ' := t1) (fun f => rfl) ?_
    exact ⟨rfl, gt1.mr, pi_fr_t2 rt1 (pi_fr_rf)⟩
set_option maxRecDepth 20000 in
theorem pi_P_nets0 {xs : Nat → Int32} {L d : Nat} {W : zW} {σ : pi_S} (hm : z_MR W σ) {dr : Nat} (hd : dr < W.nd)  : pi_wp xs L (d + 9) 145 0 [some (.ref 56), some (.int (nI dr)), some (.int (nI 0))] [] σ (fun v s => v = some (.int (z_net W.up W.lo W.ns dr W.nd)) ∧ z_MR W s ∧ pi_fr z_RC s σ) := by
  have hk := hm.wk
  have hnd8 := hk.wd.nd8
  have hns12 := hk.wd.ns12
  have hn60 := hk.nine
  have hnf := hk.nf
  have hnw := hk.nw
  have hnc := hk.nc
  have hn08 := hk.wd.n0
  have hn140 := hk.wd.n1
  refine pi_ca 3 (m' := 113) (l' := [some (.ref 56), some (.int (nI dr))]) (σ' := σ) (pc2 := 5) (l2 := [some (.ref 56), some (.int (nI dr)), some (.int (nI 0))]) (t := []) (fun f => rfl) (pi_M_isDoorT hm ⟨_, by omega, rfl⟩) ?_
  rintro _ t1 ⟨rfl, gt1, rt1⟩
  refine pi_cf 1 (c := nI 1 = 0) (pc' := 8) (l' := [some (.ref 56), some (.int (nI dr)), some (.int (nI 0))]) (st' := []) (σ' := t1) (pc2 := 26) (l2 := [some (.ref 56), some (.int (nI dr)), some (.int (nI 0))]) (st2 := []) (σ2 := t1) (fun f => rfl) (by decide) ?_
  refine pi_ca 4 (m' := 100) (l' := [some (.int (nI 0)), some (.int (nI 0)), some (.int (nI 1))]) (σ' := t1) (pc2 := 14) (l2 := [some (.ref 56), some (.int (nI dr)), some (.int (nI 0))]) (t := []) (fun f => rfl) (pi_M_inT ((z_B_in (by omega)).mpr (⟨_, by omega, rfl⟩))) ?_
  rintro _ _ ⟨rfl, rfl⟩
  refine pi_cf 1 (c := nI 1 = 0) (pc' := 17) (l' := [some (.ref 56), some (.int (nI dr)), some (.int (nI 0))]) (st' := []) (σ' := t1) (pc2 := 26) (l2 := [some (.ref 56), some (.int (nI dr)), some (.int (nI 0))]) (st2 := []) (σ2 := t1) (fun f => rfl) (by decide) ?_
  refine pi_ca 4 (m' := 144) (l' := [some (.ref 56), some (.int (nI dr)), some (.int (nI 0)), none, none]) (σ' := t1) (pc2 := 23) (l2 := [some (.ref 56), some (.int (nI dr)), some (.int (nI 0))]) (t := []) (fun f => rfl) (pi_M_netsOf0 (dr := dr) gt1.mr (by omega)) ?_
  rintro _ t2 ⟨rfl, gt2, rt2⟩
  refine pi_rt 2 (v := some (.int (z_net W.up W.lo W.ns dr W.nd))) (σ' := t2) (fun f => rfl) ?_
  exact ⟨rfl, gt2.mr, pi_fr_t2 rt2 (pi_fr_t2 rt1 (pi_fr_rf))⟩
set_option maxRecDepth 20000 in
theorem pi_P_nets1 {xs : Nat → Int32} {L d : Nat} {W : zW} {σ : pi_S} (hm : z_MR W σ) {dr : Nat} (hd : dr < W.nd)  : pi_wp xs L (d + 9) 145 0 [some (.ref 56), some (.int (nI dr)), some (.int (nI 1))] [] σ (fun v s => v = some (.int (z_rc W.up W.lo W.ns dr (nI 0))) ∧ z_MR W s ∧ pi_fr z_RC s σ) := by
  have hk := hm.wk
  have hnd8 := hk.wd.nd8
  have hns12 := hk.wd.ns12
  have hn60 := hk.nine
  have hnf := hk.nf
  have hnw := hk.nw
  have hnc := hk.nc
  have hn08 := hk.wd.n0
  have hn140 := hk.wd.n1
  refine pi_ca 3 (m' := 113) (l' := [some (.ref 56), some (.int (nI dr))]) (σ' := σ) (pc2 := 5) (l2 := [some (.ref 56), some (.int (nI dr)), some (.int (nI 1))]) (t := []) (fun f => rfl) (pi_M_isDoorT hm ⟨_, by omega, rfl⟩) ?_
  rintro _ t1 ⟨rfl, gt1, rt1⟩
  refine pi_cf 1 (c := nI 1 = 0) (pc' := 8) (l' := [some (.ref 56), some (.int (nI dr)), some (.int (nI 1))]) (st' := []) (σ' := t1) (pc2 := 26) (l2 := [some (.ref 56), some (.int (nI dr)), some (.int (nI 1))]) (st2 := []) (σ2 := t1) (fun f => rfl) (by decide) ?_
  refine pi_ca 4 (m' := 100) (l' := [some (.int (nI 1)), some (.int (nI 0)), some (.int (nI 1))]) (σ' := t1) (pc2 := 14) (l2 := [some (.ref 56), some (.int (nI dr)), some (.int (nI 1))]) (t := []) (fun f => rfl) (pi_M_inT ((z_B_in (by omega)).mpr (⟨_, by omega, rfl⟩))) ?_
  rintro _ _ ⟨rfl, rfl⟩
  refine pi_cf 1 (c := nI 1 = 0) (pc' := 17) (l' := [some (.ref 56), some (.int (nI dr)), some (.int (nI 1))]) (st' := []) (σ' := t1) (pc2 := 26) (l2 := [some (.ref 56), some (.int (nI dr)), some (.int (nI 1))]) (st2 := []) (σ2 := t1) (fun f => rfl) (by decide) ?_
  refine pi_ca 4 (m' := 144) (l' := [some (.ref 56), some (.int (nI dr)), some (.int (nI 1)), none, none]) (σ' := t1) (pc2 := 23) (l2 := [some (.ref 56), some (.int (nI dr)), some (.int (nI 1))]) (t := []) (fun f => rfl) (pi_M_netsOf1 (dr := dr) gt1.mr (by omega)) ?_
  rintro _ t2 ⟨rfl, gt2, rt2⟩
  refine pi_rt 2 (v := some (.int (z_rc W.up W.lo W.ns dr (nI 0)))) (σ' := t2) (fun f => rfl) ?_
  exact ⟨rfl, gt2.mr, pi_fr_t2 rt2 (pi_fr_t2 rt1 (pi_fr_rf))⟩
set_option maxRecDepth 20000 in
theorem pi_P_bribe_bad {xs : Nat → Int32} {L d : Nat} {W : zW} {σ : pi_S} (hm : z_MR W σ) {a b : Int32} (hb : ¬ (z_B W.ns a ∧ z_B 3 b))  : pi_wp xs L (d + 9) 149 0 [some (.ref 56), some (.int a), some (.int b)] [] σ (fun v s => v = some (.int (-2)) ∧ z_MR W s ∧ pi_fr z_RC s σ) := by
  have hk := hm.wk
  have hnd8 := hk.wd.nd8
  have hns12 := hk.wd.ns12
  have hn60 := hk.nine
  have hnf := hk.nf
  have hnw := hk.nw
  have hnc := hk.nc
  have hn08 := hk.wd.n0
  have hn140 := hk.wd.n1
  refine pi_ca 3 (m' := 114) (l' := [some (.ref 56), some (.int a)]) (σ' := σ) (pc2 := 5) (l2 := [some (.ref 56), some (.int a), some (.int b)]) (t := []) (fun f => rfl) (pi_M_isStreet hm a) ?_
  rintro _ t1 (⟨b1, rfl, gt1, rt1⟩ | ⟨b1, rfl, gt1, rt1⟩)
  · refine pi_cf 1 (c := nI 1 = 0) (pc' := 8) (l' := [some (.ref 56), some (.int a), some (.int b)]) (st' := []) (σ' := t1) (pc2 := 26) (l2 := [some (.ref 56), some (.int a), some (.int b)]) (st2 := []) (σ2 := t1) (fun f => rfl) (by decide) ?_
    refine pi_ca 4 (m' := 100) (l' := [some (.int b), some (.int (nI 0)), some (.int (nI 2))]) (σ' := t1) (pc2 := 14) (l2 := [some (.ref 56), some (.int a), some (.int b)]) (t := []) (fun f => rfl) (pi_M_inB (p := z_B 3 b) (z_B_in (by omega))) ?_
    rintro _ _ (⟨b2, rfl, rfl⟩ | ⟨b2, rfl, rfl⟩)
    · refine pi_cf 1 (c := nI 1 = 0) (pc' := 17) (l' := [some (.ref 56), some (.int a), some (.int b)]) (st' := []) (σ' := t1) (pc2 := 26) (l2 := [some (.ref 56), some (.int a), some (.int b)]) (st2 := []) (σ2 := t1) (fun f => rfl) (by decide) ?_
      exact (hb ⟨b1, b2⟩).elim
    · refine pi_ct 1 (c := nI 0 = 0) (pc' := 26) (l' := [some (.ref 56), some (.int a), some (.int b)]) (st' := []) (σ' := t1) (pc2 := 17) (l2 := [some (.ref 56), some (.int a), some (.int b)]) (st2 := []) (σ2 := t1) (fun f => rfl) (by decide) ?_
      refine pi_rt 2 (v := some (.int (-2))) (σ' := t1) (fun f => rfl) ?_
      exact ⟨rfl, gt1.mr, pi_fr_t2 rt1 (pi_fr_rf)⟩
  · refine pi_ct 1 (c := nI 0 = 0) (pc' := 26) (l' := [some (.ref 56), some (.int a), some (.int b)]) (st' := []) (σ' := t1) (pc2 := 8) (l2 := [some (.ref 56), some (.int a), some (.int b)]) (st2 := []) (σ2 := t1) (fun f => rfl) (by decide) ?_
    refine pi_rt 2 (v := some (.int (-2))) (σ' := t1) (fun f => rfl) ?_
    exact ⟨rfl, gt1.mr, pi_fr_t2 rt1 (pi_fr_rf)⟩
set_option maxRecDepth 20000 in
theorem pi_P_bribe0 {xs : Nat → Int32} {L d : Nat} {W : zW} {σ : pi_S} (hm : z_MR W σ) {st : Nat} (hs : st < W.ns)  : pi_wp xs L (d + 9) 149 0 [some (.ref 56), some (.int (nI st)), some (.int (nI 0))] [] σ (fun v s => v = some (.int (z_more W st)) ∧ z_MR W s ∧ pi_fr z_RC s σ) := by
  have hk := hm.wk
  have hnd8 := hk.wd.nd8
  have hns12 := hk.wd.ns12
  have hn60 := hk.nine
  have hnf := hk.nf
  have hnw := hk.nw
  have hnc := hk.nc
  have hn08 := hk.wd.n0
  have hn140 := hk.wd.n1
  refine pi_ca 3 (m' := 114) (l' := [some (.ref 56), some (.int (nI st))]) (σ' := σ) (pc2 := 5) (l2 := [some (.ref 56), some (.int (nI st)), some (.int (nI 0))]) (t := []) (fun f => rfl) (pi_M_isStreetT hm ⟨_, by omega, rfl⟩) ?_
  rintro _ t1 ⟨rfl, gt1, rt1⟩
  refine pi_cf 1 (c := nI 1 = 0) (pc' := 8) (l' := [some (.ref 56), some (.int (nI st)), some (.int (nI 0))]) (st' := []) (σ' := t1) (pc2 := 26) (l2 := [some (.ref 56), some (.int (nI st)), some (.int (nI 0))]) (st2 := []) (σ2 := t1) (fun f => rfl) (by decide) ?_
  refine pi_ca 4 (m' := 100) (l' := [some (.int (nI 0)), some (.int (nI 0)), some (.int (nI 2))]) (σ' := t1) (pc2 := 14) (l2 := [some (.ref 56), some (.int (nI st)), some (.int (nI 0))]) (t := []) (fun f => rfl) (pi_M_inT ((z_B_in (by omega)).mpr (⟨_, by omega, rfl⟩))) ?_
  rintro _ _ ⟨rfl, rfl⟩
  refine pi_cf 1 (c := nI 1 = 0) (pc' := 17) (l' := [some (.ref 56), some (.int (nI st)), some (.int (nI 0))]) (st' := []) (σ' := t1) (pc2 := 26) (l2 := [some (.ref 56), some (.int (nI st)), some (.int (nI 0))]) (st2 := []) (σ2 := t1) (fun f => rfl) (by decide) ?_
  refine pi_ca 4 (m' := 148) (l' := [some (.ref 56), some (.int (nI st)), some (.int (nI 0)), none, none, none]) (σ' := t1) (pc2 := 23) (l2 := [some (.ref 56), some (.int (nI st)), some (.int (nI 0))]) (t := []) (fun f => rfl) (pi_M_bribeOf0 (st := st) gt1.mr (by omega)) ?_
  rintro _ t2 ⟨rfl, gt2, rt2⟩
  refine pi_rt 2 (v := some (.int (z_more W st))) (σ' := t2) (fun f => rfl) ?_
  exact ⟨rfl, gt2.mr, pi_fr_t2 rt2 (pi_fr_t2 rt1 (pi_fr_rf))⟩
set_option maxRecDepth 20000 in
theorem pi_P_bribe1 {xs : Nat → Int32} {L d : Nat} {W : zW} {σ : pi_S} (hm : z_MR W σ) {st : Nat} (hs : st < W.ns)  : pi_wp xs L (d + 9) 149 0 [some (.ref 56), some (.int (nI st)), some (.int (nI 1))] [] σ (fun v s => v = some (.int (z_less W st)) ∧ z_MR W s ∧ pi_fr z_RC s σ) := by
  have hk := hm.wk
  have hnd8 := hk.wd.nd8
  have hns12 := hk.wd.ns12
  have hn60 := hk.nine
  have hnf := hk.nf
  have hnw := hk.nw
  have hnc := hk.nc
  have hn08 := hk.wd.n0
  have hn140 := hk.wd.n1
  refine pi_ca 3 (m' := 114) (l' := [some (.ref 56), some (.int (nI st))]) (σ' := σ) (pc2 := 5) (l2 := [some (.ref 56), some (.int (nI st)), some (.int (nI 1))]) (t := []) (fun f => rfl) (pi_M_isStreetT hm ⟨_, by omega, rfl⟩) ?_
  rintro _ t1 ⟨rfl, gt1, rt1⟩
  refine pi_cf 1 (c := nI 1 = 0) (pc' := 8) (l' := [some (.ref 56), some (.int (nI st)), some (.int (nI 1))]) (st' := []) (σ' := t1) (pc2 := 26) (l2 := [some (.ref 56), some (.int (nI st)), some (.int (nI 1))]) (st2 := []) (σ2 := t1) (fun f => rfl) (by decide) ?_
  refine pi_ca 4 (m' := 100) (l' := [some (.int (nI 1)), some (.int (nI 0)), some (.int (nI 2))]) (σ' := t1) (pc2 := 14) (l2 := [some (.ref 56), some (.int (nI st)), some (.int (nI 1))]) (t := []) (fun f => rfl) (pi_M_inT ((z_B_in (by omega)).mpr (⟨_, by omega, rfl⟩))) ?_
  rintro _ _ ⟨rfl, rfl⟩
  refine pi_cf 1 (c := nI 1 = 0) (pc' := 17) (l' := [some (.ref 56), some (.int (nI st)), some (.int (nI 1))]) (st' := []) (σ' := t1) (pc2 := 26) (l2 := [some (.ref 56), some (.int (nI st)), some (.int (nI 1))]) (st2 := []) (σ2 := t1) (fun f => rfl) (by decide) ?_
  refine pi_ca 4 (m' := 148) (l' := [some (.ref 56), some (.int (nI st)), some (.int (nI 1)), none, none, none]) (σ' := t1) (pc2 := 23) (l2 := [some (.ref 56), some (.int (nI st)), some (.int (nI 1))]) (t := []) (fun f => rfl) (pi_M_bribeOf1 (st := st) gt1.mr (by omega)) ?_
  rintro _ t2 ⟨rfl, gt2, rt2⟩
  refine pi_rt 2 (v := some (.int (z_less W st))) (σ' := t2) (fun f => rfl) ?_
  exact ⟨rfl, gt2.mr, pi_fr_t2 rt2 (pi_fr_t2 rt1 (pi_fr_rf))⟩
set_option maxRecDepth 20000 in
theorem pi_P_bribe2 {xs : Nat → Int32} {L d : Nat} {W : zW} {σ : pi_S} (hm : z_MR W σ) {st : Nat} (hs : st < W.ns)  : pi_wp xs L (d + 9) 149 0 [some (.ref 56), some (.int (nI st)), some (.int (nI 2))] [] σ (fun v s => v = some (.int (z_br W st)) ∧ z_MR W s ∧ pi_fr z_RC s σ) := by
  have hk := hm.wk
  have hnd8 := hk.wd.nd8
  have hns12 := hk.wd.ns12
  have hn60 := hk.nine
  have hnf := hk.nf
  have hnw := hk.nw
  have hnc := hk.nc
  have hn08 := hk.wd.n0
  have hn140 := hk.wd.n1
  refine pi_ca 3 (m' := 114) (l' := [some (.ref 56), some (.int (nI st))]) (σ' := σ) (pc2 := 5) (l2 := [some (.ref 56), some (.int (nI st)), some (.int (nI 2))]) (t := []) (fun f => rfl) (pi_M_isStreetT hm ⟨_, by omega, rfl⟩) ?_
  rintro _ t1 ⟨rfl, gt1, rt1⟩
  refine pi_cf 1 (c := nI 1 = 0) (pc' := 8) (l' := [some (.ref 56), some (.int (nI st)), some (.int (nI 2))]) (st' := []) (σ' := t1) (pc2 := 26) (l2 := [some (.ref 56), some (.int (nI st)), some (.int (nI 2))]) (st2 := []) (σ2 := t1) (fun f => rfl) (by decide) ?_
  refine pi_ca 4 (m' := 100) (l' := [some (.int (nI 2)), some (.int (nI 0)), some (.int (nI 2))]) (σ' := t1) (pc2 := 14) (l2 := [some (.ref 56), some (.int (nI st)), some (.int (nI 2))]) (t := []) (fun f => rfl) (pi_M_inT ((z_B_in (by omega)).mpr (⟨_, by omega, rfl⟩))) ?_
  rintro _ _ ⟨rfl, rfl⟩
  refine pi_cf 1 (c := nI 1 = 0) (pc' := 17) (l' := [some (.ref 56), some (.int (nI st)), some (.int (nI 2))]) (st' := []) (σ' := t1) (pc2 := 26) (l2 := [some (.ref 56), some (.int (nI st)), some (.int (nI 2))]) (st2 := []) (σ2 := t1) (fun f => rfl) (by decide) ?_
  refine pi_ca 4 (m' := 148) (l' := [some (.ref 56), some (.int (nI st)), some (.int (nI 2)), none, none, none]) (σ' := t1) (pc2 := 23) (l2 := [some (.ref 56), some (.int (nI st)), some (.int (nI 2))]) (t := []) (fun f => rfl) (pi_M_bribeOf2 (st := st) gt1.mr (by omega)) ?_
  rintro _ t2 ⟨rfl, gt2, rt2⟩
  refine pi_rt 2 (v := some (.int (z_br W st))) (σ' := t2) (fun f => rfl) ?_
  exact ⟨rfl, gt2.mr, pi_fr_t2 rt2 (pi_fr_t2 rt1 (pi_fr_rf))⟩
set_option maxRecDepth 20000 in
theorem pi_P_rests {xs : Nat → Int32} {L d : Nat} {W : zW} {σ : pi_S} (hm : z_MR W σ)   : pi_wp xs L (d + 9) 151 0 [some (.ref 56)] [] σ (fun v s => v = some (.int (z_rests W W.ns)) ∧ z_MR W s ∧ pi_fr z_RC s σ) := by
  have hk := hm.wk
  have hnd8 := hk.wd.nd8
  have hns12 := hk.wd.ns12
  have hn60 := hk.nine
  have hnf := hk.nf
  have hnw := hk.nw
  have hnc := hk.nc
  have hn08 := hk.wd.n0
  have hn140 := hk.wd.n1
  refine pi_ca 2 (m' := 150) (l' := [some (.ref 56), none, none]) (σ' := σ) (pc2 := 4) (l2 := [some (.ref 56)]) (t := []) (fun f => rfl) (pi_M_restsNow hm ) ?_
  rintro _ t1 ⟨rfl, gt1, rt1⟩
  refine pi_rt 1 (v := some (.int (z_rests W W.ns))) (σ' := t1) (fun f => rfl) ?_
  exact ⟨rfl, gt1.mr, pi_fr_t2 rt1 (pi_fr_rf)⟩
set_option maxRecDepth 20000 in
theorem pi_P_origin_bad {xs : Nat → Int32} {L d : Nat} {W : zW} {σ : pi_S} (hm : z_MR W σ) {a b : Int32} (hb : ¬ (z_B W.nd a ∧ z_B 5 b))  : pi_wp xs L (d + 9) 159 0 [some (.ref 56), some (.int a), some (.int b)] [] σ (fun v s => v = some (.int (-2)) ∧ z_MR W s ∧ pi_fr z_RC s σ) := by
  have hk := hm.wk
  have hnd8 := hk.wd.nd8
  have hns12 := hk.wd.ns12
  have hn60 := hk.nine
  have hnf := hk.nf
  have hnw := hk.nw
  have hnc := hk.nc
  have hn08 := hk.wd.n0
  have hn140 := hk.wd.n1
  refine pi_ca 3 (m' := 113) (l' := [some (.ref 56), some (.int a)]) (σ' := σ) (pc2 := 5) (l2 := [some (.ref 56), some (.int a), some (.int b)]) (t := []) (fun f => rfl) (pi_M_isDoor hm a) ?_
  rintro _ t1 (⟨b1, rfl, gt1, rt1⟩ | ⟨b1, rfl, gt1, rt1⟩)
  · refine pi_cf 1 (c := nI 1 = 0) (pc' := 8) (l' := [some (.ref 56), some (.int a), some (.int b)]) (st' := []) (σ' := t1) (pc2 := 26) (l2 := [some (.ref 56), some (.int a), some (.int b)]) (st2 := []) (σ2 := t1) (fun f => rfl) (by decide) ?_
    refine pi_ca 4 (m' := 100) (l' := [some (.int b), some (.int (nI 0)), some (.int (nI 4))]) (σ' := t1) (pc2 := 14) (l2 := [some (.ref 56), some (.int a), some (.int b)]) (t := []) (fun f => rfl) (pi_M_inB (p := z_B 5 b) (z_B_in (by omega))) ?_
    rintro _ _ (⟨b2, rfl, rfl⟩ | ⟨b2, rfl, rfl⟩)
    · refine pi_cf 1 (c := nI 1 = 0) (pc' := 17) (l' := [some (.ref 56), some (.int a), some (.int b)]) (st' := []) (σ' := t1) (pc2 := 26) (l2 := [some (.ref 56), some (.int a), some (.int b)]) (st2 := []) (σ2 := t1) (fun f => rfl) (by decide) ?_
      exact (hb ⟨b1, b2⟩).elim
    · refine pi_ct 1 (c := nI 0 = 0) (pc' := 26) (l' := [some (.ref 56), some (.int a), some (.int b)]) (st' := []) (σ' := t1) (pc2 := 17) (l2 := [some (.ref 56), some (.int a), some (.int b)]) (st2 := []) (σ2 := t1) (fun f => rfl) (by decide) ?_
      refine pi_rt 2 (v := some (.int (-2))) (σ' := t1) (fun f => rfl) ?_
      exact ⟨rfl, gt1.mr, pi_fr_t2 rt1 (pi_fr_rf)⟩
  · refine pi_ct 1 (c := nI 0 = 0) (pc' := 26) (l' := [some (.ref 56), some (.int a), some (.int b)]) (st' := []) (σ' := t1) (pc2 := 8) (l2 := [some (.ref 56), some (.int a), some (.int b)]) (st2 := []) (σ2 := t1) (fun f => rfl) (by decide) ?_
    refine pi_rt 2 (v := some (.int (-2))) (σ' := t1) (fun f => rfl) ?_
    exact ⟨rfl, gt1.mr, pi_fr_t2 rt1 (pi_fr_rf)⟩
set_option maxRecDepth 20000 in
theorem pi_P_origin {xs : Nat → Int32} {L d : Nat} {W : zW} {σ : pi_S} (hm : z_MR W σ) {dr kd : Nat} (hd : dr < W.nd) (hkd : kd < 5)  : pi_wp xs L (d + 9) 159 0 [some (.ref 56), some (.int (nI dr)), some (.int (nI kd))] [] σ (fun v s => v = some (.int ((z_A W).1.1.2 (5 * dr + kd))) ∧ z_MR W s ∧ pi_fr z_RC s σ) := by
  have hk := hm.wk
  have hnd8 := hk.wd.nd8
  have hns12 := hk.wd.ns12
  have hn60 := hk.nine
  have hnf := hk.nf
  have hnw := hk.nw
  have hnc := hk.nc
  have hn08 := hk.wd.n0
  have hn140 := hk.wd.n1
  refine pi_ca 3 (m' := 113) (l' := [some (.ref 56), some (.int (nI dr))]) (σ' := σ) (pc2 := 5) (l2 := [some (.ref 56), some (.int (nI dr)), some (.int (nI kd))]) (t := []) (fun f => rfl) (pi_M_isDoorT hm ⟨_, by omega, rfl⟩) ?_
  rintro _ t1 ⟨rfl, gt1, rt1⟩
  refine pi_cf 1 (c := nI 1 = 0) (pc' := 8) (l' := [some (.ref 56), some (.int (nI dr)), some (.int (nI kd))]) (st' := []) (σ' := t1) (pc2 := 26) (l2 := [some (.ref 56), some (.int (nI dr)), some (.int (nI kd))]) (st2 := []) (σ2 := t1) (fun f => rfl) (by decide) ?_
  refine pi_ca 4 (m' := 100) (l' := [some (.int (nI kd)), some (.int (nI 0)), some (.int (nI 4))]) (σ' := t1) (pc2 := 14) (l2 := [some (.ref 56), some (.int (nI dr)), some (.int (nI kd))]) (t := []) (fun f => rfl) (pi_M_inT ((z_B_in (by omega)).mpr (⟨_, by omega, rfl⟩))) ?_
  rintro _ _ ⟨rfl, rfl⟩
  refine pi_cf 1 (c := nI 1 = 0) (pc' := 17) (l' := [some (.ref 56), some (.int (nI dr)), some (.int (nI kd))]) (st' := []) (σ' := t1) (pc2 := 26) (l2 := [some (.ref 56), some (.int (nI dr)), some (.int (nI kd))]) (st2 := []) (σ2 := t1) (fun f => rfl) (by decide) ?_
  refine pi_ca 4 (m' := 158) (l' := [some (.ref 56), some (.int (nI dr)), some (.int (nI kd))]) (σ' := t1) (pc2 := 23) (l2 := [some (.ref 56), some (.int (nI dr)), some (.int (nI kd))]) (t := []) (fun f => rfl) (pi_M_originOf (dr := dr) (kd := kd) gt1.mr (by omega) (by omega)) ?_
  rintro _ t2 ⟨rfl, gt2, rt2⟩
  refine pi_rt 2 (v := some (.int ((z_A W).1.1.2 (5 * dr + kd)))) (σ' := t2) (fun f => rfl) ?_
  exact ⟨rfl, gt2.mr, pi_fr_t2 rt2 (pi_fr_t2 rt1 (pi_fr_rf))⟩
set_option maxRecDepth 20000 in
theorem pi_P_best {xs : Nat → Int32} {L d : Nat} {W : zW} {σ : pi_S} (hm : z_MR W σ)   : pi_wp xs L (d + 9) 161 0 [some (.ref 56)] [] σ (fun v s => v = some (.int (z_bv (z_fine W.rt (z_A W).1.1.1) W.nd)) ∧ z_MR W s ∧ pi_fr z_RC s σ) := by
  have hk := hm.wk
  have hnd8 := hk.wd.nd8
  have hns12 := hk.wd.ns12
  have hn60 := hk.nine
  have hnf := hk.nf
  have hnw := hk.nw
  have hnc := hk.nc
  have hn08 := hk.wd.n0
  have hn140 := hk.wd.n1
  refine pi_ca 2 (m' := 160) (l' := [some (.ref 56), none, none]) (σ' := σ) (pc2 := 4) (l2 := [some (.ref 56)]) (t := []) (fun f => rfl) (pi_M_bestNow hm ) ?_
  rintro _ t1 ⟨rfl, gt1, rt1⟩
  refine pi_rt 1 (v := some (.int (z_bv (z_fine W.rt (z_A W).1.1.1) W.nd))) (σ' := t1) (fun f => rfl) ?_
  exact ⟨rfl, gt1.mr, pi_fr_t2 rt1 (pi_fr_rf)⟩
set_option maxRecDepth 20000 in
theorem pi_P_who_bad {xs : Nat → Int32} {L d : Nat} {W : zW} {σ : pi_S} (hm : z_MR W σ) {a b c : Int32} (hb : ¬ (z_B (W.nine + 1) a ∧ z_B 5 b ∧ z_B W.nd c))  : pi_wp xs L (d + 9) 157 0 [some (.ref 56), some (.int a), some (.int b), some (.int c)] [] σ (fun v s => v = some (.int (-2)) ∧ z_MR W s ∧ pi_fr z_RC s σ) := by
  have hk := hm.wk
  have hnd8 := hk.wd.nd8
  have hns12 := hk.wd.ns12
  have hn60 := hk.nine
  have hnf := hk.nf
  have hnw := hk.nw
  have hnc := hk.nc
  have hn08 := hk.wd.n0
  have hn140 := hk.wd.n1
  refine pi_go 4 (pc' := 6) (l' := [some (.ref 56), some (.int a), some (.int b), some (.int c)]) (st' := [.int (σ 56 10), .int (nI 0), .int a]) (σ' := σ) (fun f => rfl) ?_
  refine pi_tp (y := nI W.nine) (hm.nine) ?_
  refine pi_ca 1 (m' := 100) (l' := [some (.int a), some (.int (nI 0)), some (.int (nI W.nine))]) (σ' := σ) (pc2 := 9) (l2 := [some (.ref 56), some (.int a), some (.int b), some (.int c)]) (t := []) (fun f => rfl) (pi_M_inB (p := z_B (W.nine + 1) a) (z_B_in (by omega))) ?_
  rintro _ _ (⟨b1, rfl, rfl⟩ | ⟨b1, rfl, rfl⟩)
  · refine pi_cf 1 (c := nI 1 = 0) (pc' := 12) (l' := [some (.ref 56), some (.int a), some (.int b), some (.int c)]) (st' := []) (σ' := σ) (pc2 := 39) (l2 := [some (.ref 56), some (.int a), some (.int b), some (.int c)]) (st2 := []) (σ2 := σ) (fun f => rfl) (by decide) ?_
    refine pi_ca 4 (m' := 100) (l' := [some (.int b), some (.int (nI 0)), some (.int (nI 4))]) (σ' := σ) (pc2 := 18) (l2 := [some (.ref 56), some (.int a), some (.int b), some (.int c)]) (t := []) (fun f => rfl) (pi_M_inB (p := z_B 5 b) (z_B_in (by omega))) ?_
    rintro _ _ (⟨b2, rfl, rfl⟩ | ⟨b2, rfl, rfl⟩)
    · refine pi_cf 1 (c := nI 1 = 0) (pc' := 21) (l' := [some (.ref 56), some (.int a), some (.int b), some (.int c)]) (st' := []) (σ' := σ) (pc2 := 39) (l2 := [some (.ref 56), some (.int a), some (.int b), some (.int c)]) (st2 := []) (σ2 := σ) (fun f => rfl) (by decide) ?_
      refine pi_ca 3 (m' := 113) (l' := [some (.ref 56), some (.int c)]) (σ' := σ) (pc2 := 26) (l2 := [some (.ref 56), some (.int a), some (.int b), some (.int c)]) (t := []) (fun f => rfl) (pi_M_isDoor hm c) ?_
      rintro _ t1 (⟨b3, rfl, gt1, rt1⟩ | ⟨b3, rfl, gt1, rt1⟩)
      · refine pi_cf 1 (c := nI 1 = 0) (pc' := 29) (l' := [some (.ref 56), some (.int a), some (.int b), some (.int c)]) (st' := []) (σ' := t1) (pc2 := 39) (l2 := [some (.ref 56), some (.int a), some (.int b), some (.int c)]) (st2 := []) (σ2 := t1) (fun f => rfl) (by decide) ?_
        exact (hb ⟨b1, b2, b3⟩).elim
      · refine pi_ct 1 (c := nI 0 = 0) (pc' := 39) (l' := [some (.ref 56), some (.int a), some (.int b), some (.int c)]) (st' := []) (σ' := t1) (pc2 := 29) (l2 := [some (.ref 56), some (.int a), some (.int b), some (.int c)]) (st2 := []) (σ2 := t1) (fun f => rfl) (by decide) ?_
        refine pi_rt 2 (v := some (.int (-2))) (σ' := t1) (fun f => rfl) ?_
        exact ⟨rfl, gt1.mr, pi_fr_t2 rt1 (pi_fr_rf)⟩
    · refine pi_ct 1 (c := nI 0 = 0) (pc' := 39) (l' := [some (.ref 56), some (.int a), some (.int b), some (.int c)]) (st' := []) (σ' := σ) (pc2 := 21) (l2 := [some (.ref 56), some (.int a), some (.int b), some (.int c)]) (st2 := []) (σ2 := σ) (fun f => rfl) (by decide) ?_
      refine pi_rt 2 (v := some (.int (-2))) (σ' := σ) (fun f => rfl) ?_
      exact ⟨rfl, hm, pi_fr_rf⟩
  · refine pi_ct 1 (c := nI 0 = 0) (pc' := 39) (l' := [some (.ref 56), some (.int a), some (.int b), some (.int c)]) (st' := []) (σ' := σ) (pc2 := 12) (l2 := [some (.ref 56), some (.int a), some (.int b), some (.int c)]) (st2 := []) (σ2 := σ) (fun f => rfl) (by decide) ?_
    refine pi_rt 2 (v := some (.int (-2))) (σ' := σ) (fun f => rfl) ?_
    exact ⟨rfl, hm, pi_fr_rf⟩
set_option maxRecDepth 20000 in
theorem pi_P_who {xs : Nat → Int32} {L d : Nat} {W : zW} {σ : pi_S} (hm : z_MR W σ) (hnf20 : W.nf ≤ 20) {mi kd dr : Nat} (hi : mi < W.nine + 1) (hkd : kd < 5) (hd : dr < W.nd)  : pi_wp xs L (d + 9) 157 0 [some (.ref 56), some (.int (nI mi)), some (.int (nI kd)), some (.int (nI dr))] [] σ (fun v s => v = some (.int (z_who W (nI mi) kd dr W.nd)) ∧ z_MR W s ∧ pi_fr z_RC s σ) := by
  have hk := hm.wk
  have hnd8 := hk.wd.nd8
  have hns12 := hk.wd.ns12
  have hn60 := hk.nine
  have hnf := hk.nf
  have hnw := hk.nw
  have hnc := hk.nc
  have hn08 := hk.wd.n0
  have hn140 := hk.wd.n1
  refine pi_go 4 (pc' := 6) (l' := [some (.ref 56), some (.int (nI mi)), some (.int (nI kd)), some (.int (nI dr))]) (st' := [.int (σ 56 10), .int (nI 0), .int (nI mi)]) (σ' := σ) (fun f => rfl) ?_
  refine pi_tp (y := nI W.nine) (hm.nine) ?_
  refine pi_ca 1 (m' := 100) (l' := [some (.int (nI mi)), some (.int (nI 0)), some (.int (nI W.nine))]) (σ' := σ) (pc2 := 9) (l2 := [some (.ref 56), some (.int (nI mi)), some (.int (nI kd)), some (.int (nI dr))]) (t := []) (fun f => rfl) (pi_M_inT ((z_B_in (by omega)).mpr (⟨_, by omega, rfl⟩))) ?_
  rintro _ _ ⟨rfl, rfl⟩
  refine pi_cf 1 (c := nI 1 = 0) (pc' := 12) (l' := [some (.ref 56), some (.int (nI mi)), some (.int (nI kd)), some (.int (nI dr))]) (st' := []) (σ' := σ) (pc2 := 39) (l2 := [some (.ref 56), some (.int (nI mi)), some (.int (nI kd)), some (.int (nI dr))]) (st2 := []) (σ2 := σ) (fun f => rfl) (by decide) ?_
  refine pi_ca 4 (m' := 100) (l' := [some (.int (nI kd)), some (.int (nI 0)), some (.int (nI 4))]) (σ' := σ) (pc2 := 18) (l2 := [some (.ref 56), some (.int (nI mi)), some (.int (nI kd)), some (.int (nI dr))]) (t := []) (fun f => rfl) (pi_M_inT ((z_B_in (by omega)).mpr (⟨_, by omega, rfl⟩))) ?_
  rintro _ _ ⟨rfl, rfl⟩
  refine pi_cf 1 (c := nI 1 = 0) (pc' := 21) (l' := [some (.ref 56), some (.int (nI mi)), some (.int (nI kd)), some (.int (nI dr))]) (st' := []) (σ' := σ) (pc2 := 39) (l2 := [some (.ref 56), some (.int (nI mi)), some (.int (nI kd)), some (.int (nI dr))]) (st2 := []) (σ2 := σ) (fun f => rfl) (by decide) ?_
  refine pi_ca 3 (m' := 113) (l' := [some (.ref 56), some (.int (nI dr))]) (σ' := σ) (pc2 := 26) (l2 := [some (.ref 56), some (.int (nI mi)), some (.int (nI kd)), some (.int (nI dr))]) (t := []) (fun f => rfl) (pi_M_isDoorT hm ⟨_, by omega, rfl⟩) ?_
  rintro _ t1 ⟨rfl, gt1, rt1⟩
  refine pi_cf 1 (c := nI 1 = 0) (pc' := 29) (l' := [some (.ref 56), some (.int (nI mi)), some (.int (nI kd)), some (.int (nI dr))]) (st' := []) (σ' := t1) (pc2 := 39) (l2 := [some (.ref 56), some (.int (nI mi)), some (.int (nI kd)), some (.int (nI dr))]) (st2 := []) (σ2 := t1) (fun f => rfl) (by decide) ?_
  refine pi_ca 5 (m' := 156) (l' := [some (.ref 56), some (.int (nI mi)), some (.int (nI kd)), some (.int (nI dr)), none, none, none]) (σ' := t1) (pc2 := 36) (l2 := [some (.ref 56), some (.int (nI mi)), some (.int (nI kd)), some (.int (nI dr))]) (t := []) (fun f => rfl) (pi_M_whoOf (mi := mi) (kd := kd) (dr := dr) gt1.mr (by omega) (by omega) (by omega) (by omega)) ?_
  rintro _ t2 ⟨rfl, gt2, rt2⟩
  refine pi_rt 2 (v := some (.int (z_who W (nI mi) kd dr W.nd))) (σ' := t2) (fun f => rfl) ?_
  exact ⟨rfl, gt2.mr, pi_fr_t2 rt2 (pi_fr_t2 rt1 (pi_fr_rf))⟩
