theorem z_nnI {i : Int32} (h : ¬ i < 0) : ∃ a, a < 2 ^ 31 ∧ i = nI a := by
  obtain ⟨j, hj, e⟩ := nI_of (x := i) h
  exact ⟨j, hj, e⟩
theorem nL_add {a b : Nat} (ha : a < 2 ^ 31) (hb : b < 2 ^ 31) : (nL a + nL b).toInt = (a + b : Nat) := by
  rw [Int64.toInt_add, nL_toInt ha, nL_toInt hb, nL_bmod (by omega) (by omega)]
  omega
theorem z_lc {i n z : Nat} (hi : i < 2 ^ 31) (hn : n < 2 ^ 31) (hz : z < 2 ^ 31) : lg_cmp (Int32.toInt64 (nI i) + Int32.toInt64 (nI n)) (Int32.toInt64 (nI z)) ≤ 0 ↔ i + n ≤ z := by
  rw [nL_i2l hi, nL_i2l hn, nL_i2l hz]
  have h1 := nL_add hi hn
  have h2 := nL_toInt hz
  unfold lg_cmp
  by_cases q : nL i + nL n = nL z
  · have := congrArg Int64.toInt q
    simp only [q, if_true]
    have irr : ¬ nL z > nL z := fun w => by
      have := Int64.lt_iff_toInt_lt.mp w
      omega
    simp only [irr, if_false]
    exact ⟨fun _ => by omega, fun _ => by decide⟩
  · by_cases q2 : nL i + nL n < nL z
    · have := Int64.lt_iff_toInt_lt.mp q2
      have q3 : ¬ nL i + nL n > nL z := fun w => by
        have := Int64.lt_iff_toInt_lt.mp w
        omega
      simp only [q, q2, q3, if_true, if_false]
      exact ⟨fun _ => by omega, fun _ => by decide⟩
    · have q3 : nL i + nL n > nL z := by
        apply Int64.lt_iff_toInt_lt.mpr
        have a1 : ¬ (nL i + nL n).toInt < (nL z).toInt := fun w => q2 (Int64.lt_iff_toInt_lt.mpr w)
        have a2 : ¬ (nL i + nL n).toInt = (nL z).toInt := fun w => q (Int64.toInt_inj.mp w)
        omega
      have q4 := Int64.lt_iff_toInt_lt.mp q3
      simp only [q, q2, q3, if_true, if_false]
      exact ⟨fun w => absurd w (by decide), fun _ => by omega⟩
def z_cp (W : zW) (ks kt : Nat) (i j n : Int32) : Prop := ∃ a b c, i = nI a ∧ j = nI b ∧ n = nI c ∧ a + c ≤ W.si ks ∧ b + c ≤ W.si kt
theorem z_cp_of {W : zW} {ks kt : Nat} {i j n : Int32} (hs : W.si ks ≤ 48) (ht : W.si kt ≤ 48) (h1 : ¬ i < 0) (h2 : ¬ j < 0) (h3 : ¬ n < 0) (h4 : lg_cmp (Int32.toInt64 i + Int32.toInt64 n) (Int32.toInt64 (nI (W.si ks))) ≤ 0) (h5 : lg_cmp (Int32.toInt64 j + Int32.toInt64 n) (Int32.toInt64 (nI (W.si kt))) ≤ 0) : z_cp W ks kt i j n := by
  obtain ⟨a, ha, rfl⟩ := z_nnI h1
  obtain ⟨b, hb, rfl⟩ := z_nnI h2
  obtain ⟨c, hc, rfl⟩ := z_nnI h3
  exact ⟨a, b, c, rfl, rfl, rfl, (z_lc ha hc (by omega)).mp h4, (z_lc hb hc (by omega)).mp h5⟩
def z_mvp (g : Nat → Int32) (p n : Nat) (f : Nat → Int32) : Nat → Int32 := pi_lp (fun q f => upd f q (g (p + q))) n f
theorem z_mvp_at (g : Nat → Int32) (p : Nat) (f : Nat → Int32) : ∀ n q, q < n → z_mvp g p n f q = g (p + q) := by
  intro n
  induction n with
  | zero => intro q hq; omega
  | succ n ih =>
    intro q hq
    show upd (z_mvp g p n f) n (g (p + n)) q = _
    by_cases e : q = n
    · rw [e, z_upd_s]
    · rw [z_upd_n _ _ e, ih q (by omega)]
def z_cpy (g : Nat → Int32) (p r n : Nat) : Nat → Int32 := pi_lp (fun q f => upd f (r + q) (g (p + q))) n g
def z_wr (W : zW) (k : Nat) (F : Nat → Int32) (n : Nat) : Nat → Int32 := pi_lp (fun q g => upd g (48 * k + q) (z_nar (W.fo k) (z_all F q))) n W.it
theorem zW.sI_i (W : zW) (i : Nat) (f g : Nat → Int32) : (W.sI i f).sI i g = W.sI i g := by
  unfold zW.sI
  have : z_u (z_u W.2.2.1 i f) i g = z_u W.2.2.1 i g := by
    funext j
    unfold z_u
    split <;> rfl
  rw [this]
theorem zW.sI_self (W : zW) (i : Nat) : W.sI i (W.2.2.1 i) = W := by
  obtain ⟨a, b, c, e⟩ := W
  unfold zW.sI
  have : z_u c i (c i) = c := by
    funext j
    unfold z_u
    split
    · rename_i h; rw [h]
    · rfl
  rw [this]
set_option maxRecDepth 20000 in
theorem pi_P_copy_bad {xs : Nat → Int32} {L d : Nat} {W : zW} {σ : pi_S} (hm : z_MR W σ) {a b c e f : Int32} (hb : ¬ (z_B 4 a ∧ z_B 4 c))  : pi_wp xs L (d + 9) 170 0 [some (.ref 56), some (.int a), some (.int b), some (.int c), some (.int e), some (.int f), none] [] σ (fun v s => v = some (.int (-2)) ∧ z_MR W s ∧ pi_fr z_RC s σ) := by
  have hk := hm.wk
  have hnd8 := hk.wd.nd8
  have hns12 := hk.wd.ns12
  have hn60 := hk.nine
  have hnf := hk.nf
  have hnw := hk.nw
  have hnc := hk.nc
  have hn08 := hk.wd.n0
  have hn140 := hk.wd.n1
  refine pi_ca 2 (m' := 163) (l' := [some (.int a)]) (σ' := σ) (pc2 := 4) (l2 := [some (.ref 56), some (.int a), some (.int b), some (.int c), some (.int e), some (.int f), none]) (t := []) (fun f => rfl) (pi_M_isSheet a) ?_
  rintro _ _ (⟨b1, rfl, rfl⟩ | ⟨b1, rfl, rfl⟩)
  · refine pi_cf 1 (c := nI 1 = 0) (pc' := 7) (l' := [some (.ref 56), some (.int a), some (.int b), some (.int c), some (.int e), some (.int f), none]) (st' := []) (σ' := σ) (pc2 := 14) (l2 := [some (.ref 56), some (.int a), some (.int b), some (.int c), some (.int e), some (.int f), none]) (st2 := []) (σ2 := σ) (fun f => rfl) (by decide) ?_
    refine pi_ca 2 (m' := 163) (l' := [some (.int c)]) (σ' := σ) (pc2 := 11) (l2 := [some (.ref 56), some (.int a), some (.int b), some (.int c), some (.int e), some (.int f), none]) (t := []) (fun f => rfl) (pi_M_isSheet c) ?_
    rintro _ _ (⟨b2, rfl, rfl⟩ | ⟨b2, rfl, rfl⟩)
    · refine pi_cf 1 (c := nI 1 = 0) (pc' := 17) (l' := [some (.ref 56), some (.int a), some (.int b), some (.int c), some (.int e), some (.int f), none]) (st' := []) (σ' := σ) (pc2 := 14) (l2 := [some (.ref 56), some (.int a), some (.int b), some (.int c), some (.int e), some (.int f), none]) (st2 := []) (σ2 := σ) (fun f => rfl) (by decide) ?_
      exact (hb ⟨b1, b2⟩).elim
    · refine pi_ct 1 (c := nI 0 = 0) (pc' := 14) (l' := [some (.ref 56), some (.int a), some (.int b), some (.int c), some (.int e), some (.int f), none]) (st' := []) (σ' := σ) (pc2 := 17) (l2 := [some (.ref 56), some (.int a), some (.int b), some (.int c), some (.int e), some (.int f), none]) (st2 := []) (σ2 := σ) (fun f => rfl) (by decide) ?_
      refine pi_rt 2 (v := some (.int (-2))) (σ' := σ) (fun f => rfl) ?_
      exact ⟨rfl, hm, pi_fr_rf⟩
  · refine pi_ct 1 (c := nI 0 = 0) (pc' := 14) (l' := [some (.ref 56), some (.int a), some (.int b), some (.int c), some (.int e), some (.int f), none]) (st' := []) (σ' := σ) (pc2 := 7) (l2 := [some (.ref 56), some (.int a), some (.int b), some (.int c), some (.int e), some (.int f), none]) (st2 := []) (σ2 := σ) (fun f => rfl) (by decide) ?_
    refine pi_rt 2 (v := some (.int (-2))) (σ' := σ) (fun f => rfl) ?_
    exact ⟨rfl, hm, pi_fr_rf⟩
set_option maxRecDepth 20000 in
theorem pi_P_copy_null1 {xs : Nat → Int32} {L d : Nat} {W : zW} {σ : pi_S} (hm : z_MR W σ) {ks kt : Nat} {i j n : Int32} (hs4 : ks < 4) (ht4 : kt < 4) (h1 : W.th ks = 0)  : pi_wp xs L (d + 9) 170 0 [some (.ref 56), some (.int (nI ks)), some (.int i), some (.int (nI kt)), some (.int j), some (.int n), none] [] σ (fun v s => v = some (.int ((-10) - (nI 1))) ∧ z_MR (W.sS 0 (nI 1)) s ∧ pi_fr z_RC s σ) := by
  have hk := hm.wk
  have hnd8 := hk.wd.nd8
  have hns12 := hk.wd.ns12
  have hn60 := hk.nine
  have hnf := hk.nf
  have hnw := hk.nw
  have hnc := hk.nc
  have hn08 := hk.wd.n0
  have hn140 := hk.wd.n1
  have hsi := hk.si ks hs4
  have hti := hk.si kt ht4
  refine pi_ca 2 (m' := 163) (l' := [some (.int (nI ks))]) (σ' := σ) (pc2 := 4) (l2 := [some (.ref 56), some (.int (nI ks)), some (.int i), some (.int (nI kt)), some (.int j), some (.int n), none]) (t := []) (fun f => rfl) (pi_M_isSheetT ⟨_, by omega, rfl⟩) ?_
  rintro _ _ ⟨rfl, rfl⟩
  refine pi_cf 1 (c := nI 1 = 0) (pc' := 7) (l' := [some (.ref 56), some (.int (nI ks)), some (.int i), some (.int (nI kt)), some (.int j), some (.int n), none]) (st' := []) (σ' := σ) (pc2 := 14) (l2 := [some (.ref 56), some (.int (nI ks)), some (.int i), some (.int (nI kt)), some (.int j), some (.int n), none]) (st2 := []) (σ2 := σ) (fun f => rfl) (by decide) ?_
  refine pi_ca 2 (m' := 163) (l' := [some (.int (nI kt))]) (σ' := σ) (pc2 := 11) (l2 := [some (.ref 56), some (.int (nI ks)), some (.int i), some (.int (nI kt)), some (.int j), some (.int n), none]) (t := []) (fun f => rfl) (pi_M_isSheetT ⟨_, by omega, rfl⟩) ?_
  rintro _ _ ⟨rfl, rfl⟩
  refine pi_cf 1 (c := nI 1 = 0) (pc' := 17) (l' := [some (.ref 56), some (.int (nI ks)), some (.int i), some (.int (nI kt)), some (.int j), some (.int n), none]) (st' := []) (σ' := σ) (pc2 := 14) (l2 := [some (.ref 56), some (.int (nI ks)), some (.int i), some (.int (nI kt)), some (.int j), some (.int n), none]) (st2 := []) (σ2 := σ) (fun f => rfl) (by decide) ?_
  refine pi_ai 4 (u := ks) (n := 4) (g := σ 77) (pc' := 23) (l' := [some (.ref 56), some (.int (nI ks)), some (.int i), some (.int (nI kt)), some (.int j), some (.int n), none]) (t := []) (σ' := σ) (fun f => rfl) (by omega) (by omega) ?_
  refine pi_tp (y := nI (W.th ks)) ((hm.th ks (by omega))) ?_
  refine pi_ct 1 (c := nI (W.th ks) = 0) (pc' := 35) (l' := [some (.ref 56), some (.int (nI ks)), some (.int i), some (.int (nI kt)), some (.int j), some (.int n), none]) (st' := []) (σ' := σ) (pc2 := 26) (l2 := [some (.ref 56), some (.int (nI ks)), some (.int i), some (.int (nI kt)), some (.int j), some (.int n), none]) (st2 := []) (σ2 := σ) (fun f => rfl) (congrArg nI h1) ?_
  refine pi_ca 3 (m' := 162) (l' := [some (.ref 56), some (.int (nI 1))]) (σ' := σ) (pc2 := 40) (l2 := [some (.ref 56), some (.int (nI ks)), some (.int i), some (.int (nI kt)), some (.int j), some (.int n), none]) (t := []) (fun f => rfl) (pi_M_meets (nI 1)) ?_
  rintro _ t1 ⟨rfl, et1, kt1, rt1⟩
  refine pi_rt 1 (v := some (.int ((-10) - (nI 1)))) (σ' := t1) (fun f => rfl) ?_
  have hfr : pi_fr [56] t1 σ := pi_fr_tr rt1 (by decide) (pi_fr_rf)
  exact ⟨rfl, hm.fnd (et1) (pi_fs_ca (kt1) (by decide) (pi_fs_rf)) hfr, pi_fr_tr hfr (by decide) pi_fr_rf⟩
set_option maxRecDepth 20000 in
theorem pi_P_copy_null2 {xs : Nat → Int32} {L d : Nat} {W : zW} {σ : pi_S} (hm : z_MR W σ) {ks kt : Nat} {i j n : Int32} (hs4 : ks < 4) (ht4 : kt < 4) (h1 : ¬ W.th ks = 0) (h2 : W.th kt = 0)  : pi_wp xs L (d + 9) 170 0 [some (.ref 56), some (.int (nI ks)), some (.int i), some (.int (nI kt)), some (.int j), some (.int n), none] [] σ (fun v s => v = some (.int ((-10) - (nI 1))) ∧ z_MR (W.sS 0 (nI 1)) s ∧ pi_fr z_RC s σ) := by
  have hk := hm.wk
  have hnd8 := hk.wd.nd8
  have hns12 := hk.wd.ns12
  have hn60 := hk.nine
  have hnf := hk.nf
  have hnw := hk.nw
  have hnc := hk.nc
  have hn08 := hk.wd.n0
  have hn140 := hk.wd.n1
  have hsi := hk.si ks hs4
  have hti := hk.si kt ht4
  refine pi_ca 2 (m' := 163) (l' := [some (.int (nI ks))]) (σ' := σ) (pc2 := 4) (l2 := [some (.ref 56), some (.int (nI ks)), some (.int i), some (.int (nI kt)), some (.int j), some (.int n), none]) (t := []) (fun f => rfl) (pi_M_isSheetT ⟨_, by omega, rfl⟩) ?_
  rintro _ _ ⟨rfl, rfl⟩
  refine pi_cf 1 (c := nI 1 = 0) (pc' := 7) (l' := [some (.ref 56), some (.int (nI ks)), some (.int i), some (.int (nI kt)), some (.int j), some (.int n), none]) (st' := []) (σ' := σ) (pc2 := 14) (l2 := [some (.ref 56), some (.int (nI ks)), some (.int i), some (.int (nI kt)), some (.int j), some (.int n), none]) (st2 := []) (σ2 := σ) (fun f => rfl) (by decide) ?_
  refine pi_ca 2 (m' := 163) (l' := [some (.int (nI kt))]) (σ' := σ) (pc2 := 11) (l2 := [some (.ref 56), some (.int (nI ks)), some (.int i), some (.int (nI kt)), some (.int j), some (.int n), none]) (t := []) (fun f => rfl) (pi_M_isSheetT ⟨_, by omega, rfl⟩) ?_
  rintro _ _ ⟨rfl, rfl⟩
  refine pi_cf 1 (c := nI 1 = 0) (pc' := 17) (l' := [some (.ref 56), some (.int (nI ks)), some (.int i), some (.int (nI kt)), some (.int j), some (.int n), none]) (st' := []) (σ' := σ) (pc2 := 14) (l2 := [some (.ref 56), some (.int (nI ks)), some (.int i), some (.int (nI kt)), some (.int j), some (.int n), none]) (st2 := []) (σ2 := σ) (fun f => rfl) (by decide) ?_
  refine pi_ai 4 (u := ks) (n := 4) (g := σ 77) (pc' := 23) (l' := [some (.ref 56), some (.int (nI ks)), some (.int i), some (.int (nI kt)), some (.int j), some (.int n), none]) (t := []) (σ' := σ) (fun f => rfl) (by omega) (by omega) ?_
  refine pi_tp (y := nI (W.th ks)) ((hm.th ks (by omega))) ?_
  refine pi_cf 1 (c := nI (W.th ks) = 0) (pc' := 26) (l' := [some (.ref 56), some (.int (nI ks)), some (.int i), some (.int (nI kt)), some (.int j), some (.int n), none]) (st' := []) (σ' := σ) (pc2 := 35) (l2 := [some (.ref 56), some (.int (nI ks)), some (.int i), some (.int (nI kt)), some (.int j), some (.int n), none]) (st2 := []) (σ2 := σ) (fun f => rfl) (fun q => h1 ((nI_eq (by omega) (by omega)).mp q)) ?_
  refine pi_ai 4 (u := kt) (n := 4) (g := σ 77) (pc' := 32) (l' := [some (.ref 56), some (.int (nI ks)), some (.int i), some (.int (nI kt)), some (.int j), some (.int n), none]) (t := []) (σ' := σ) (fun f => rfl) (by omega) (by omega) ?_
  refine pi_tp (y := nI (W.th kt)) ((hm.th kt (by omega))) ?_
  refine pi_ct 1 (c := nI (W.th kt) = 0) (pc' := 35) (l' := [some (.ref 56), some (.int (nI ks)), some (.int i), some (.int (nI kt)), some (.int j), some (.int n), none]) (st' := []) (σ' := σ) (pc2 := 41) (l2 := [some (.ref 56), some (.int (nI ks)), some (.int i), some (.int (nI kt)), some (.int j), some (.int n), none]) (st2 := []) (σ2 := σ) (fun f => rfl) (congrArg nI h2) ?_
  refine pi_ca 3 (m' := 162) (l' := [some (.ref 56), some (.int (nI 1))]) (σ' := σ) (pc2 := 40) (l2 := [some (.ref 56), some (.int (nI ks)), some (.int i), some (.int (nI kt)), some (.int j), some (.int n), none]) (t := []) (fun f => rfl) (pi_M_meets (nI 1)) ?_
  rintro _ t1 ⟨rfl, et1, kt1, rt1⟩
  refine pi_rt 1 (v := some (.int ((-10) - (nI 1)))) (σ' := t1) (fun f => rfl) ?_
  have hfr : pi_fr [56] t1 σ := pi_fr_tr rt1 (by decide) (pi_fr_rf)
  exact ⟨rfl, hm.fnd (et1) (pi_fs_ca (kt1) (by decide) (pi_fs_rf)) hfr, pi_fr_tr hfr (by decide) pi_fr_rf⟩
set_option maxRecDepth 20000 in
theorem pi_P_copy_store {xs : Nat → Int32} {L d : Nat} {W : zW} {σ : pi_S} (hm : z_MR W σ) {ks kt : Nat} {i j n : Int32} (hs4 : ks < 4) (ht4 : kt < 4) (h1 : ¬ W.th ks = 0) (h2 : ¬ W.th kt = 0) (h4 : ¬ W.fo ks = W.fo kt)  : pi_wp xs L (d + 9) 170 0 [some (.ref 56), some (.int (nI ks)), some (.int i), some (.int (nI kt)), some (.int j), some (.int n), none] [] σ (fun v s => v = some (.int ((-10) - (nI 4))) ∧ z_MR (W.sS 0 (nI 4)) s ∧ pi_fr z_RC s σ) := by
  have hk := hm.wk
  have hnd8 := hk.wd.nd8
  have hns12 := hk.wd.ns12
  have hn60 := hk.nine
  have hnf := hk.nf
  have hnw := hk.nw
  have hnc := hk.nc
  have hn08 := hk.wd.n0
  have hn140 := hk.wd.n1
  have hsi := hk.si ks hs4
  have hti := hk.si kt ht4
  refine pi_ca 2 (m' := 163) (l' := [some (.int (nI ks))]) (σ' := σ) (pc2 := 4) (l2 := [some (.ref 56), some (.int (nI ks)), some (.int i), some (.int (nI kt)), some (.int j), some (.int n), none]) (t := []) (fun f => rfl) (pi_M_isSheetT ⟨_, by omega, rfl⟩) ?_
  rintro _ _ ⟨rfl, rfl⟩
  refine pi_cf 1 (c := nI 1 = 0) (pc' := 7) (l' := [some (.ref 56), some (.int (nI ks)), some (.int i), some (.int (nI kt)), some (.int j), some (.int n), none]) (st' := []) (σ' := σ) (pc2 := 14) (l2 := [some (.ref 56), some (.int (nI ks)), some (.int i), some (.int (nI kt)), some (.int j), some (.int n), none]) (st2 := []) (σ2 := σ) (fun f => rfl) (by decide) ?_
  refine pi_ca 2 (m' := 163) (l' := [some (.int (nI kt))]) (σ' := σ) (pc2 := 11) (l2 := [some (.ref 56), some (.int (nI ks)), some (.int i), some (.int (nI kt)), some (.int j), some (.int n), none]) (t := []) (fun f => rfl) (pi_M_isSheetT ⟨_, by omega, rfl⟩) ?_
  rintro _ _ ⟨rfl, rfl⟩
  refine pi_cf 1 (c := nI 1 = 0) (pc' := 17) (l' := [some (.ref 56), some (.int (nI ks)), some (.int i), some (.int (nI kt)), some (.int j), some (.int n), none]) (st' := []) (σ' := σ) (pc2 := 14) (l2 := [some (.ref 56), some (.int (nI ks)), some (.int i), some (.int (nI kt)), some (.int j), some (.int n), none]) (st2 := []) (σ2 := σ) (fun f => rfl) (by decide) ?_
  refine pi_ai 4 (u := ks) (n := 4) (g := σ 77) (pc' := 23) (l' := [some (.ref 56), some (.int (nI ks)), some (.int i), some (.int (nI kt)), some (.int j), some (.int n), none]) (t := []) (σ' := σ) (fun f => rfl) (by omega) (by omega) ?_
  refine pi_tp (y := nI (W.th ks)) ((hm.th ks (by omega))) ?_
  refine pi_cf 1 (c := nI (W.th ks) = 0) (pc' := 26) (l' := [some (.ref 56), some (.int (nI ks)), some (.int i), some (.int (nI kt)), some (.int j), some (.int n), none]) (st' := []) (σ' := σ) (pc2 := 35) (l2 := [some (.ref 56), some (.int (nI ks)), some (.int i), some (.int (nI kt)), some (.int j), some (.int n), none]) (st2 := []) (σ2 := σ) (fun f => rfl) (fun q => h1 ((nI_eq (by omega) (by omega)).mp q)) ?_
  refine pi_ai 4 (u := kt) (n := 4) (g := σ 77) (pc' := 32) (l' := [some (.ref 56), some (.int (nI ks)), some (.int i), some (.int (nI kt)), some (.int j), some (.int n), none]) (t := []) (σ' := σ) (fun f => rfl) (by omega) (by omega) ?_
  refine pi_tp (y := nI (W.th kt)) ((hm.th kt (by omega))) ?_
  refine pi_cf 1 (c := nI (W.th kt) = 0) (pc' := 41) (l' := [some (.ref 56), some (.int (nI ks)), some (.int i), some (.int (nI kt)), some (.int j), some (.int n), none]) (st' := []) (σ' := σ) (pc2 := 35) (l2 := [some (.ref 56), some (.int (nI ks)), some (.int i), some (.int (nI kt)), some (.int j), some (.int n), none]) (st2 := []) (σ2 := σ) (fun f => rfl) (fun q => h2 ((nI_eq (by omega) (by omega)).mp q)) ?_
  refine pi_ai 4 (u := ks) (n := 4) (g := σ 78) (pc' := 47) (l' := [some (.ref 56), some (.int (nI ks)), some (.int i), some (.int (nI kt)), some (.int j), some (.int n), none]) (t := []) (σ' := σ) (fun f => rfl) (by omega) (by omega) ?_
  refine pi_tp (y := nI (W.fo ks)) ((hm.fo ks (by omega))) ?_
  refine pi_ai 4 (u := kt) (n := 4) (g := σ 78) (pc' := 53) (l' := [some (.ref 56), some (.int (nI ks)), some (.int i), some (.int (nI kt)), some (.int j), some (.int n), none]) (t := [.int (nI (W.fo ks))]) (σ' := σ) (fun f => rfl) (by omega) (by omega) ?_
  refine pi_tp (y := nI (W.fo kt)) ((hm.fo kt (by omega))) ?_
  refine pi_cf 1 (c := nI (W.fo ks) = nI (W.fo kt)) (pc' := 56) (l' := [some (.ref 56), some (.int (nI ks)), some (.int i), some (.int (nI kt)), some (.int j), some (.int n), none]) (st' := []) (σ' := σ) (pc2 := 62) (l2 := [some (.ref 56), some (.int (nI ks)), some (.int i), some (.int (nI kt)), some (.int j), some (.int n), none]) (st2 := []) (σ2 := σ) (fun f => rfl) (fun q => h4 ((nI_eq (by omega) (by omega)).mp q)) ?_
  refine pi_ca 3 (m' := 162) (l' := [some (.ref 56), some (.int (nI 4))]) (σ' := σ) (pc2 := 61) (l2 := [some (.ref 56), some (.int (nI ks)), some (.int i), some (.int (nI kt)), some (.int j), some (.int n), none]) (t := []) (fun f => rfl) (pi_M_meets (nI 4)) ?_
  rintro _ t1 ⟨rfl, et1, kt1, rt1⟩
  refine pi_rt 1 (v := some (.int ((-10) - (nI 4)))) (σ' := t1) (fun f => rfl) ?_
  have hfr : pi_fr [56] t1 σ := pi_fr_tr rt1 (by decide) (pi_fr_rf)
  exact ⟨rfl, hm.fnd (et1) (pi_fs_ca (kt1) (by decide) (pi_fs_rf)) hfr, pi_fr_tr hfr (by decide) pi_fr_rf⟩
set_option maxRecDepth 20000 in
theorem pi_P_copy_index {xs : Nat → Int32} {L d : Nat} {W : zW} {σ : pi_S} (hm : z_MR W σ) {ks kt : Nat} {i j n : Int32} (hs4 : ks < 4) (ht4 : kt < 4) (h1 : ¬ W.th ks = 0) (h2 : ¬ W.th kt = 0) (h4 : W.fo ks = W.fo kt) (hb : ¬ z_cp W ks kt i j n)  : pi_wp xs L (d + 9) 170 0 [some (.ref 56), some (.int (nI ks)), some (.int i), some (.int (nI kt)), some (.int j), some (.int n), none] [] σ (fun v s => v = some (.int ((-10) - (nI 2))) ∧ z_MR (W.sS 0 (nI 2)) s ∧ pi_fr z_RC s σ) := by
  have hk := hm.wk
  have hnd8 := hk.wd.nd8
  have hns12 := hk.wd.ns12
  have hn60 := hk.nine
  have hnf := hk.nf
  have hnw := hk.nw
  have hnc := hk.nc
  have hn08 := hk.wd.n0
  have hn140 := hk.wd.n1
  have hsi := hk.si ks hs4
  have hti := hk.si kt ht4
  refine pi_ca 2 (m' := 163) (l' := [some (.int (nI ks))]) (σ' := σ) (pc2 := 4) (l2 := [some (.ref 56), some (.int (nI ks)), some (.int i), some (.int (nI kt)), some (.int j), some (.int n), none]) (t := []) (fun f => rfl) (pi_M_isSheetT ⟨_, by omega, rfl⟩) ?_
  rintro _ _ ⟨rfl, rfl⟩
  refine pi_cf 1 (c := nI 1 = 0) (pc' := 7) (l' := [some (.ref 56), some (.int (nI ks)), some (.int i), some (.int (nI kt)), some (.int j), some (.int n), none]) (st' := []) (σ' := σ) (pc2 := 14) (l2 := [some (.ref 56), some (.int (nI ks)), some (.int i), some (.int (nI kt)), some (.int j), some (.int n), none]) (st2 := []) (σ2 := σ) (fun f => rfl) (by decide) ?_
  refine pi_ca 2 (m' := 163) (l' := [some (.int (nI kt))]) (σ' := σ) (pc2 := 11) (l2 := [some (.ref 56), some (.int (nI ks)), some (.int i), some (.int (nI kt)), some (.int j), some (.int n), none]) (t := []) (fun f => rfl) (pi_M_isSheetT ⟨_, by omega, rfl⟩) ?_
  rintro _ _ ⟨rfl, rfl⟩
  refine pi_cf 1 (c := nI 1 = 0) (pc' := 17) (l' := [some (.ref 56), some (.int (nI ks)), some (.int i), some (.int (nI kt)), some (.int j), some (.int n), none]) (st' := []) (σ' := σ) (pc2 := 14) (l2 := [some (.ref 56), some (.int (nI ks)), some (.int i), some (.int (nI kt)), some (.int j), some (.int n), none]) (st2 := []) (σ2 := σ) (fun f => rfl) (by decide) ?_
  refine pi_ai 4 (u := ks) (n := 4) (g := σ 77) (pc' := 23) (l' := [some (.ref 56), some (.int (nI ks)), some (.int i), some (.int (nI kt)), some (.int j), some (.int n), none]) (t := []) (σ' := σ) (fun f => rfl) (by omega) (by omega) ?_
  refine pi_tp (y := nI (W.th ks)) ((hm.th ks (by omega))) ?_
  refine pi_cf 1 (c := nI (W.th ks) = 0) (pc' := 26) (l' := [some (.ref 56), some (.int (nI ks)), some (.int i), some (.int (nI kt)), some (.int j), some (.int n), none]) (st' := []) (σ' := σ) (pc2 := 35) (l2 := [some (.ref 56), some (.int (nI ks)), some (.int i), some (.int (nI kt)), some (.int j), some (.int n), none]) (st2 := []) (σ2 := σ) (fun f => rfl) (fun q => h1 ((nI_eq (by omega) (by omega)).mp q)) ?_
  refine pi_ai 4 (u := kt) (n := 4) (g := σ 77) (pc' := 32) (l' := [some (.ref 56), some (.int (nI ks)), some (.int i), some (.int (nI kt)), some (.int j), some (.int n), none]) (t := []) (σ' := σ) (fun f => rfl) (by omega) (by omega) ?_
  refine pi_tp (y := nI (W.th kt)) ((hm.th kt (by omega))) ?_
  refine pi_cf 1 (c := nI (W.th kt) = 0) (pc' := 41) (l' := [some (.ref 56), some (.int (nI ks)), some (.int i), some (.int (nI kt)), some (.int j), some (.int n), none]) (st' := []) (σ' := σ) (pc2 := 35) (l2 := [some (.ref 56), some (.int (nI ks)), some (.int i), some (.int (nI kt)), some (.int j), some (.int n), none]) (st2 := []) (σ2 := σ) (fun f => rfl) (fun q => h2 ((nI_eq (by omega) (by omega)).mp q)) ?_
  refine pi_ai 4 (u := ks) (n := 4) (g := σ 78) (pc' := 47) (l' := [some (.ref 56), some (.int (nI ks)), some (.int i), some (.int (nI kt)), some (.int j), some (.int n), none]) (t := []) (σ' := σ) (fun f => rfl) (by omega) (by omega) ?_
  refine pi_tp (y := nI (W.fo ks)) ((hm.fo ks (by omega))) ?_
  refine pi_ai 4 (u := kt) (n := 4) (g := σ 78) (pc' := 53) (l' := [some (.ref 56), some (.int (nI ks)), some (.int i), some (.int (nI kt)), some (.int j), some (.int n), none]) (t := [.int (nI (W.fo ks))]) (σ' := σ) (fun f => rfl) (by omega) (by omega) ?_
  refine pi_tp (y := nI (W.fo kt)) ((hm.fo kt (by omega))) ?_
  refine pi_ct 1 (c := nI (W.fo ks) = nI (W.fo kt)) (pc' := 62) (l' := [some (.ref 56), some (.int (nI ks)), some (.int i), some (.int (nI kt)), some (.int j), some (.int n), none]) (st' := []) (σ' := σ) (pc2 := 56) (l2 := [some (.ref 56), some (.int (nI ks)), some (.int i), some (.int (nI kt)), some (.int j), some (.int n), none]) (st2 := []) (σ2 := σ) (fun f => rfl) (congrArg nI h4) ?_
  refine pi_if 2 (c := i < 0) (pc' := 111) (l' := [some (.ref 56), some (.int (nI ks)), some (.int i), some (.int (nI kt)), some (.int j), some (.int n), none]) (st' := []) (σ' := σ) (pc2 := 66) (l2 := [some (.ref 56), some (.int (nI ks)), some (.int i), some (.int (nI kt)), some (.int j), some (.int n), none]) (st2 := []) (σ2 := σ) (fun f => rfl) (fun h1 => ?_) (fun h1 => ?_)
  · refine pi_ca 3 (m' := 162) (l' := [some (.ref 56), some (.int (nI 2))]) (σ' := σ) (pc2 := 116) (l2 := [some (.ref 56), some (.int (nI ks)), some (.int i), some (.int (nI kt)), some (.int j), some (.int n), none]) (t := []) (fun f => rfl) (pi_M_meets (nI 2)) ?_
    rintro _ t1 ⟨rfl, et1, kt1, rt1⟩
    refine pi_rt 1 (v := some (.int ((-10) - (nI 2)))) (σ' := t1) (fun f => rfl) ?_
    have hfr : pi_fr [56] t1 σ := pi_fr_tr rt1 (by decide) (pi_fr_rf)
    exact ⟨rfl, hm.fnd (et1) (pi_fs_ca (kt1) (by decide) (pi_fs_rf)) hfr, pi_fr_tr hfr (by decide) pi_fr_rf⟩
  · refine pi_if 2 (c := j < 0) (pc' := 111) (l' := [some (.ref 56), some (.int (nI ks)), some (.int i), some (.int (nI kt)), some (.int j), some (.int n), none]) (st' := []) (σ' := σ) (pc2 := 71) (l2 := [some (.ref 56), some (.int (nI ks)), some (.int i), some (.int (nI kt)), some (.int j), some (.int n), none]) (st2 := []) (σ2 := σ) (fun f => rfl) (fun h2 => ?_) (fun h2 => ?_)
    · refine pi_ca 3 (m' := 162) (l' := [some (.ref 56), some (.int (nI 2))]) (σ' := σ) (pc2 := 116) (l2 := [some (.ref 56), some (.int (nI ks)), some (.int i), some (.int (nI kt)), some (.int j), some (.int n), none]) (t := []) (fun f => rfl) (pi_M_meets (nI 2)) ?_
      rintro _ t2 ⟨rfl, et2, kt2, rt2⟩
      refine pi_rt 1 (v := some (.int ((-10) - (nI 2)))) (σ' := t2) (fun f => rfl) ?_
      have hfr : pi_fr [56] t2 σ := pi_fr_tr rt2 (by decide) (pi_fr_rf)
      exact ⟨rfl, hm.fnd (et2) (pi_fs_ca (kt2) (by decide) (pi_fs_rf)) hfr, pi_fr_tr hfr (by decide) pi_fr_rf⟩
    · refine pi_if 2 (c := n < 0) (pc' := 111) (l' := [some (.ref 56), some (.int (nI ks)), some (.int i), some (.int (nI kt)), some (.int j), some (.int n), none]) (st' := []) (σ' := σ) (pc2 := 76) (l2 := [some (.ref 56), some (.int (nI ks)), some (.int i), some (.int (nI kt)), some (.int j), some (.int n), none]) (st2 := []) (σ2 := σ) (fun f => rfl) (fun h3 => ?_) (fun h3 => ?_)
      · refine pi_ca 3 (m' := 162) (l' := [some (.ref 56), some (.int (nI 2))]) (σ' := σ) (pc2 := 116) (l2 := [some (.ref 56), some (.int (nI ks)), some (.int i), some (.int (nI kt)), some (.int j), some (.int n), none]) (t := []) (fun f => rfl) (pi_M_meets (nI 2)) ?_
        rintro _ t3 ⟨rfl, et3, kt3, rt3⟩
        refine pi_rt 1 (v := some (.int ((-10) - (nI 2)))) (σ' := t3) (fun f => rfl) ?_
        have hfr : pi_fr [56] t3 σ := pi_fr_tr rt3 (by decide) (pi_fr_rf)
        exact ⟨rfl, hm.fnd (et3) (pi_fs_ca (kt3) (by decide) (pi_fs_rf)) hfr, pi_fr_tr hfr (by decide) pi_fr_rf⟩
      · refine pi_ai 9 (u := ks) (n := 4) (g := σ 79) (pc' := 88) (l' := [some (.ref 56), some (.int (nI ks)), some (.int i), some (.int (nI kt)), some (.int j), some (.int n), none]) (t := [.long ((Int32.toInt64 i) + (Int32.toInt64 n))]) (σ' := σ) (fun f => rfl) (by omega) (by omega) ?_
        refine pi_tp (y := nI (W.si ks)) ((hm.si ks (by omega))) ?_
        refine pi_if 3 (c := 0 < lg_cmp ((Int32.toInt64 i) + (Int32.toInt64 n)) (Int32.toInt64 (nI (W.si ks)))) (pc' := 111) (l' := [some (.ref 56), some (.int (nI ks)), some (.int i), some (.int (nI kt)), some (.int j), some (.int n), none]) (st' := []) (σ' := σ) (pc2 := 93) (l2 := [some (.ref 56), some (.int (nI ks)), some (.int i), some (.int (nI kt)), some (.int j), some (.int n), none]) (st2 := []) (σ2 := σ) (fun f => rfl) (fun h4 => ?_) (fun h4 => ?_)
        · refine pi_ca 3 (m' := 162) (l' := [some (.ref 56), some (.int (nI 2))]) (σ' := σ) (pc2 := 116) (l2 := [some (.ref 56), some (.int (nI ks)), some (.int i), some (.int (nI kt)), some (.int j), some (.int n), none]) (t := []) (fun f => rfl) (pi_M_meets (nI 2)) ?_
          rintro _ t4 ⟨rfl, et4, kt4, rt4⟩
          refine pi_rt 1 (v := some (.int ((-10) - (nI 2)))) (σ' := t4) (fun f => rfl) ?_
          have hfr : pi_fr [56] t4 σ := pi_fr_tr rt4 (by decide) (pi_fr_rf)
          exact ⟨rfl, hm.fnd (et4) (pi_fs_ca (kt4) (by decide) (pi_fs_rf)) hfr, pi_fr_tr hfr (by decide) pi_fr_rf⟩
        · refine pi_ai 9 (u := kt) (n := 4) (g := σ 79) (pc' := 106) (l' := [some (.ref 56), some (.int (nI ks)), some (.int i), some (.int (nI kt)), some (.int j), some (.int n), none]) (t := [.long ((Int32.toInt64 j) + (Int32.toInt64 n))]) (σ' := σ) (fun f => rfl) (by omega) (by omega) ?_
          refine pi_tp (y := nI (W.si kt)) ((hm.si kt (by omega))) ?_
          refine pi_if 3 (c := lg_cmp ((Int32.toInt64 j) + (Int32.toInt64 n)) (Int32.toInt64 (nI (W.si kt))) ≤ 0) (pc' := 117) (l' := [some (.ref 56), some (.int (nI ks)), some (.int i), some (.int (nI kt)), some (.int j), some (.int n), none]) (st' := []) (σ' := σ) (pc2 := 111) (l2 := [some (.ref 56), some (.int (nI ks)), some (.int i), some (.int (nI kt)), some (.int j), some (.int n), none]) (st2 := []) (σ2 := σ) (fun f => rfl) (fun h5 => ?_) (fun h5 => ?_)
          · exact (hb (z_cp_of hsi.1 hti.1 h1 h2 h3 (Int32.not_lt.mp h4) h5)).elim
          · refine pi_ca 3 (m' := 162) (l' := [some (.ref 56), some (.int (nI 2))]) (σ' := σ) (pc2 := 116) (l2 := [some (.ref 56), some (.int (nI ks)), some (.int i), some (.int (nI kt)), some (.int j), some (.int n), none]) (t := []) (fun f => rfl) (pi_M_meets (nI 2)) ?_
            rintro _ t5 ⟨rfl, et5, kt5, rt5⟩
            refine pi_rt 1 (v := some (.int ((-10) - (nI 2)))) (σ' := t5) (fun f => rfl) ?_
            have hfr : pi_fr [56] t5 σ := pi_fr_tr rt5 (by decide) (pi_fr_rf)
            exact ⟨rfl, hm.fnd (et5) (pi_fs_ca (kt5) (by decide) (pi_fs_rf)) hfr, pi_fr_tr hfr (by decide) pi_fr_rf⟩
set_option maxRecDepth 20000 in
theorem pi_P_copy {xs : Nat → Int32} {L d : Nat} {W : zW} {σ : pi_S} (hm : z_MR W σ) {ks kt i j n : Nat} (hs4 : ks < 4) (ht4 : kt < 4) (h1 : ¬ W.th ks = 0) (h2 : ¬ W.th kt = 0) (h4 : W.fo ks = W.fo kt) (hi : i + n ≤ W.si ks) (hj : j + n ≤ W.si kt)  : pi_wp xs L (d + 9) 170 0 [some (.ref 56), some (.int (nI ks)), some (.int (nI i)), some (.int (nI kt)), some (.int (nI j)), some (.int (nI n)), none] [] σ (fun v s => v = some (.int (nI 1)) ∧ z_MR (W.sI 9 (pi_lp (fun q f => upd f (48 * kt + j + q) (W.it (48 * ks + i + q))) n W.it)) s ∧ pi_fr z_RC s σ) := by
  have hk := hm.wk
  have hnd8 := hk.wd.nd8
  have hns12 := hk.wd.ns12
  have hn60 := hk.nine
  have hnf := hk.nf
  have hnw := hk.nw
  have hnc := hk.nc
  have hn08 := hk.wd.n0
  have hn140 := hk.wd.n1
  have hsi := hk.si ks hs4
  have hti := hk.si kt ht4
  refine pi_ca 2 (m' := 163) (l' := [some (.int (nI ks))]) (σ' := σ) (pc2 := 4) (l2 := [some (.ref 56), some (.int (nI ks)), some (.int (nI i)), some (.int (nI kt)), some (.int (nI j)), some (.int (nI n)), none]) (t := []) (fun f => rfl) (pi_M_isSheetT ⟨_, by omega, rfl⟩) ?_
  rintro _ _ ⟨rfl, rfl⟩
  refine pi_cf 1 (c := nI 1 = 0) (pc' := 7) (l' := [some (.ref 56), some (.int (nI ks)), some (.int (nI i)), some (.int (nI kt)), some (.int (nI j)), some (.int (nI n)), none]) (st' := []) (σ' := σ) (pc2 := 14) (l2 := [some (.ref 56), some (.int (nI ks)), some (.int (nI i)), some (.int (nI kt)), some (.int (nI j)), some (.int (nI n)), none]) (st2 := []) (σ2 := σ) (fun f => rfl) (by decide) ?_
  refine pi_ca 2 (m' := 163) (l' := [some (.int (nI kt))]) (σ' := σ) (pc2 := 11) (l2 := [some (.ref 56), some (.int (nI ks)), some (.int (nI i)), some (.int (nI kt)), some (.int (nI j)), some (.int (nI n)), none]) (t := []) (fun f => rfl) (pi_M_isSheetT ⟨_, by omega, rfl⟩) ?_
  rintro _ _ ⟨rfl, rfl⟩
  refine pi_cf 1 (c := nI 1 = 0) (pc' := 17) (l' := [some (.ref 56), some (.int (nI ks)), some (.int (nI i)), some (.int (nI kt)), some (.int (nI j)), some (.int (nI n)), none]) (st' := []) (σ' := σ) (pc2 := 14) (l2 := [some (.ref 56), some (.int (nI ks)), some (.int (nI i)), some (.int (nI kt)), some (.int (nI j)), some (.int (nI n)), none]) (st2 := []) (σ2 := σ) (fun f => rfl) (by decide) ?_
  refine pi_ai 4 (u := ks) (n := 4) (g := σ 77) (pc' := 23) (l' := [some (.ref 56), some (.int (nI ks)), some (.int (nI i)), some (.int (nI kt)), some (.int (nI j)), some (.int (nI n)), none]) (t := []) (σ' := σ) (fun f => rfl) (by omega) (by omega) ?_
  refine pi_tp (y := nI (W.th ks)) ((hm.th ks (by omega))) ?_
  refine pi_cf 1 (c := nI (W.th ks) = 0) (pc' := 26) (l' := [some (.ref 56), some (.int (nI ks)), some (.int (nI i)), some (.int (nI kt)), some (.int (nI j)), some (.int (nI n)), none]) (st' := []) (σ' := σ) (pc2 := 35) (l2 := [some (.ref 56), some (.int (nI ks)), some (.int (nI i)), some (.int (nI kt)), some (.int (nI j)), some (.int (nI n)), none]) (st2 := []) (σ2 := σ) (fun f => rfl) (fun q => h1 ((nI_eq (by omega) (by omega)).mp q)) ?_
  refine pi_ai 4 (u := kt) (n := 4) (g := σ 77) (pc' := 32) (l' := [some (.ref 56), some (.int (nI ks)), some (.int (nI i)), some (.int (nI kt)), some (.int (nI j)), some (.int (nI n)), none]) (t := []) (σ' := σ) (fun f => rfl) (by omega) (by omega) ?_
  refine pi_tp (y := nI (W.th kt)) ((hm.th kt (by omega))) ?_
  refine pi_cf 1 (c := nI (W.th kt) = 0) (pc' := 41) (l' := [some (.ref 56), some (.int (nI ks)), some (.int (nI i)), some (.int (nI kt)), some (.int (nI j)), some (.int (nI n)), none]) (st' := []) (σ' := σ) (pc2 := 35) (l2 := [some (.ref 56), some (.int (nI ks)), some (.int (nI i)), some (.int (nI kt)), some (.int (nI j)), some (.int (nI n)), none]) (st2 := []) (σ2 := σ) (fun f => rfl) (fun q => h2 ((nI_eq (by omega) (by omega)).mp q)) ?_
  refine pi_ai 4 (u := ks) (n := 4) (g := σ 78) (pc' := 47) (l' := [some (.ref 56), some (.int (nI ks)), some (.int (nI i)), some (.int (nI kt)), some (.int (nI j)), some (.int (nI n)), none]) (t := []) (σ' := σ) (fun f => rfl) (by omega) (by omega) ?_
  refine pi_tp (y := nI (W.fo ks)) ((hm.fo ks (by omega))) ?_
  refine pi_ai 4 (u := kt) (n := 4) (g := σ 78) (pc' := 53) (l' := [some (.ref 56), some (.int (nI ks)), some (.int (nI i)), some (.int (nI kt)), some (.int (nI j)), some (.int (nI n)), none]) (t := [.int (nI (W.fo ks))]) (σ' := σ) (fun f => rfl) (by omega) (by omega) ?_
  refine pi_tp (y := nI (W.fo kt)) ((hm.fo kt (by omega))) ?_
  refine pi_ct 1 (c := nI (W.fo ks) = nI (W.fo kt)) (pc' := 62) (l' := [some (.ref 56), some (.int (nI ks)), some (.int (nI i)), some (.int (nI kt)), some (.int (nI j)), some (.int (nI n)), none]) (st' := []) (σ' := σ) (pc2 := 56) (l2 := [some (.ref 56), some (.int (nI ks)), some (.int (nI i)), some (.int (nI kt)), some (.int (nI j)), some (.int (nI n)), none]) (st2 := []) (σ2 := σ) (fun f => rfl) (congrArg nI h4) ?_
  refine pi_cf 2 (c := nI i < 0) (pc' := 66) (l' := [some (.ref 56), some (.int (nI ks)), some (.int (nI i)), some (.int (nI kt)), some (.int (nI j)), some (.int (nI n)), none]) (st' := []) (σ' := σ) (pc2 := 111) (l2 := [some (.ref 56), some (.int (nI ks)), some (.int (nI i)), some (.int (nI kt)), some (.int (nI j)), some (.int (nI n)), none]) (st2 := []) (σ2 := σ) (fun f => rfl) (z_ltz (by omega)) ?_
  refine pi_cf 2 (c := nI j < 0) (pc' := 71) (l' := [some (.ref 56), some (.int (nI ks)), some (.int (nI i)), some (.int (nI kt)), some (.int (nI j)), some (.int (nI n)), none]) (st' := []) (σ' := σ) (pc2 := 111) (l2 := [some (.ref 56), some (.int (nI ks)), some (.int (nI i)), some (.int (nI kt)), some (.int (nI j)), some (.int (nI n)), none]) (st2 := []) (σ2 := σ) (fun f => rfl) (z_ltz (by omega)) ?_
  refine pi_cf 2 (c := nI n < 0) (pc' := 76) (l' := [some (.ref 56), some (.int (nI ks)), some (.int (nI i)), some (.int (nI kt)), some (.int (nI j)), some (.int (nI n)), none]) (st' := []) (σ' := σ) (pc2 := 111) (l2 := [some (.ref 56), some (.int (nI ks)), some (.int (nI i)), some (.int (nI kt)), some (.int (nI j)), some (.int (nI n)), none]) (st2 := []) (σ2 := σ) (fun f => rfl) (z_ltz (by omega)) ?_
  refine pi_ai 9 (u := ks) (n := 4) (g := σ 79) (pc' := 88) (l' := [some (.ref 56), some (.int (nI ks)), some (.int (nI i)), some (.int (nI kt)), some (.int (nI j)), some (.int (nI n)), none]) (t := [.long ((Int32.toInt64 (nI i)) + (Int32.toInt64 (nI n)))]) (σ' := σ) (fun f => rfl) (by omega) (by omega) ?_
  refine pi_tp (y := nI (W.si ks)) ((hm.si ks (by omega))) ?_
  refine pi_cf 3 (c := 0 < lg_cmp ((Int32.toInt64 (nI i)) + (Int32.toInt64 (nI n))) (Int32.toInt64 (nI (W.si ks)))) (pc' := 93) (l' := [some (.ref 56), some (.int (nI ks)), some (.int (nI i)), some (.int (nI kt)), some (.int (nI j)), some (.int (nI n)), none]) (st' := []) (σ' := σ) (pc2 := 111) (l2 := [some (.ref 56), some (.int (nI ks)), some (.int (nI i)), some (.int (nI kt)), some (.int (nI j)), some (.int (nI n)), none]) (st2 := []) (σ2 := σ) (fun f => rfl) (fun q => Int32.not_lt.mpr ((z_lc (by omega) (by omega) (by omega)).mpr (by omega)) q) ?_
  refine pi_ai 9 (u := kt) (n := 4) (g := σ 79) (pc' := 106) (l' := [some (.ref 56), some (.int (nI ks)), some (.int (nI i)), some (.int (nI kt)), some (.int (nI j)), some (.int (nI n)), none]) (t := [.long ((Int32.toInt64 (nI j)) + (Int32.toInt64 (nI n)))]) (σ' := σ) (fun f => rfl) (by omega) (by omega) ?_
  refine pi_tp (y := nI (W.si kt)) ((hm.si kt (by omega))) ?_
  refine pi_ct 3 (c := lg_cmp ((Int32.toInt64 (nI j)) + (Int32.toInt64 (nI n))) (Int32.toInt64 (nI (W.si kt))) ≤ 0) (pc' := 117) (l' := [some (.ref 56), some (.int (nI ks)), some (.int (nI i)), some (.int (nI kt)), some (.int (nI j)), some (.int (nI n)), none]) (st' := []) (σ' := σ) (pc2 := 111) (l2 := [some (.ref 56), some (.int (nI ks)), some (.int (nI i)), some (.int (nI kt)), some (.int (nI j)), some (.int (nI n)), none]) (st2 := []) (σ2 := σ) (fun f => rfl) ((z_lc (by omega) (by omega) (by omega)).mpr (by omega)) ?_
  refine pi_go 2 (pc' := 120) (l' := [some (.ref 56), some (.int (nI ks)), some (.int (nI i)), some (.int (nI kt)), some (.int (nI j)), some (.int (nI n)), some (.int (nI 0))]) (st' := []) (σ' := σ) (fun f => rfl) ?_
  suffices hl1 : ∀ q, q ≤ n → ∀ (z1 : pi_S), z1 81 = z_mvp W.it (48 * ks + i) q (σ 81) → pi_fr [81] z1 σ → pi_wp xs L (d + 9) 170 120 [some (.ref 56), some (.int (nI ks)), some (.int (nI i)), some (.int (nI kt)), some (.int (nI j)), some (.int (nI n)), some (.int (nI q))] [] z1 (fun v s => v = some (.int (nI 1)) ∧ z_MR (W.sI 9 (pi_lp (fun q f => upd f (48 * kt + j + q) (W.it (48 * ks + i + q))) n W.it)) s ∧ pi_fr z_RC s σ) from hl1 0 (by omega) _ (rfl) (pi_fr_rf)
  refine pi_lp0 ?_ ?_
  · intro z1 fz1_81 hrz1
    refine pi_ct 3 (c := nI n ≤ nI n) (pc' := 154) (l' := [some (.ref 56), some (.int (nI ks)), some (.int (nI i)), some (.int (nI kt)), some (.int (nI j)), some (.int (nI n)), some (.int (nI n))]) (st' := []) (σ' := z1) (pc2 := 127) (l2 := [some (.ref 56), some (.int (nI ks)), some (.int (nI i)), some (.int (nI kt)), some (.int (nI j)), some (.int (nI n)), some (.int (nI n))]) (st2 := []) (σ2 := z1) (fun f => rfl) ((show nI n ≤ nI n ↔ _ from nI_leI (by omega) (by omega)).mpr (by omega)) ?_
    refine pi_go 2 (pc' := 157) (l' := [some (.ref 56), some (.int (nI ks)), some (.int (nI i)), some (.int (nI kt)), some (.int (nI j)), some (.int (nI n)), some (.int (nI 0))]) (st' := []) (σ' := z1) (fun f => rfl) ?_
    suffices hl2 : ∀ q, q ≤ n → ∀ (z2 : pi_S), z2 80 = pi_lp (fun q f => upd f (48 * kt + j + q) (W.it (48 * ks + i + q))) q W.it → z2 81 = z_mvp W.it (48 * ks + i) n (σ 81) → pi_fr [80, 81] z2 σ → pi_wp xs L (d + 9) 170 157 [some (.ref 56), some (.int (nI ks)), some (.int (nI i)), some (.int (nI kt)), some (.int (nI j)), some (.int (nI n)), some (.int (nI q))] [] z2 (fun v s => v = some (.int (nI 1)) ∧ z_MR (W.sI 9 (pi_lp (fun q f => upd f (48 * kt + j + q) (W.it (48 * ks + i + q))) n W.it)) s ∧ pi_fr z_RC s σ) from hl2 0 (by omega) _ ((hrz1 80 (by decide)).trans (hm.it)) (fz1_81) (pi_fr_tr hrz1 (by decide) (pi_fr_rf))
    refine pi_lp0 ?_ ?_
    · intro z2 fz2_80 fz2_81 hrz2
      refine pi_ct 3 (c := nI n ≤ nI n) (pc' := 192) (l' := [some (.ref 56), some (.int (nI ks)), some (.int (nI i)), some (.int (nI kt)), some (.int (nI j)), some (.int (nI n)), some (.int (nI n))]) (st' := []) (σ' := z2) (pc2 := 164) (l2 := [some (.ref 56), some (.int (nI ks)), some (.int (nI i)), some (.int (nI kt)), some (.int (nI j)), some (.int (nI n)), some (.int (nI n))]) (st2 := []) (σ2 := z2) (fun f => rfl) ((show nI n ≤ nI n ↔ _ from nI_leI (by omega) (by omega)).mpr (by omega)) ?_
      refine pi_rt 2 (v := some (.int (nI 1))) (σ' := z2) (fun f => rfl) ?_
      have hfr : pi_fr [80, 81] z2 σ := pi_fr_tr hrz2 (by decide) (pi_fr_rf)
      exact ⟨rfl, hm.it_ (fz2_80) (pi_fs_fr hrz2 (by decide) (pi_fs_rf)) hfr, pi_fr_tr hfr (by decide) pi_fr_rf⟩
    · intro q hi2 ih2 z2 fz2_80 fz2_81 hrz2
      refine pi_cf 3 (c := nI n ≤ nI q) (pc' := 164) (l' := [some (.ref 56), some (.int (nI ks)), some (.int (nI i)), some (.int (nI kt)), some (.int (nI j)), some (.int (nI n)), some (.int (nI q))]) (st' := []) (σ' := z2) (pc2 := 192) (l2 := [some (.ref 56), some (.int (nI ks)), some (.int (nI i)), some (.int (nI kt)), some (.int (nI j)), some (.int (nI n)), some (.int (nI q))]) (st2 := []) (σ2 := z2) (fun f => rfl) (fun zq => absurd ((show nI n ≤ nI q ↔ _ from nI_leI (by omega) (by omega)).mp zq) (by omega)) ?_
      refine pi_go 5 (pc' := 172) (l' := [some (.ref 56), some (.int (nI ks)), some (.int (nI i)), some (.int (nI kt)), some (.int (nI j)), some (.int (nI n)), some (.int (nI q))]) (st' := [.int (nI 48 * nI kt), .ref 80]) (σ' := z2) (fun f => rfl) ?_
      refine pi_tp (y := nI (48 * kt)) (pk_mul _ _) ?_
      refine pi_go 2 (pc' := 175) (l' := [some (.ref 56), some (.int (nI ks)), some (.int (nI i)), some (.int (nI kt)), some (.int (nI j)), some (.int (nI n)), some (.int (nI q))]) (st' := [.int (nI (48 * kt) + nI j), .ref 80]) (σ' := z2) (fun f => rfl) ?_
      refine pi_tp (y := nI (48 * kt + j)) (nI_add _ _) ?_
      refine pi_go 2 (pc' := 178) (l' := [some (.ref 56), some (.int (nI ks)), some (.int (nI i)), some (.int (nI kt)), some (.int (nI j)), some (.int (nI n)), some (.int (nI q))]) (st' := [.int (nI (48 * kt + j) + nI q), .ref 80]) (σ' := z2) (fun f => rfl) ?_
      refine pi_tp (y := nI (48 * kt + j + q)) (nI_add _ _) ?_
      refine pi_ai 4 (u := q) (n := 48) (g := z2 81) (pc' := 185) (l' := [some (.ref 56), some (.int (nI ks)), some (.int (nI i)), some (.int (nI kt)), some (.int (nI j)), some (.int (nI n)), some (.int (nI q))]) (t := [.int (nI (48 * kt + j + q)), .ref 80]) (σ' := z2) (fun f => rfl) (by omega) (by omega) ?_
      refine pi_tp (y := W.it (48 * ks + i + q)) ((congrFun fz2_81 q).trans (z_mvp_at _ _ _ _ _ (by omega))) ?_
      refine pi_au 1 (u := 48 * kt + j + q) (n := 192) (a := 80) (x := W.it (48 * ks + i + q)) (pc' := 186) (l' := [some (.ref 56), some (.int (nI ks)), some (.int (nI i)), some (.int (nI kt)), some (.int (nI j)), some (.int (nI n)), some (.int (nI q))]) (t := []) (σ' := z2) (fun f => rfl) (by omega) (by omega) ?_
      generalize es3 : pi_up z2 80 (48 * kt + j + q) (W.it (48 * ks + i + q)) = s3
      refine pi_go 1 (pc' := 189) (l' := [some (.ref 56), some (.int (nI ks)), some (.int (nI i)), some (.int (nI kt)), some (.int (nI j)), some (.int (nI n)), some (.int (nI q + nI 1))]) (st' := []) (σ' := s3) (fun f => rfl) ?_
      rw [show nI q + nI 1 = nI (q + 1) from nI_add _ 1]
      refine pi_go 1 (pc' := 157) (l' := [some (.ref 56), some (.int (nI ks)), some (.int (nI i)), some (.int (nI kt)), some (.int (nI j)), some (.int (nI n)), some (.int (nI (q + 1)))]) (st' := []) (σ' := s3) (fun f => rfl) ?_
      exact ih2 _ ((congrFun es3 80).symm.trans ((pi_up_self _ _ _ _).trans (congrArg (fun z => upd z (48 * kt + j + q) (W.it (48 * ks + i + q))) (fz2_80)))) ((congrFun es3 81).symm.trans ((pi_up_ne _ _ _ (by decide)).trans (fz2_81))) (pi_fr_of es3 (by decide) (pi_fr_tr hrz2 (by decide) (pi_fr_rf)))
  · intro q hi1 ih1 z1 fz1_81 hrz1
    refine pi_cf 3 (c := nI n ≤ nI q) (pc' := 127) (l' := [some (.ref 56), some (.int (nI ks)), some (.int (nI i)), some (.int (nI kt)), some (.int (nI j)), some (.int (nI n)), some (.int (nI q))]) (st' := []) (σ' := z1) (pc2 := 154) (l2 := [some (.ref 56), some (.int (nI ks)), some (.int (nI i)), some (.int (nI kt)), some (.int (nI j)), some (.int (nI n)), some (.int (nI q))]) (st2 := []) (σ2 := z1) (fun f => rfl) (fun zq => absurd ((show nI n ≤ nI q ↔ _ from nI_leI (by omega) (by omega)).mp zq) (by omega)) ?_
    refine pi_go 8 (pc' := 141) (l' := [some (.ref 56), some (.int (nI ks)), some (.int (nI i)), some (.int (nI kt)), some (.int (nI j)), some (.int (nI n)), some (.int (nI q))]) (st' := [.int (nI 48 * nI ks), .ref 80, .int (nI q), .ref 81]) (σ' := z1) (fun f => rfl) ?_
    refine pi_tp (y := nI (48 * ks)) (pk_mul _ _) ?_
    refine pi_go 2 (pc' := 143) (l' := [some (.ref 56), some (.int (nI ks)), some (.int (nI i)), some (.int (nI kt)), some (.int (nI j)), some (.int (nI n)), some (.int (nI q))]) (st' := [.int (nI (48 * ks) + nI i), .ref 80, .int (nI q), .ref 81]) (σ' := z1) (fun f => rfl) ?_
    refine pi_tp (y := nI (48 * ks + i)) (nI_add _ _) ?_
    refine pi_go 2 (pc' := 146) (l' := [some (.ref 56), some (.int (nI ks)), some (.int (nI i)), some (.int (nI kt)), some (.int (nI j)), some (.int (nI n)), some (.int (nI q))]) (st' := [.int (nI (48 * ks + i) + nI q), .ref 80, .int (nI q), .ref 81]) (σ' := z1) (fun f => rfl) ?_
    refine pi_tp (y := nI (48 * ks + i + q)) (nI_add _ _) ?_
    refine pi_ai 1 (u := 48 * ks + i + q) (n := 192) (g := z1 80) (pc' := 147) (l' := [some (.ref 56), some (.int (nI ks)), some (.int (nI i)), some (.int (nI kt)), some (.int (nI j)), some (.int (nI n)), some (.int (nI q))]) (t := [.int (nI q), .ref 81]) (σ' := z1) (fun f => rfl) (by omega) (by omega) ?_
    refine pi_tp (y := W.it (48 * ks + i + q)) ((congrFun (hrz1 80 (by decide)) (48 * ks + i + q)).trans (congrFun (hm.it) (48 * ks + i + q))) ?_
    refine pi_au 1 (u := q) (n := 48) (a := 81) (x := W.it (48 * ks + i + q)) (pc' := 148) (l' := [some (.ref 56), some (.int (nI ks)), some (.int (nI i)), some (.int (nI kt)), some (.int (nI j)), some (.int (nI n)), some (.int (nI q))]) (t := []) (σ' := z1) (fun f => rfl) (by omega) (by omega) ?_
    generalize es4 : pi_up z1 81 q (W.it (48 * ks + i + q)) = s4
    refine pi_go 1 (pc' := 151) (l' := [some (.ref 56), some (.int (nI ks)), some (.int (nI i)), some (.int (nI kt)), some (.int (nI j)), some (.int (nI n)), some (.int (nI q + nI 1))]) (st' := []) (σ' := s4) (fun f => rfl) ?_
    rw [show nI q + nI 1 = nI (q + 1) from nI_add _ 1]
    refine pi_go 1 (pc' := 120) (l' := [some (.ref 56), some (.int (nI ks)), some (.int (nI i)), some (.int (nI kt)), some (.int (nI j)), some (.int (nI n)), some (.int (nI (q + 1)))]) (st' := []) (σ' := s4) (fun f => rfl) ?_
    exact ih1 _ ((congrFun es4 81).symm.trans ((pi_up_self _ _ _ _).trans (congrArg (fun z => upd z q (W.it (48 * ks + i + q))) (fz1_81)))) (pi_fr_of es4 (by decide) (pi_fr_tr hrz1 (by decide) (pi_fr_rf)))
set_option maxRecDepth 20000 in
theorem pi_P_write_bad {xs : Nat → Int32} {L d : Nat} {W : zW} {σ : pi_S} (hm : z_MR W σ) {a b : Int32} (hb : ¬ (z_B (W.nine + 1) a ∧ z_B 4 b))  : pi_wp xs L (d + 9) 171 0 [some (.ref 56), some (.int a), some (.int b), none] [] σ (fun v s => v = some (.int (-2)) ∧ z_MR W s ∧ pi_fr z_RC s σ) := by
  have hk := hm.wk
  have hnd8 := hk.wd.nd8
  have hns12 := hk.wd.ns12
  have hn60 := hk.nine
  have hnf := hk.nf
  have hnw := hk.nw
  have hnc := hk.nc
  have hn08 := hk.wd.n0
  have hn140 := hk.wd.n1
  refine pi_go 4 (pc' := 6) (l' := [some (.ref 56), some (.int a), some (.int b), none]) (st' := [.int (σ 56 10), .int (nI 0), .int a]) (σ' := σ) (fun f => rfl) ?_
  refine pi_tp (y := nI W.nine) (hm.nine) ?_
  refine pi_ca 1 (m' := 100) (l' := [some (.int a), some (.int (nI 0)), some (.int (nI W.nine))]) (σ' := σ) (pc2 := 9) (l2 := [some (.ref 56), some (.int a), some (.int b), none]) (t := []) (fun f => rfl) (pi_M_inB (p := z_B (W.nine + 1) a) (z_B_in (by omega))) ?_
  rintro _ _ (⟨b1, rfl, rfl⟩ | ⟨b1, rfl, rfl⟩)
  · refine pi_cf 1 (c := nI 1 = 0) (pc' := 12) (l' := [some (.ref 56), some (.int a), some (.int b), none]) (st' := []) (σ' := σ) (pc2 := 19) (l2 := [some (.ref 56), some (.int a), some (.int b), none]) (st2 := []) (σ2 := σ) (fun f => rfl) (by decide) ?_
    refine pi_ca 2 (m' := 163) (l' := [some (.int b)]) (σ' := σ) (pc2 := 16) (l2 := [some (.ref 56), some (.int a), some (.int b), none]) (t := []) (fun f => rfl) (pi_M_isSheet b) ?_
    rintro _ _ (⟨b2, rfl, rfl⟩ | ⟨b2, rfl, rfl⟩)
    · refine pi_cf 1 (c := nI 1 = 0) (pc' := 22) (l' := [some (.ref 56), some (.int a), some (.int b), none]) (st' := []) (σ' := σ) (pc2 := 19) (l2 := [some (.ref 56), some (.int a), some (.int b), none]) (st2 := []) (σ2 := σ) (fun f => rfl) (by decide) ?_
      exact (hb ⟨b1, b2⟩).elim
    · refine pi_ct 1 (c := nI 0 = 0) (pc' := 19) (l' := [some (.ref 56), some (.int a), some (.int b), none]) (st' := []) (σ' := σ) (pc2 := 22) (l2 := [some (.ref 56), some (.int a), some (.int b), none]) (st2 := []) (σ2 := σ) (fun f => rfl) (by decide) ?_
      refine pi_rt 2 (v := some (.int (-2))) (σ' := σ) (fun f => rfl) ?_
      exact ⟨rfl, hm, pi_fr_rf⟩
  · refine pi_ct 1 (c := nI 0 = 0) (pc' := 19) (l' := [some (.ref 56), some (.int a), some (.int b), none]) (st' := []) (σ' := σ) (pc2 := 12) (l2 := [some (.ref 56), some (.int a), some (.int b), none]) (st2 := []) (σ2 := σ) (fun f => rfl) (by decide) ?_
    refine pi_rt 2 (v := some (.int (-2))) (σ' := σ) (fun f => rfl) ?_
    exact ⟨rfl, hm, pi_fr_rf⟩
set_option maxRecDepth 20000 in
theorem pi_P_write_null {xs : Nat → Int32} {L d : Nat} {W : zW} {σ : pi_S} (hm : z_MR W σ) {mi k : Nat} (hi : mi < W.nine + 1) (hk4 : k < 4) (h1 : W.th k = 0)  : pi_wp xs L (d + 9) 171 0 [some (.ref 56), some (.int (nI mi)), some (.int (nI k)), none] [] σ (fun v s => v = some (.int ((-10) - (nI 1))) ∧ z_MR (W.sS 0 (nI 1)) s ∧ pi_fr z_RC s σ) := by
  have hk := hm.wk
  have hnd8 := hk.wd.nd8
  have hns12 := hk.wd.ns12
  have hn60 := hk.nine
  have hnf := hk.nf
  have hnw := hk.nw
  have hnc := hk.nc
  have hn08 := hk.wd.n0
  have hn140 := hk.wd.n1
  have hsi := hk.si k hk4
  refine pi_go 4 (pc' := 6) (l' := [some (.ref 56), some (.int (nI mi)), some (.int (nI k)), none]) (st' := [.int (σ 56 10), .int (nI 0), .int (nI mi)]) (σ' := σ) (fun f => rfl) ?_
  refine pi_tp (y := nI W.nine) (hm.nine) ?_
  refine pi_ca 1 (m' := 100) (l' := [some (.int (nI mi)), some (.int (nI 0)), some (.int (nI W.nine))]) (σ' := σ) (pc2 := 9) (l2 := [some (.ref 56), some (.int (nI mi)), some (.int (nI k)), none]) (t := []) (fun f => rfl) (pi_M_inT ((z_B_in (by omega)).mpr (⟨_, by omega, rfl⟩))) ?_
  rintro _ _ ⟨rfl, rfl⟩
  refine pi_cf 1 (c := nI 1 = 0) (pc' := 12) (l' := [some (.ref 56), some (.int (nI mi)), some (.int (nI k)), none]) (st' := []) (σ' := σ) (pc2 := 19) (l2 := [some (.ref 56), some (.int (nI mi)), some (.int (nI k)), none]) (st2 := []) (σ2 := σ) (fun f => rfl) (by decide) ?_
  refine pi_ca 2 (m' := 163) (l' := [some (.int (nI k))]) (σ' := σ) (pc2 := 16) (l2 := [some (.ref 56), some (.int (nI mi)), some (.int (nI k)), none]) (t := []) (fun f => rfl) (pi_M_isSheetT ⟨_, by omega, rfl⟩) ?_
  rintro _ _ ⟨rfl, rfl⟩
  refine pi_cf 1 (c := nI 1 = 0) (pc' := 22) (l' := [some (.ref 56), some (.int (nI mi)), some (.int (nI k)), none]) (st' := []) (σ' := σ) (pc2 := 19) (l2 := [some (.ref 56), some (.int (nI mi)), some (.int (nI k)), none]) (st2 := []) (σ2 := σ) (fun f => rfl) (by decide) ?_
  refine pi_ai 4 (u := k) (n := 4) (g := σ 77) (pc' := 28) (l' := [some (.ref 56), some (.int (nI mi)), some (.int (nI k)), none]) (t := []) (σ' := σ) (fun f => rfl) (by omega) (by omega) ?_
  refine pi_tp (y := nI (W.th k)) ((hm.th k (by omega))) ?_
  refine pi_ct 1 (c := nI (W.th k) = 0) (pc' := 31) (l' := [some (.ref 56), some (.int (nI mi)), some (.int (nI k)), none]) (st' := []) (σ' := σ) (pc2 := 37) (l2 := [some (.ref 56), some (.int (nI mi)), some (.int (nI k)), none]) (st2 := []) (σ2 := σ) (fun f => rfl) (congrArg nI h1) ?_
  refine pi_ca 3 (m' := 162) (l' := [some (.ref 56), some (.int (nI 1))]) (σ' := σ) (pc2 := 36) (l2 := [some (.ref 56), some (.int (nI mi)), some (.int (nI k)), none]) (t := []) (fun f => rfl) (pi_M_meets (nI 1)) ?_
  rintro _ t1 ⟨rfl, et1, kt1, rt1⟩
  refine pi_rt 1 (v := some (.int ((-10) - (nI 1)))) (σ' := t1) (fun f => rfl) ?_
  have hfr : pi_fr [56] t1 σ := pi_fr_tr rt1 (by decide) (pi_fr_rf)
  exact ⟨rfl, hm.fnd (et1) (pi_fs_ca (kt1) (by decide) (pi_fs_rf)) hfr, pi_fr_tr hfr (by decide) pi_fr_rf⟩
theorem z_MR.sIit {W : zW} {s σ : pi_S} {g : Nat → Int32} (h : z_MR W σ) (e : s 80 = g) (hs : pi_fs 56 [2, 4, 25, 26, 28] s σ) (hr : pi_fr [56, 59, 60, 61, 74, 75, 76, 80, 81] s σ) (j4 : ∀ k, 40 ≤ k → s 74 k = nI 0) (j5 : ∀ k, 40 ≤ k → s 75 k = nI 0) : z_MR (W.sI 9 g) s := by
  have h1 : z_MR W (fun c => if c = 80 then σ 80 else if c = 81 then σ 81 else s c) := h.of (fun c hc => by
    show (if c = 80 then σ 80 else if c = 81 then σ 81 else s c) = σ c
    split
    · rename_i q; rw [q]
    · split
      · rename_i q; rw [q]
      · refine hr c (fun q => hc ?_)
        revert q
        simp only [List.mem_cons, List.not_mem_nil, or_false]
        omega) (fun k hk => hs k hk) j4 j5
  exact h1.it_ e pi_fs_rf (fun c hc => by
    show s c = (if c = 80 then σ 80 else if c = 81 then σ 81 else s c)
    have a : c ≠ 80 := fun q => hc (by rw [q]; decide)
    have b : c ≠ 81 := fun q => hc (by rw [q]; decide)
    rw [if_neg a, if_neg b])
set_option maxRecDepth 20000 in
theorem pi_P_write {xs : Nat → Int32} {L d : Nat} {W : zW} {σ : pi_S} (hm : z_MR W σ) {mi k N : Nat} (hi : mi < W.nine + 1) (hk4 : k < 4) (h1 : ¬ W.th k = 0) (hN : N ≤ W.si k ∧ N ≤ W.nd ∧ (N = W.si k ∨ N = W.nd))  : pi_wp xs L (d + 9) 171 0 [some (.ref 56), some (.int (nI mi)), some (.int (nI k)), none] [] σ (fun v s => v = some (.int (nI N)) ∧ z_MR (W.sI 9 (z_wr W k (z_R W (-1) (-1) 0 (fun _ => 0) (mi + 1)).1.1.1 N)) s ∧ pi_fr z_RC s σ) := by
  have hk := hm.wk
  have hnd8 := hk.wd.nd8
  have hns12 := hk.wd.ns12
  have hn60 := hk.nine
  have hnf := hk.nf
  have hnw := hk.nw
  have hnc := hk.nc
  have hn08 := hk.wd.n0
  have hn140 := hk.wd.n1
  have hsi := hk.si k hk4
  refine pi_go 4 (pc' := 6) (l' := [some (.ref 56), some (.int (nI mi)), some (.int (nI k)), none]) (st' := [.int (σ 56 10), .int (nI 0), .int (nI mi)]) (σ' := σ) (fun f => rfl) ?_
  refine pi_tp (y := nI W.nine) (hm.nine) ?_
  refine pi_ca 1 (m' := 100) (l' := [some (.int (nI mi)), some (.int (nI 0)), some (.int (nI W.nine))]) (σ' := σ) (pc2 := 9) (l2 := [some (.ref 56), some (.int (nI mi)), some (.int (nI k)), none]) (t := []) (fun f => rfl) (pi_M_inT ((z_B_in (by omega)).mpr (⟨_, by omega, rfl⟩))) ?_
  rintro _ _ ⟨rfl, rfl⟩
  refine pi_cf 1 (c := nI 1 = 0) (pc' := 12) (l' := [some (.ref 56), some (.int (nI mi)), some (.int (nI k)), none]) (st' := []) (σ' := σ) (pc2 := 19) (l2 := [some (.ref 56), some (.int (nI mi)), some (.int (nI k)), none]) (st2 := []) (σ2 := σ) (fun f => rfl) (by decide) ?_
  refine pi_ca 2 (m' := 163) (l' := [some (.int (nI k))]) (σ' := σ) (pc2 := 16) (l2 := [some (.ref 56), some (.int (nI mi)), some (.int (nI k)), none]) (t := []) (fun f => rfl) (pi_M_isSheetT ⟨_, by omega, rfl⟩) ?_
  rintro _ _ ⟨rfl, rfl⟩
  refine pi_cf 1 (c := nI 1 = 0) (pc' := 22) (l' := [some (.ref 56), some (.int (nI mi)), some (.int (nI k)), none]) (st' := []) (σ' := σ) (pc2 := 19) (l2 := [some (.ref 56), some (.int (nI mi)), some (.int (nI k)), none]) (st2 := []) (σ2 := σ) (fun f => rfl) (by decide) ?_
  refine pi_ai 4 (u := k) (n := 4) (g := σ 77) (pc' := 28) (l' := [some (.ref 56), some (.int (nI mi)), some (.int (nI k)), none]) (t := []) (σ' := σ) (fun f => rfl) (by omega) (by omega) ?_
  refine pi_tp (y := nI (W.th k)) ((hm.th k (by omega))) ?_
  refine pi_cf 1 (c := nI (W.th k) = 0) (pc' := 37) (l' := [some (.ref 56), some (.int (nI mi)), some (.int (nI k)), none]) (st' := []) (σ' := σ) (pc2 := 31) (l2 := [some (.ref 56), some (.int (nI mi)), some (.int (nI k)), none]) (st2 := []) (σ2 := σ) (fun f => rfl) (fun q => h1 ((nI_eq (by omega) (by omega)).mp q)) ?_
  refine pi_ca 2 (m' := 111) (l' := [some (.ref 56), none]) (σ' := σ) (pc2 := 41) (l2 := [some (.ref 56), some (.int (nI mi)), some (.int (nI k)), none]) (t := []) (fun f => rfl) (pi_M_reads hm ) ?_
  rintro _ t1 ⟨rfl, gt1, rt1⟩
  refine pi_go 3 (pc' := 46) (l' := [some (.ref 56), some (.int (nI mi)), some (.int (nI k)), none]) (st' := []) (σ' := (pi_up t1 56 26 (nI 0))) (fun f => rfl) ?_
  generalize es2 : pi_up t1 56 26 (nI 0) = s2
  refine pi_ca 5 (m' := 131) (l' := [some (.ref 56), some (.int (nI mi)), some (.int (-1)), some (.int (-1)), none, none]) (σ' := s2) (pc2 := 53) (l2 := [some (.ref 56), some (.int (nI mi)), some (.int (nI k)), none]) (t := []) (fun f => rfl) (pi_M_runs (rw_ := (fun _ => 0)) (z_MT.of0 gt1 (pi_fr_of es2 (by decide) (pi_fr_rf)) (pi_fs_up es2 (by decide) (pi_fs_rf))) ((congrFun (congrFun es2 56) 26).symm.trans (pi_up_ss _ _ _ _)) (by omega) (fun i hi => absurd hi (Nat.not_lt_zero i)) (by omega)) ?_
  rintro _ t3 ⟨rfl, gt3, et3_74, et3_75, et3_25, et3_28, kt3, qt3⟩
  have rt3 : pi_fr z_RC t3 s2 := pi_fr_tr qt3 (by decide) pi_fr_rf
  refine pi_go 2 (pc' := 55) (l' := [some (.ref 56), some (.int (nI mi)), some (.int (nI k)), some (.int (nI 0))]) (st' := []) (σ' := t3) (fun f => rfl) ?_
  have hw4 := z_R_tail hk (-1) (-1) 0 (fun _ => 0) (mi + 1)
  have hmn := hN
  suffices hl4 : ∀ q9, q9 ≤ N → ∀ (z4 : pi_S), z4 80 = z_wr W k (z_R W (-1) (-1) 0 (fun _ => 0) (mi + 1)).1.1.1 q9 → pi_fr z_RC z4 σ → pi_fr [80] z4 t3 → pi_wp xs L (d + 9) 171 55 [some (.ref 56), some (.int (nI mi)), some (.int (nI k)), some (.int (nI q9))] [] z4 (fun v s => v = some (.int (nI N)) ∧ z_MR (W.sI 9 (z_wr W k (z_R W (-1) (-1) 0 (fun _ => 0) (mi + 1)).1.1.1 N)) s ∧ pi_fr z_RC s σ) from hl4 0 (by omega) _ (gt3.mr.it) (pi_fr_t2 rt3 (pi_fr_of es2 (by decide) (pi_fr_t2 rt1 (pi_fr_rf)))) (pi_fr_rf)
  refine pi_lp0 ?_ ?_
  · intro z4 fz4_80 hrz4 hx4
    refine pi_ai 5 (u := k) (n := 4) (g := z4 79) (pc' := 62) (l' := [some (.ref 56), some (.int (nI mi)), some (.int (nI k)), some (.int (nI N))]) (t := [.int (nI N)]) (σ' := z4) (fun f => rfl) (by omega) (by omega) ?_
    refine pi_tp (y := nI (W.si k)) ((congrFun (hx4 79 (by decide)) k).trans ((gt3.mr.si k (by omega)))) ?_
    refine pi_if 1 (c := nI (W.si k) ≤ nI N) (pc' := 90) (l' := [some (.ref 56), some (.int (nI mi)), some (.int (nI k)), some (.int (nI N))]) (st' := []) (σ' := z4) (pc2 := 65) (l2 := [some (.ref 56), some (.int (nI mi)), some (.int (nI k)), some (.int (nI N))]) (st2 := []) (σ2 := z4) (fun f => rfl) (fun h1 => ?_) (fun h1 => ?_)
    · replace h1 : (W.si k) ≤ N := (nI_leI (by omega) (by omega)).mp h1
      refine pi_rt 2 (v := some (.int (nI N))) (σ' := z4) (fun f => rfl) ?_
      have hq : pi_fr [80] z4 t3 := hx4
      refine ⟨rfl, ?_, pi_fr_t2 hrz4 (pi_fr_rf)⟩
      have hmt : z_MT W t3 := gt3
      exact hmt.mr.sIit (fz4_80) (pi_fs_fr hq (by decide) pi_fs_rf) (pi_fr_tr hq (by decide) pi_fr_rf) (fun k hk => (congrFun ((hq 74 (by decide)).trans (et3_74)) k).trans (hw4.1 k hk)) (fun k hk => (congrFun ((hq 75 (by decide)).trans (et3_75)) k).trans (hw4.2 k hk))
    · replace h1 : ¬ ((W.si k) ≤ N) := fun zq => h1 ((nI_leI (by omega) (by omega)).mpr zq)
      refine pi_go 3 (pc' := 70) (l' := [some (.ref 56), some (.int (nI mi)), some (.int (nI k)), some (.int (nI N))]) (st' := [.int (z4 56 2), .int (nI N)]) (σ' := z4) (fun f => rfl) ?_
      refine pi_tp (y := nI W.nd) ((congrFun (hx4 56 (by decide)) 2).trans (gt3.d2)) ?_
      refine pi_if 1 (c := nI W.nd ≤ nI N) (pc' := 90) (l' := [some (.ref 56), some (.int (nI mi)), some (.int (nI k)), some (.int (nI N))]) (st' := []) (σ' := z4) (pc2 := 73) (l2 := [some (.ref 56), some (.int (nI mi)), some (.int (nI k)), some (.int (nI N))]) (st2 := []) (σ2 := z4) (fun f => rfl) (fun h2 => ?_) (fun h2 => ?_)
      · replace h2 : W.nd ≤ N := (nI_leI (by omega) (by omega)).mp h2
        refine pi_rt 2 (v := some (.int (nI N))) (σ' := z4) (fun f => rfl) ?_
        have hq : pi_fr [80] z4 t3 := hx4
        refine ⟨rfl, ?_, pi_fr_t2 hrz4 (pi_fr_rf)⟩
        have hmt : z_MT W t3 := gt3
        exact hmt.mr.sIit (fz4_80) (pi_fs_fr hq (by decide) pi_fs_rf) (pi_fr_tr hq (by decide) pi_fr_rf) (fun k hk => (congrFun ((hq 74 (by decide)).trans (et3_74)) k).trans (hw4.1 k hk)) (fun k hk => (congrFun ((hq 75 (by decide)).trans (et3_75)) k).trans (hw4.2 k hk))
      · replace h2 : ¬ (W.nd ≤ N) := fun zq => h2 ((nI_leI (by omega) (by omega)).mpr zq)
        exfalso
        omega
  · intro q9 hi4 ih4 z4 fz4_80 hrz4 hx4
    refine pi_ai 5 (u := k) (n := 4) (g := z4 79) (pc' := 62) (l' := [some (.ref 56), some (.int (nI mi)), some (.int (nI k)), some (.int (nI q9))]) (t := [.int (nI q9)]) (σ' := z4) (fun f => rfl) (by omega) (by omega) ?_
    refine pi_tp (y := nI (W.si k)) ((congrFun (hx4 79 (by decide)) k).trans ((gt3.mr.si k (by omega)))) ?_
    refine pi_cf 1 (c := nI (W.si k) ≤ nI q9) (pc' := 65) (l' := [some (.ref 56), some (.int (nI mi)), some (.int (nI k)), some (.int (nI q9))]) (st' := []) (σ' := z4) (pc2 := 90) (l2 := [some (.ref 56), some (.int (nI mi)), some (.int (nI k)), some (.int (nI q9))]) (st2 := []) (σ2 := z4) (fun f => rfl) (fun q => absurd ((show nI (W.si k) ≤ nI q9 ↔ _ from nI_leI (by omega) (by omega)).mp q) (by omega)) ?_
    refine pi_go 3 (pc' := 70) (l' := [some (.ref 56), some (.int (nI mi)), some (.int (nI k)), some (.int (nI q9))]) (st' := [.int (z4 56 2), .int (nI q9)]) (σ' := z4) (fun f => rfl) ?_
    refine pi_tp (y := nI W.nd) ((congrFun (hx4 56 (by decide)) 2).trans (gt3.d2)) ?_
    refine pi_cf 1 (c := nI W.nd ≤ nI q9) (pc' := 73) (l' := [some (.ref 56), some (.int (nI mi)), some (.int (nI k)), some (.int (nI q9))]) (st' := []) (σ' := z4) (pc2 := 90) (l2 := [some (.ref 56), some (.int (nI mi)), some (.int (nI k)), some (.int (nI q9))]) (st2 := []) (σ2 := z4) (fun f => rfl) (fun q => absurd ((show nI W.nd ≤ nI q9 ↔ _ from nI_leI (by omega) (by omega)).mp q) (by omega)) ?_
    refine pi_ca 6 (m' := 126) (l' := [some (.ref 56), some (.int (nI q9)), none, none]) (σ' := z4) (pc2 := 81) (l2 := [some (.ref 56), some (.int (nI mi)), some (.int (nI k)), some (.int (nI q9))]) (t := [.int (nI q9), .int (nI k), .ref 56]) (fun f => rfl) (pi_m_all (by omega)) ?_
    rintro _ _ ⟨rfl, rfl⟩
    refine pi_tp (y := z_all ((z_R W (-1) (-1) 0 (fun _ => 0) (mi + 1)).1.1.1) q9) (congrArg (fun z => z_all z q9) ((hx4 74 (by decide)).trans (et3_74))) ?_
    refine pi_ca 1 (m' := 167) (l' := [some (.ref 56), some (.int (nI k)), some (.int (nI q9)), some (.int (z_all ((z_R W (-1) (-1) 0 (fun _ => 0) (mi + 1)).1.1.1) q9))]) (σ' := z4) (pc2 := 84) (l2 := [some (.ref 56), some (.int (nI mi)), some (.int (nI k)), some (.int (nI q9))]) (t := []) (fun f => rfl) (pi_M_keep (W := W) (k := k) (i := q9) (x := z_all ((z_R W (-1) (-1) 0 (fun _ => 0) (mi + 1)).1.1.1) q9) (by omega) (by omega) ((congrFun (hx4 78 (by decide)) k).trans ((gt3.mr.fo k (by omega)))) (hk.si k (by omega)).2.1) ?_
    rintro _ t5 ⟨rfl, et5, rt5⟩
    refine pi_go 1 (pc' := 87) (l' := [some (.ref 56), some (.int (nI mi)), some (.int (nI k)), some (.int (nI q9 + nI 1))]) (st' := []) (σ' := t5) (fun f => rfl) ?_
    rw [show nI q9 + nI 1 = nI (q9 + 1) from nI_add _ 1]
    refine pi_go 1 (pc' := 55) (l' := [some (.ref 56), some (.int (nI mi)), some (.int (nI k)), some (.int (nI (q9 + 1)))]) (st' := []) (σ' := t5) (fun f => rfl) ?_
    exact ih4 _ (et5.trans (congrArg (fun z => upd z _ _) (fz4_80))) (pi_fr_tr rt5 (by decide) (pi_fr_t2 hrz4 (pi_fr_rf))) (pi_fr_tr rt5 (by decide) (hx4))
set_option maxRecDepth 20000 in
theorem pi_M_sumOf0 {xs : Nat → Int32} {L d : Nat} {W : zW} {σ : pi_S} (hm : z_MR W σ)  : pi_wp xs L (d + 5) 172 0 [some (.ref 56), some (.int (nI 0))] [] σ (fun v s => v = some (.int (nI W.nd)) ∧ z_MT W s ∧ pi_fr z_RC s σ) := by
  have hk := hm.wk
  have hnd8 := hk.wd.nd8
  have hns12 := hk.wd.ns12
  have hn60 := hk.nine
  have hnf := hk.nf
  have hnw := hk.nw
  have hnc := hk.nc
  have hn08 := hk.wd.n0
  have hn140 := hk.wd.n1
  refine pi_ca 2 (m' := 111) (l' := [some (.ref 56), none]) (σ' := σ) (pc2 := 4) (l2 := [some (.ref 56), some (.int (nI 0))]) (t := []) (fun f => rfl) (pi_M_reads hm ) ?_
  rintro _ t1 ⟨rfl, gt1, rt1⟩
  refine pi_ct 2 (c := nI 0 = 0) (pc' := 8) (l' := [some (.ref 56), some (.int (nI 0))]) (st' := []) (σ' := t1) (pc2 := 15) (l2 := [some (.ref 56), some (.int (nI 0))]) (st2 := []) (σ2 := t1) (fun f => rfl) (by decide) ?_
  refine pi_go 2 (pc' := 12) (l' := [some (.ref 56), some (.int (nI 0))]) (st' := [.int (t1 56 2)]) (σ' := t1) (fun f => rfl) ?_
  refine pi_tp (y := nI W.nd) (gt1.d2) ?_
  refine pi_rt 2 (v := some (.int (nI W.nd))) (σ' := t1) (fun f => rfl) ?_
  exact ⟨rfl, gt1, pi_fr_t2 rt1 (pi_fr_rf)⟩
set_option maxRecDepth 20000 in
theorem pi_M_sumOf1 {xs : Nat → Int32} {L d : Nat} {W : zW} {σ : pi_S} (hm : z_MR W σ)  : pi_wp xs L (d + 5) 172 0 [some (.ref 56), some (.int (nI 1))] [] σ (fun v s => v = some (.int (nI W.ns)) ∧ z_MT W s ∧ pi_fr z_RC s σ) := by
  have hk := hm.wk
  have hnd8 := hk.wd.nd8
  have hns12 := hk.wd.ns12
  have hn60 := hk.nine
  have hnf := hk.nf
  have hnw := hk.nw
  have hnc := hk.nc
  have hn08 := hk.wd.n0
  have hn140 := hk.wd.n1
  refine pi_ca 2 (m' := 111) (l' := [some (.ref 56), none]) (σ' := σ) (pc2 := 4) (l2 := [some (.ref 56), some (.int (nI 1))]) (t := []) (fun f => rfl) (pi_M_reads hm ) ?_
  rintro _ t1 ⟨rfl, gt1, rt1⟩
  refine pi_cf 2 (c := nI 1 = 0) (pc' := 15) (l' := [some (.ref 56), some (.int (nI 1))]) (st' := []) (σ' := t1) (pc2 := 8) (l2 := [some (.ref 56), some (.int (nI 1))]) (st2 := []) (σ2 := t1) (fun f => rfl) (by decide) ?_
  refine pi_go 2 (pc' := 19) (l' := [some (.ref 56), some (.int (nI 1))]) (st' := [.int (t1 56 4)]) (σ' := t1) (fun f => rfl) ?_
  refine pi_tp (y := nI W.ns) (gt1.d4) ?_
  refine pi_rt 1 (v := some (.int (nI W.ns))) (σ' := t1) (fun f => rfl) ?_
  exact ⟨rfl, gt1, pi_fr_t2 rt1 (pi_fr_rf)⟩
def z_cnt (W : zW) (k : Nat) : Int32 := match k with
  | 0 => nI W.nd
  | 1 => nI W.ns
  | 2 => nI W.n0
  | 3 => nI W.n1
  | 4 => nI W.nf
  | 5 => nI W.nw
  | 6 => nI W.nc
  | 7 => nI W.nine
  | _ => W.fi
theorem z_s22 : nI 2 - nI 2 = nI 0 := by decide
theorem z_s32 : nI 3 - nI 2 = nI 1 := by decide
set_option maxRecDepth 20000 in
theorem pi_P_count0 {xs : Nat → Int32} {L d : Nat} {W : zW} {σ : pi_S} (hm : z_MR W σ)  : pi_wp xs L (d + 9) 173 0 [some (.ref 56), some (.int (nI 0))] [] σ (fun v s => v = some (.int (nI W.nd)) ∧ z_MR W s ∧ pi_fr z_RC s σ) := by
  have hk := hm.wk
  have hnd8 := hk.wd.nd8
  have hns12 := hk.wd.ns12
  have hn60 := hk.nine
  have hnf := hk.nf
  have hnw := hk.nw
  have hnc := hk.nc
  have hn08 := hk.wd.n0
  have hn140 := hk.wd.n1
  refine pi_go 2 (pc' := 52) (l' := [some (.ref 56), some (.int (nI 0))]) (st' := []) (σ' := σ) (fun f => rfl) ?_
  refine pi_ca 3 (m' := 172) (l' := [some (.ref 56), some (.int (nI 0))]) (σ' := σ) (pc2 := 57) (l2 := [some (.ref 56), some (.int (nI 0))]) (t := []) (fun f => rfl) (pi_M_sumOf0 hm ) ?_
  rintro _ t1 ⟨rfl, gt1, rt1⟩
  refine pi_rt 1 (v := some (.int (nI W.nd))) (σ' := t1) (fun f => rfl) ?_
  exact ⟨rfl, gt1.mr, pi_fr_t2 rt1 (pi_fr_rf)⟩
set_option maxRecDepth 20000 in
theorem pi_P_count1 {xs : Nat → Int32} {L d : Nat} {W : zW} {σ : pi_S} (hm : z_MR W σ)  : pi_wp xs L (d + 9) 173 0 [some (.ref 56), some (.int (nI 1))] [] σ (fun v s => v = some (.int (nI W.ns)) ∧ z_MR W s ∧ pi_fr z_RC s σ) := by
  have hk := hm.wk
  have hnd8 := hk.wd.nd8
  have hns12 := hk.wd.ns12
  have hn60 := hk.nine
  have hnf := hk.nf
  have hnw := hk.nw
  have hnc := hk.nc
  have hn08 := hk.wd.n0
  have hn140 := hk.wd.n1
  refine pi_go 2 (pc' := 52) (l' := [some (.ref 56), some (.int (nI 1))]) (st' := []) (σ' := σ) (fun f => rfl) ?_
  refine pi_ca 3 (m' := 172) (l' := [some (.ref 56), some (.int (nI 1))]) (σ' := σ) (pc2 := 57) (l2 := [some (.ref 56), some (.int (nI 1))]) (t := []) (fun f => rfl) (pi_M_sumOf1 hm ) ?_
  rintro _ t1 ⟨rfl, gt1, rt1⟩
  refine pi_rt 1 (v := some (.int (nI W.ns))) (σ' := t1) (fun f => rfl) ?_
  exact ⟨rfl, gt1.mr, pi_fr_t2 rt1 (pi_fr_rf)⟩
set_option maxRecDepth 20000 in
theorem pi_P_count2 {xs : Nat → Int32} {L d : Nat} {W : zW} {σ : pi_S} (hm : z_MR W σ)  : pi_wp xs L (d + 9) 173 0 [some (.ref 56), some (.int (nI 2))] [] σ (fun v s => v = some (.int (nI W.n0)) ∧ z_MR W s ∧ pi_fr z_RC s σ) := by
  have hk := hm.wk
  have hnd8 := hk.wd.nd8
  have hns12 := hk.wd.ns12
  have hn60 := hk.nine
  have hnf := hk.nf
  have hnw := hk.nw
  have hnc := hk.nc
  have hn08 := hk.wd.n0
  have hn140 := hk.wd.n1
  refine pi_go 2 (pc' := 58) (l' := [some (.ref 56), some (.int (nI 2))]) (st' := []) (σ' := σ) (fun f => rfl) ?_
  refine pi_go 5 (pc' := 65) (l' := [some (.ref 56), some (.int (nI 2))]) (st' := [.int ((nI 2) - (nI 2)), .ref 57]) (σ' := σ) (fun f => rfl) ?_
  refine pi_tp (y := nI 0) z_s22 ?_
  refine pi_ai 1 (u := 0) (n := 2) (g := σ 57) (pc' := 66) (l' := [some (.ref 56), some (.int (nI 2))]) (t := []) (σ' := σ) (fun f => rfl) (by omega) (by omega) ?_
  refine pi_tp (y := nI W.n0) (hm.n0) ?_
  refine pi_rt 1 (v := some (.int (nI W.n0))) (σ' := σ) (fun f => rfl) ?_
  exact ⟨rfl, hm, pi_fr_rf⟩
set_option maxRecDepth 20000 in
theorem pi_P_count3 {xs : Nat → Int32} {L d : Nat} {W : zW} {σ : pi_S} (hm : z_MR W σ)  : pi_wp xs L (d + 9) 173 0 [some (.ref 56), some (.int (nI 3))] [] σ (fun v s => v = some (.int (nI W.n1)) ∧ z_MR W s ∧ pi_fr z_RC s σ) := by
  have hk := hm.wk
  have hnd8 := hk.wd.nd8
  have hns12 := hk.wd.ns12
  have hn60 := hk.nine
  have hnf := hk.nf
  have hnw := hk.nw
  have hnc := hk.nc
  have hn08 := hk.wd.n0
  have hn140 := hk.wd.n1
  refine pi_go 2 (pc' := 58) (l' := [some (.ref 56), some (.int (nI 3))]) (st' := []) (σ' := σ) (fun f => rfl) ?_
  refine pi_go 5 (pc' := 65) (l' := [some (.ref 56), some (.int (nI 3))]) (st' := [.int ((nI 3) - (nI 2)), .ref 57]) (σ' := σ) (fun f => rfl) ?_
  refine pi_tp (y := nI 1) z_s32 ?_
  refine pi_ai 1 (u := 1) (n := 2) (g := σ 57) (pc' := 66) (l' := [some (.ref 56), some (.int (nI 3))]) (t := []) (σ' := σ) (fun f => rfl) (by omega) (by omega) ?_
  refine pi_tp (y := nI W.n1) (hm.n1) ?_
  refine pi_rt 1 (v := some (.int (nI W.n1))) (σ' := σ) (fun f => rfl) ?_
  exact ⟨rfl, hm, pi_fr_rf⟩
set_option maxRecDepth 20000 in
theorem pi_P_count4 {xs : Nat → Int32} {L d : Nat} {W : zW} {σ : pi_S} (hm : z_MR W σ)  : pi_wp xs L (d + 9) 173 0 [some (.ref 56), some (.int (nI 4))] [] σ (fun v s => v = some (.int (nI W.nf)) ∧ z_MR W s ∧ pi_fr z_RC s σ) := by
  have hk := hm.wk
  have hnd8 := hk.wd.nd8
  have hns12 := hk.wd.ns12
  have hn60 := hk.nine
  have hnf := hk.nf
  have hnw := hk.nw
  have hnc := hk.nc
  have hn08 := hk.wd.n0
  have hn140 := hk.wd.n1
  refine pi_go 2 (pc' := 67) (l' := [some (.ref 56), some (.int (nI 4))]) (st' := []) (σ' := σ) (fun f => rfl) ?_
  refine pi_go 2 (pc' := 71) (l' := [some (.ref 56), some (.int (nI 4))]) (st' := [.int (σ 56 11)]) (σ' := σ) (fun f => rfl) ?_
  refine pi_tp (y := nI W.nf) (hm.nf) ?_
  refine pi_rt 1 (v := some (.int (nI W.nf))) (σ' := σ) (fun f => rfl) ?_
  exact ⟨rfl, hm, pi_fr_rf⟩
set_option maxRecDepth 20000 in
theorem pi_P_count5 {xs : Nat → Int32} {L d : Nat} {W : zW} {σ : pi_S} (hm : z_MR W σ)  : pi_wp xs L (d + 9) 173 0 [some (.ref 56), some (.int (nI 5))] [] σ (fun v s => v = some (.int (nI W.nw)) ∧ z_MR W s ∧ pi_fr z_RC s σ) := by
  have hk := hm.wk
  have hnd8 := hk.wd.nd8
  have hns12 := hk.wd.ns12
  have hn60 := hk.nine
  have hnf := hk.nf
  have hnw := hk.nw
  have hnc := hk.nc
  have hn08 := hk.wd.n0
  have hn140 := hk.wd.n1
  refine pi_go 2 (pc' := 72) (l' := [some (.ref 56), some (.int (nI 5))]) (st' := []) (σ' := σ) (fun f => rfl) ?_
  refine pi_go 2 (pc' := 76) (l' := [some (.ref 56), some (.int (nI 5))]) (st' := [.int (σ 56 16)]) (σ' := σ) (fun f => rfl) ?_
  refine pi_tp (y := nI W.nw) (hm.nw) ?_
  refine pi_rt 1 (v := some (.int (nI W.nw))) (σ' := σ) (fun f => rfl) ?_
  exact ⟨rfl, hm, pi_fr_rf⟩
set_option maxRecDepth 20000 in
theorem pi_P_count6 {xs : Nat → Int32} {L d : Nat} {W : zW} {σ : pi_S} (hm : z_MR W σ)  : pi_wp xs L (d + 9) 173 0 [some (.ref 56), some (.int (nI 6))] [] σ (fun v s => v = some (.int (nI W.nc)) ∧ z_MR W s ∧ pi_fr z_RC s σ) := by
  have hk := hm.wk
  have hnd8 := hk.wd.nd8
  have hns12 := hk.wd.ns12
  have hn60 := hk.nine
  have hnf := hk.nf
  have hnw := hk.nw
  have hnc := hk.nc
  have hn08 := hk.wd.n0
  have hn140 := hk.wd.n1
  refine pi_go 2 (pc' := 77) (l' := [some (.ref 56), some (.int (nI 6))]) (st' := []) (σ' := σ) (fun f => rfl) ?_
  refine pi_go 2 (pc' := 81) (l' := [some (.ref 56), some (.int (nI 6))]) (st' := [.int (σ 56 19)]) (σ' := σ) (fun f => rfl) ?_
  refine pi_tp (y := nI W.nc) (hm.nc) ?_
  refine pi_rt 1 (v := some (.int (nI W.nc))) (σ' := σ) (fun f => rfl) ?_
  exact ⟨rfl, hm, pi_fr_rf⟩
set_option maxRecDepth 20000 in
theorem pi_P_count7 {xs : Nat → Int32} {L d : Nat} {W : zW} {σ : pi_S} (hm : z_MR W σ)  : pi_wp xs L (d + 9) 173 0 [some (.ref 56), some (.int (nI 7))] [] σ (fun v s => v = some (.int (nI W.nine)) ∧ z_MR W s ∧ pi_fr z_RC s σ) := by
  have hk := hm.wk
  have hnd8 := hk.wd.nd8
  have hns12 := hk.wd.ns12
  have hn60 := hk.nine
  have hnf := hk.nf
  have hnw := hk.nw
  have hnc := hk.nc
  have hn08 := hk.wd.n0
  have hn140 := hk.wd.n1
  refine pi_go 2 (pc' := 82) (l' := [some (.ref 56), some (.int (nI 7))]) (st' := []) (σ' := σ) (fun f => rfl) ?_
  refine pi_go 2 (pc' := 86) (l' := [some (.ref 56), some (.int (nI 7))]) (st' := [.int (σ 56 10)]) (σ' := σ) (fun f => rfl) ?_
  refine pi_tp (y := nI W.nine) (hm.nine) ?_
  refine pi_rt 1 (v := some (.int (nI W.nine))) (σ' := σ) (fun f => rfl) ?_
  exact ⟨rfl, hm, pi_fr_rf⟩
set_option maxRecDepth 20000 in
theorem pi_P_count8 {xs : Nat → Int32} {L d : Nat} {W : zW} {σ : pi_S} (hm : z_MR W σ)  : pi_wp xs L (d + 9) 173 0 [some (.ref 56), some (.int (nI 8))] [] σ (fun v s => v = some (.int (W.fi)) ∧ z_MR W s ∧ pi_fr z_RC s σ) := by
  have hk := hm.wk
  have hnd8 := hk.wd.nd8
  have hns12 := hk.wd.ns12
  have hn60 := hk.nine
  have hnf := hk.nf
  have hnw := hk.nw
  have hnc := hk.nc
  have hn08 := hk.wd.n0
  have hn140 := hk.wd.n1
  refine pi_go 2 (pc' := 87) (l' := [some (.ref 56), some (.int (nI 8))]) (st' := []) (σ' := σ) (fun f => rfl) ?_
  refine pi_go 2 (pc' := 91) (l' := [some (.ref 56), some (.int (nI 8))]) (st' := [.int (σ 56 34)]) (σ' := σ) (fun f => rfl) ?_
  refine pi_tp (y := W.fi) (hm.fi) ?_
  refine pi_rt 1 (v := some (.int W.fi)) (σ' := σ) (fun f => rfl) ?_
  exact ⟨rfl, hm, pi_fr_rf⟩
theorem z_sw9 {a : Int32} (h : ¬ z_B 9 a) : a.toInt < (0 : Int) ∨ (8 : Int) < a.toInt := by
  refine Classical.byContradiction fun q => h ((z_B_in (c := 8) (by omega)).mp ?_)
  have q1 : ¬ a.toInt < 0 := fun z => q (Or.inl z)
  have q2 : ¬ (8 : Int) < a.toInt := fun z => q (Or.inr z)
  rw [Int32.le_iff_toInt_le, Int32.le_iff_toInt_le, nI_toInt (by omega), nI_toInt (by omega)]
  omega
set_option maxRecDepth 20000 in
theorem pi_P_count_bad {xs : Nat → Int32} {L d : Nat} {W : zW} {σ : pi_S} (hm : z_MR W σ) {a : Int32} (hb : ¬ z_B 9 a)  : pi_wp xs L (d + 9) 173 0 [some (.ref 56), some (.int a)] [] σ (fun v s => v = some (.int (-2)) ∧ z_MR W s ∧ pi_fr z_RC s σ) := by
  have hk := hm.wk
  have hnd8 := hk.wd.nd8
  have hns12 := hk.wd.ns12
  have hn60 := hk.nine
  have hnf := hk.nf
  have hnw := hk.nw
  have hnc := hk.nc
  have hn08 := hk.wd.n0
  have hn140 := hk.wd.n1
  refine pi_go 2 (pc' := 92) (l' := [some (.ref 56), some (.int a)]) (st' := []) (σ' := σ) (fun f => if_pos (z_sw9 hb)) ?_
  refine pi_rt 2 (v := some (.int (-2))) (σ' := σ) (fun f => rfl) ?_
  exact ⟨rfl, hm, pi_fr_rf⟩
