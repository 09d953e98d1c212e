/-! what the class's runs come to -/
theorem z_Rc_tail {W : zW} (hk : z_wk W) {r u mm : Int32} {kw md mk : Nat} (hkw : kw ≤ W.nw) (hmd : md < 8) (hmk : mk < 5) (n : Nat) : (∀ k, 40 ≤ k → (z_Rc W r kw u mm md mk n).1.1 k = nI 0) ∧ ∀ k, 40 ≤ k → (z_Rc W r kw u mm md mk n).1.2 k = nI 0 := by
  have hnd := hk.wd.nd8
  have hg : ∀ k (s : zH), k < W.ns → ((∀ k, 40 ≤ k → s.1 k = nI 0) ∧ ∀ k, 40 ≤ k → s.2 k = nI 0) → (∀ j, 40 ≤ j → (z_gd (W.up k) (W.lo k) s).1 j = nI 0) ∧ ∀ j, 40 ≤ j → (z_gd (W.up k) (W.lo k) s).2 j = nI 0 := by
    intro k s hk2 hs
    have := hk.wd.us k hk2
    refine pi_lp_ind (P := fun (s : zH) => (∀ k, 40 ≤ k → s.1 k = nI 0) ∧ ∀ k, 40 ≤ k → s.2 k = nI 0) 5 (fun i hi s hs => ?_) s hs
    exact ⟨z_upd_ge (by omega) (z_upd_ge (by omega) hs.1), z_upd_ge (by omega) (z_upd_ge (by omega) hs.2)⟩
  refine pi_lp_ind (P := fun (t : zH × Int32) => (∀ k, 40 ≤ k → t.1.1 k = nI 0) ∧ ∀ k, 40 ≤ k → t.1.2 k = nI 0) n (fun m _ t ht => ?_) z_c0 ⟨fun _ _ => rfl, fun _ _ => rfl⟩
  have a1 : (∀ k, 40 ≤ k → (z_falls (nI m) W.nd W.fm W.fd W.fk W.fn W.nf t.1).1 k = nI 0) ∧ ∀ k, 40 ≤ k → (z_falls (nI m) W.nd W.fm W.fd W.fk W.fn W.nf t.1).2 k = nI 0 := by
    refine pi_lp_ind (P := fun (s : zH) => (∀ k, 40 ≤ k → s.1 k = nI 0) ∧ ∀ k, 40 ≤ k → s.2 k = nI 0) W.nf (fun i hi s hs => ?_) t.1 ht
    have := hk.fa i hi
    show (∀ k, 40 ≤ k → (ite _ _ _ : zH).1 k = nI 0) ∧ ∀ k, 40 ≤ k → (ite _ _ _ : zH).2 k = nI 0
    split
    · split
      · exact ⟨z_upd_ge (by omega) hs.1, z_upd_ge (by omega) hs.2⟩
      · exact hs
    · exact hs
  have a2 : (∀ k, 40 ≤ k → (z_mo W mm md mk m (z_falls (nI m) W.nd W.fm W.fd W.fk W.fn W.nf t.1)).1 k = nI 0) ∧ ∀ k, 40 ≤ k → (z_mo W mm md mk m (z_falls (nI m) W.nd W.fm W.fd W.fk W.fn W.nf t.1)).2 k = nI 0 := by
    unfold z_mo
    split
    · split
      · exact ⟨z_upd_ge (by omega) a1.1, z_upd_ge (by omega) a1.2⟩
      · exact a1
    · exact a1
  have a3 : ∀ s : zH, ((∀ k, 40 ≤ k → s.1 k = nI 0) ∧ ∀ k, 40 ≤ k → s.2 k = nI 0) → (∀ k, 40 ≤ k → (z_m2 W.hh W.rn W.nd W.ns W.up W.lo W.nine r m s).1 k = nI 0) ∧ ∀ k, 40 ≤ k → (z_m2 W.hh W.rn W.nd W.ns W.up W.lo W.nine r m s).2 k = nI 0 := by
    intro s hs
    rw [z_m2]
    split
    · refine pi_lp_ind (P := fun (s : zH) => (∀ k, 40 ≤ k → s.1 k = nI 0) ∧ ∀ k, 40 ≤ k → s.2 k = nI 0) 10 (fun i _ s hs => pi_lp_ind (P := fun (s : zH) => (∀ k, 40 ≤ k → s.1 k = nI 0) ∧ ∀ k, 40 ≤ k → s.2 k = nI 0) W.nd (fun d hd s hs => ?_) s hs) s hs
      rw [z_r1]
      split
      · split
        · exact hs
        · have := z_fi_le W.up d W.ns W.ns
          exact hg _ _ (by omega) hs
      · exact hs
    · exact hs
  have a4 : ∀ s : zH × Int32, ((∀ k, 40 ≤ k → s.1.1 k = nI 0) ∧ ∀ k, 40 ≤ k → s.1.2 k = nI 0) → (∀ k, 40 ≤ k → (z_sws (nI m) (-1) W.sm W.ws W.ns W.up W.lo W.hd kw s).1.1 k = nI 0) ∧ ∀ k, 40 ≤ k → (z_sws (nI m) (-1) W.sm W.ws W.ns W.up W.lo W.hd kw s).1.2 k = nI 0 := by
    intro s hs
    refine pi_lp_ind (P := fun (z : zH × Int32) => (∀ k, 40 ≤ k → z.1.1 k = nI 0) ∧ ∀ k, 40 ≤ k → z.1.2 k = nI 0) kw (fun i _ s hs => ?_) s hs
    show (∀ k, 40 ≤ k → (ite _ _ _ : zH × Int32).1.1 k = nI 0) ∧ ∀ k, 40 ≤ k → (ite _ _ _ : zH × Int32).1.2 k = nI 0
    split
    · split
      · exact hs
      · cases hb : z_may W.ns W.up W.lo W.hd s.1.1 (W.ws i) with
        | true => exact hg _ _ (of_decide_eq_true hb).1 hs
        | false => exact hs
    · exact hs
  have a5 := a4 (z_m2 W.hh W.rn W.nd W.ns W.up W.lo W.nine r m (z_mo W mm md mk m (z_falls (nI m) W.nd W.fm W.fd W.fk W.fn W.nf t.1)), t.2) (a3 _ a2)
  by_cases q : nI m = u
  · rw [z_mc_1 q]; exact a5
  · rw [z_mc_2 q]
    refine pi_lp_ind (P := fun (s : zH) => (∀ k, 40 ≤ k → s.1 k = nI 0) ∧ ∀ k, 40 ≤ k → s.2 k = nI 0) W.nc (fun i hi s hs => ?_) _ a5
    show (∀ k, 40 ≤ k → (ite _ _ _ : zH).1 k = nI 0) ∧ ∀ k, 40 ≤ k → (ite _ _ _ : zH).2 k = nI 0
    split
    · split
      · refine pi_lp_ind (P := fun (s : zH) => (∀ k, 40 ≤ k → s.1 k = nI 0) ∧ ∀ k, 40 ≤ k → s.2 k = nI 0) 5 (fun j hj s hs => ?_) s hs
        exact ⟨z_upd_ge (by omega) hs.1, z_upd_ge (by omega) hs.2⟩
      · exact hs
    · exact hs
theorem z_row_0 (rw_ : Nat → Nat) (ns : Nat) (up lo : Nat → Nat) (hold : Nat → Int32) (s : zH × Bool) : z_row rw_ ns up lo hold 0 s = s := rfl
theorem z_m4_0 (hold : Nat → Int32) (ns : Nat) (up lo : Nat → Nat) (nine : Nat) (rw_ : Nat → Nat) (m : Nat) (s : zH × Bool) : z_m4 hold ns up lo nine 0 rw_ m s = s := by
  unfold z_m4
  split <;> rfl
theorem z_R_s (W : zW) (wet but : Int32) (rm : Nat) (rw_ : Nat → Nat) (n : Nat) : z_R W wet but rm rw_ (n + 1) = z_min W.nd W.ns W.up W.lo W.hd W.hh W.rn W.nf W.fm W.fd W.fk W.fn W.nw W.sm W.ws but W.nc W.cm W.cd W.nine wet rm rw_ n (z_R W wet but rm rw_ n) := rfl
theorem z_nm1 {m : Nat} (h : m < 2 ^ 31) : ¬ nI m = -1 := z_nIm m h
theorem z_mo_n {W : zW} {mm : Int32} {md mk m : Nat} (h : ¬ mm = nI m) (a : zH) : z_mo W mm md mk m a = a := if_neg h
theorem z_mo_m (W : zW) (md mk : Nat) {m : Nat} (h : m < 2 ^ 31) (a : zH) : z_mo W (-1) md mk m a = a := z_mo_n (fun q => z_nIm m h q.symm) a
/-- nothing supposed but the rain -/
theorem z_Rc_A (W : zW) (r : Int32) (md mk : Nat) (rw_ : Nat → Nat) : ∀ n, n < 2 ^ 31 → z_Rc W r W.nw (-1) (-1) md mk n = (z_R W r (-1) 0 rw_ n).1 := by
  intro n
  induction n with
  | zero => intro _; rfl
  | succ n ih =>
    intro hn
    rw [z_Rc_s, z_R_s, ih (by omega)]
    refine Prod.ext ?_ ?_
    · rw [z_mc_2 (z_nIm n (by omega)), z_mo_m W md mk (by omega), z_min, z_m4_0]
    · show (z_sws _ _ _ _ _ _ _ _ _ _).2 = _
      rw [z_mo_m W md mk (by omega), z_min]
/-- the last sweep left out -/
theorem z_sws_b (m : Int32) (sm : Nat → Int32) (ws : Nat → Nat) (ns : Nat) (up lo : Nat → Nat) (hold : Nat → Int32) {n : Nat} (hn : n < 2 ^ 30) (s : zH × Int32) : z_sws m (nI n) sm ws ns up lo hold (n + 1) s = z_sws m (-1) sm ws ns up lo hold n s := by
  have h : ∀ k, k ≤ n → z_sws m (nI n) sm ws ns up lo hold k s = z_sws m (-1) sm ws ns up lo hold k s := by
    intro k hk
    refine pi_lp_c k (fun i hi s => ?_) s
    have h1 : ¬ nI i = nI n := fun q => absurd ((nI_eq (by omega) (by omega)).mp q) (by omega)
    show (if _ then (if _ then _ else _) else _) = (if _ then (if _ then _ else _) else _)
    rw [if_neg h1, if_neg (z_nIm i (by omega))]
  rw [z_sws_s, if_pos rfl, h n (Nat.le_refl n)]
  split <;> rfl
theorem z_Rc_B (W : zW) (r : Int32) (md mk : Nat) (rw_ : Nat → Nat) (h0 : ¬ W.nw = 0) (hw : W.nw ≤ 24) : ∀ n, n < 2 ^ 31 → z_Rc W r (W.nw - 1) (-1) (-1) md mk n = (z_R W r (nI W.nw - nI 1) 0 rw_ n).1 := by
  intro n
  have e : W.nw = (W.nw - 1) + 1 := by omega
  have hs : ∀ m s, z_sws (nI m) (nI W.nw - nI 1) W.sm W.ws W.ns W.up W.lo W.hd W.nw s = z_sws (nI m) (-1) W.sm W.ws W.ns W.up W.lo W.hd (W.nw - 1) s := by
    intro m s
    rw [z_sub1 h0]
    conv => lhs; arg 9; rw [e]
    exact z_sws_b _ _ _ _ _ _ _ (by omega) s
  induction n with
  | zero => intro _; rfl
  | succ n ih =>
    intro hn
    rw [z_Rc_s, z_R_s, ih (by omega)]
    refine Prod.ext ?_ ?_
    · rw [z_mc_2 (z_nIm n (by omega)), z_mo_m W md mk (by omega), z_min, z_m4_0, hs]
    · show (z_sws _ _ _ _ _ _ _ _ _ _).2 = _
      rw [z_mo_m W md mk (by omega), z_min, hs]
/-- a barrow more -/
theorem z_falls_1 (W : zW) (mi : Int32) (md mk m : Nat) (s : zH) : z_falls (nI m) W.nd (W.fall mi md mk (nI 1)).fm (W.fall mi md mk (nI 1)).fd (W.fall mi md mk (nI 1)).fk (W.fall mi md mk (nI 1)).fn (W.nf + 1) s = z_mo W mi md mk m (z_falls (nI m) W.nd W.fm W.fd W.fk W.fn W.nf s) := by
  have h : z_falls (nI m) W.nd (W.fall mi md mk (nI 1)).fm (W.fall mi md mk (nI 1)).fd (W.fall mi md mk (nI 1)).fk (W.fall mi md mk (nI 1)).fn W.nf s = z_falls (nI m) W.nd W.fm W.fd W.fk W.fn W.nf s := by
    refine pi_lp_c W.nf (fun i hi s => ?_) s
    show (if z_u W.fm W.nf mi i = _ then (if z_u W.fd W.nf md i < _ then z_fl (5 * z_u W.fd W.nf md i + z_u W.fk W.nf mk i) (z_u W.fd W.nf md i) (z_u W.fn W.nf (nI 1) i) s else s) else s) = _
    rw [z_u_n _ _ (show i ≠ W.nf by omega), z_u_n _ _ (show i ≠ W.nf by omega), z_u_n _ _ (show i ≠ W.nf by omega), z_u_n _ _ (show i ≠ W.nf by omega)]
  rw [z_falls_s, h]
  show (if z_u W.fm W.nf mi W.nf = _ then (if z_u W.fd W.nf md W.nf < _ then z_fl (5 * z_u W.fd W.nf md W.nf + z_u W.fk W.nf mk W.nf) (z_u W.fd W.nf md W.nf) (z_u W.fn W.nf (nI 1) W.nf) _ else _) else _) = _
  rw [z_u_s, z_u_s, z_u_s, z_u_s]
  rfl
theorem z_Rc_C (W : zW) (mi : Int32) (md mk : Nat) (rw_ : Nat → Nat) : ∀ n, n < 2 ^ 31 → z_Rc W (-1) W.nw (-1) mi md mk n = (z_R (W.fall mi md mk (nI 1)) (-1) (-1) 0 rw_ n).1 := by
  intro n
  induction n with
  | zero => intro _; rfl
  | succ n ih =>
    intro hn
    rw [z_Rc_s, z_R_s, ih (by omega)]
    have hf := z_falls_1 W mi md mk n (z_R (W.fall mi md mk (nI 1)) (-1) (-1) 0 rw_ n).1.1
    refine Prod.ext ?_ ?_
    · rw [z_mc_2 (z_nIm n (by omega)), z_min, z_m4_0, ← hf]
      rfl
    · show (z_sws _ _ _ _ _ _ _ _ _ _).2 = _
      rw [← hf, z_min]
      rfl
abbrev z_CJ : List Nat := [37, 39, 40, 41, 42, 43, 44, 45, 46]
theorem z_CR.of {W : zW} {s σ : pi_S} (h : z_CR W σ) (hr : pi_fr z_CJ s σ) (jc : ∀ k, 40 ≤ k → s 39 k = nI 0) (jd : ∀ k, 40 ≤ k → s 40 k = nI 0) : z_CR W s := z_CR.mk
  (k := h.k.of (pi_fr_tr hr (by decide) pi_fr_rf))
  (b := (hr 35 (by decide)).trans h.b)
  (y := (hr 36 (by decide)).trans h.y)
  (a := (congrFun (hr 33 (by decide)) 4).trans h.a)
  (jc := jc)
  (jd := jd)
