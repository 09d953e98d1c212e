/-! a minute, and all of them -/
theorem z_sws_s (m but : Int32) (sm : Nat → Int32) (ws : Nat → Nat) (ns : Nat) (up lo : Nat → Nat) (hold : Nat → Int32) (n : Nat) (s : zH × Int32) : z_sws m but sm ws ns up lo hold (n + 1) s = if sm n = m then (if nI n = but then z_sws m but sm ws ns up lo hold n s else cond (z_may ns up lo hold (z_sws m but sm ws ns up lo hold n s).1.1 (ws n)) (z_gd (up (ws n)) (lo (ws n)) (z_sws m but sm ws ns up lo hold n s).1, (z_sws m but sm ws ns up lo hold n s).2) ((z_sws m but sm ws ns up lo hold n s).1, if (z_sws m but sm ws ns up lo hold n s).2 = -1 then nI n else (z_sws m but sm ws ns up lo hold n s).2)) else z_sws m but sm ws ns up lo hold n s := rfl
theorem z_cts_s (m : Int32) (nd : Nat) (cm : Nat → Int32) (cd : Nat → Nat) (n : Nat) (s : zH) : z_cts m nd cm cd (n + 1) s = if cm n = m then (if cd n < nd then z_tk (cd n) (z_cts m nd cm cd n s) else z_cts m nd cm cd n s) else z_cts m nd cm cd n s := rfl
theorem z_row_s (rw_ : Nat → Nat) (ns : Nat) (up lo : Nat → Nat) (hold : Nat → Int32) (n : Nat) (s : zH × Bool) : z_row rw_ ns up lo hold (n + 1) s = (cond ((z_row rw_ ns up lo hold n s).2 && z_may ns up lo hold (z_row rw_ ns up lo hold n s).1.1 (rw_ n)) (z_gd (up (rw_ n)) (lo (rw_ n)) (z_row rw_ ns up lo hold n s).1) (z_row rw_ ns up lo hold n s).1, (z_row rw_ ns up lo hold n s).2 && z_may ns up lo hold (z_row rw_ ns up lo hold n s).1.1 (rw_ n)) := rfl
def z_wet (nine : Nat) (wet : Int32) (rains : Nat → Int32) (m : Nat) : Int32 := if m = nine then (if wet = -1 then rains m else wet) else rains m
def z_m2 (h rains : Nat → Int32) (nd ns : Nat) (up lo : Nat → Nat) (nine : Nat) (wet : Int32) (m : Nat) (s : zH) : zH := if z_wet nine wet rains m = nI 1 then z_rain h nd ns up lo 10 s else s
def z_m4 (hold : Nat → Int32) (ns : Nat) (up lo : Nat → Nat) (nine rm : Nat) (rw_ : Nat → Nat) (m : Nat) (s : zH × Bool) : zH × Bool := if m = nine then z_row rw_ ns up lo hold rm s else s
def z_min (nd ns : Nat) (up lo : Nat → Nat) (hold h rains : Nat → Int32) (nf : Nat) (fm : Nat → Int32) (fd fk : Nat → Nat) (fn : Nat → Int32) (nw : Nat) (sm : Nat → Int32) (ws : Nat → Nat) (but : Int32) (nc : Nat) (cm : Nat → Int32) (cd : Nat → Nat) (nine : Nat) (wet : Int32) (rm : Nat) (rw_ : Nat → Nat) (m : Nat) (t : (zH × Int32) × Bool) : (zH × Int32) × Bool :=
  ((z_cts (nI m) nd cm cd nc (z_m4 hold ns up lo nine rm rw_ m ((z_sws (nI m) but sm ws ns up lo hold nw (z_m2 h rains nd ns up lo nine wet m (z_falls (nI m) nd fm fd fk fn nf t.1.1), t.1.2)).1, t.2)).1, (z_sws (nI m) but sm ws ns up lo hold nw (z_m2 h rains nd ns up lo nine wet m (z_falls (nI m) nd fm fd fk fn nf t.1.1), t.1.2)).2), (z_m4 hold ns up lo nine rm rw_ m ((z_sws (nI m) but sm ws ns up lo hold nw (z_m2 h rains nd ns up lo nine wet m (z_falls (nI m) nd fm fd fk fn nf t.1.1), t.1.2)).1, t.2)).2)
def z_t0 : (zH × Int32) × Bool := (((fun _ => nI 0, fun _ => nI 0), -1), true)
def z_runs (nd ns : Nat) (up lo : Nat → Nat) (hold h rains : Nat → Int32) (nf : Nat) (fm : Nat → Int32) (fd fk : Nat → Nat) (fn : Nat → Int32) (nw : Nat) (sm : Nat → Int32) (ws : Nat → Nat) (but : Int32) (nc : Nat) (cm : Nat → Int32) (cd : Nat → Nat) (nine : Nat) (wet : Int32) (rm : Nat) (rw_ : Nat → Nat) (n : Nat) : (zH × Int32) × Bool := pi_lp (z_min nd ns up lo hold h rains nf fm fd fk fn nw sm ws but nc cm cd nine wet rm rw_) n z_t0
/-- what comes, as told -/
def z_td (s : pi_S) (nf : Nat) (fd fk : Nat → Nat) (nw : Nat) (ws : Nat → Nat) (nc : Nat) (cd : Nat → Nat) (nine rm : Nat) (rw_ : Nat → Nat) : Prop :=
  s 56 11 = nI nf ∧ s 56 16 = nI nw ∧ s 56 19 = nI nc ∧ s 56 10 = nI nine ∧ s 56 26 = nI rm ∧ nf ≤ 21 ∧ nw ≤ 24 ∧ nc ≤ 8 ∧ nine < 60 ∧ rm ≤ 3 ∧ (∀ i, i < nf → s 66 i = nI (fd i) ∧ s 67 i = nI (fk i) ∧ fd i < 8 ∧ fk i < 5) ∧ (∀ i, i < nw → s 70 i = nI (ws i) ∧ ws i < 12) ∧ (∀ i, i < nc → s 72 i = nI (cd i) ∧ cd i < 8) ∧ ∀ i, i < rm → s 76 i = nI (rw_ i) ∧ rw_ i < 12
def z_clr (f : Nat → Int32) (n : Nat) : Nat → Int32 := pi_lp (fun k f => upd f k (nI 0)) n f
theorem z_clr_eq {f : Nat → Int32} {n : Nat} (h : ∀ k, n ≤ k → f k = nI 0) : z_clr f n = fun _ => nI 0 := by
  have key : ∀ j, ∀ k, k < j ∨ n ≤ k → z_clr f j k = nI 0 := by
    intro j
    induction j with
    | zero =>
      intro k hk
      exact h k (by omega)
    | succ j ih =>
      intro k hk
      show upd (z_clr f j) j (nI 0) k = nI 0
      by_cases hkj : k = j
      · rw [hkj]; exact if_pos rfl
      · exact (if_neg hkj).trans (ih k (by omega))
  funext k
  exact key n k (by omega)
theorem z_rain_c {h h' : Nat → Int32} {nd ns i : Nat} {up lo : Nat → Nat} {a a' b b' : Nat → Int32} (e0 : h = h') (e1 : a = a') (e2 : b = b') : z_rain h nd ns up lo i (a, b) = z_rain h' nd ns up lo i (a', b') := by rw [e0, e1, e2]
theorem z_may_c {ns st : Nat} {up lo : Nat → Nat} {a a' b b' : Nat → Int32} (e0 : a = a') (e1 : b = b') : z_may ns up lo a b st = z_may ns up lo a' b' st := by rw [e0, e1]
theorem z_runs_s (nd ns : Nat) (up lo : Nat → Nat) (hold h rains : Nat → Int32) (nf : Nat) (fm : Nat → Int32) (fd fk : Nat → Nat) (fn : Nat → Int32) (nw : Nat) (sm : Nat → Int32) (ws : Nat → Nat) (but : Int32) (nc : Nat) (cm : Nat → Int32) (cd : Nat → Nat) (nine : Nat) (wet : Int32) (rm : Nat) (rw_ : Nat → Nat) (n : Nat) : z_runs nd ns up lo hold h rains nf fm fd fk fn nw sm ws but nc cm cd nine wet rm rw_ (n + 1) = z_min nd ns up lo hold h rains nf fm fd fk fn nw sm ws but nc cm cd nine wet rm rw_ n (z_runs nd ns up lo hold h rains nf fm fd fk fn nw sm ws but nc cm cd nine wet rm rw_ n) := rfl
