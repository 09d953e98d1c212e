/-! the search for the least fines: what both sides do -/
theorem z_m4_n {hold : Nat → Int32} {ns : Nat} {up lo : Nat → Nat} {nine rm : Nat} {rw_ : Nat → Nat} {m : Nat} {t : zH × Bool} (h : ¬ m = nine) : z_m4 hold ns up lo nine rm rw_ m t = t := if_neg h
theorem z_m4_y {hold : Nat → Int32} {ns : Nat} {up lo : Nat → Nat} {nine rm : Nat} {rw_ : Nat → Nat} {t : zH × Bool} : z_m4 hold ns up lo nine rm rw_ nine t = z_row rw_ ns up lo hold rm t := if_pos rfl
theorem z_R_row0 (W : zW) (rm : Nat) (rw_ : Nat → Nat) : ∀ m, m ≤ W.nine → z_R W (-1) (-1) rm rw_ m = z_R W (-1) (-1) 0 (fun _ => 0) m := by
  intro m
  induction m with
  | zero => intro _; rfl
  | succ m ih =>
    intro hm
    have h := ih (by omega)
    unfold z_R at h ⊢
    rw [z_runs_s, z_runs_s, h]
    unfold z_min
    rw [z_m4_n (by omega), z_m4_n (by omega)]
theorem z_R_true (W : zW) (rw_ : Nat → Nat) : ∀ m, (z_R W (-1) (-1) 0 rw_ m).2 = true := by
  intro m
  induction m with
  | zero => rfl
  | succ m ih =>
    unfold z_R at ih ⊢
    rw [z_runs_s]
    unfold z_min
    by_cases q : m = W.nine
    · subst q
      rw [z_m4_y]
      exact ih
    · rw [z_m4_n q]
      exact ih
def z_S0 (W : zW) : zH × Int32 := z_sws (nI W.nine) (-1) W.sm W.ws W.ns W.up W.lo W.hd W.nw (z_m2 W.hh W.rn W.nd W.ns W.up W.lo W.nine (-1) W.nine (z_falls (nI W.nine) W.nd W.fm W.fd W.fk W.fn W.nf (z_R W (-1) (-1) 0 (fun _ => 0) W.nine).1.1), (z_R W (-1) (-1) 0 (fun _ => 0) W.nine).1.2)
def z_H0 (W : zW) : zH := (z_S0 W).1
def z_rwH (W : zW) (rm : Nat) (rw_ : Nat → Nat) : zH × Bool := z_row rw_ W.ns W.up W.lo W.hd rm (z_H0 W, true)
theorem z_R_nine (W : zW) (rm : Nat) (rw_ : Nat → Nat) : (z_R W (-1) (-1) rm rw_ (W.nine + 1)).1.1 = z_cts (nI W.nine) W.nd W.cm W.cd W.nc (z_rwH W rm rw_).1 ∧ (z_R W (-1) (-1) rm rw_ (W.nine + 1)).2 = (z_rwH W rm rw_).2 := by
  have h := z_R_row0 W rm rw_ W.nine (Nat.le_refl _)
  have ht := z_R_true W (fun _ => 0) W.nine
  unfold z_rwH z_H0 z_S0
  rw [← ht]
  unfold z_R at h ⊢
  rw [z_runs_s, h]
  unfold z_min
  rw [z_m4_y]
  exact ⟨rfl, rfl⟩
/-- the class's trial: no carts in NINE -/
theorem z_Rc_nc (W : zW) : ∀ n, n ≤ W.nine → W.nine < 60 → z_Rc W (-1) W.nw (nI W.nine) (-1) 0 0 n = z_Rc W (-1) W.nw (-1) (-1) 0 0 n := by
  intro n
  induction n with
  | zero => intro _ _; rfl
  | succ n ih =>
    intro hn h60
    rw [z_Rc_s, z_Rc_s, ih (by omega) h60]
    refine Prod.ext ?_ rfl
    rw [z_mc_2 (fun q => absurd ((nI_eq (by omega) (by omega)).mp q) (by omega)), z_mc_2 (z_nIm n (by omega))]
theorem z_mo_m0 (W : zW) (a : zH) {m : Nat} (h : m < 2 ^ 31) : z_mo W (-1) 0 0 m a = a := if_neg (fun q => z_nIm m h q.symm)
theorem z_Rc_H0 {W : zW} (h60 : W.nine < 60) : (z_Rc W (-1) W.nw (nI W.nine) (-1) 0 0 (W.nine + 1)).1 = z_H0 W := by
  rw [z_Rc_s, z_mc_1 rfl, z_Rc_nc W W.nine (Nat.le_refl _) h60, z_mo_m0 W _ (by omega), z_Rc_A W (-1) 0 0 (fun _ => 0) W.nine (by omega)]
  rfl
/-! sums -/
def z_S (g : Nat → Int32) (n : Nat) : Int32 := pi_lp (fun d a => a + g d) n (nI 0)
theorem z_S_s (g : Nat → Int32) (n : Nat) : z_S g (n + 1) = z_S g n + g n := rfl
theorem z_S_c {g g' : Nat → Int32} : ∀ n, (∀ d, d < n → g d = g' d) → z_S g n = z_S g' n := by
  intro n
  induction n with
  | zero => intro _; rfl
  | succ n ih => intro h; rw [z_S_s, z_S_s, ih (fun d hd => h d (by omega)), h n (by omega)]
theorem z_0I : nI 0 = (0 : Int32) := rfl
theorem z_a4 (a b c d : Int32) : a + b + (c + d) = a + c + (b + d) := by
  rw [Int32.add_assoc, Int32.add_assoc, ← Int32.add_assoc b c d, Int32.add_comm b c, Int32.add_assoc c b d]
theorem z_S_add (f g : Nat → Int32) : ∀ n, z_S (fun d => f d + g d) n = z_S f n + z_S g n := by
  intro n
  induction n with
  | zero => exact (Int32.add_zero _).symm
  | succ n ih => rw [z_S_s, z_S_s, z_S_s, ih, z_a4]
theorem z_S_0 : ∀ n, z_S (fun _ => nI 0) n = nI 0 := by
  intro n
  induction n with
  | zero => rfl
  | succ n ih => rw [z_S_s, ih]; exact Int32.add_zero _
theorem z_S_upd (g : Nat → Int32) (k : Nat) (x : Int32) : ∀ n, (n ≤ k → z_S (upd g k x) n = z_S g n) ∧ (k < n → z_S (upd g k x) n = z_S g n - g k + x) := by
  intro n
  induction n with
  | zero => exact ⟨fun _ => rfl, fun h => absurd h (Nat.not_lt_zero k)⟩
  | succ n ih =>
    refine ⟨fun h => ?_, fun h => ?_⟩
    · rw [z_S_s, z_S_s, ih.1 (by omega), z_upd_n _ _ (show n ≠ k by omega)]
    · rw [z_S_s, z_S_s]
      by_cases q : n = k
      · rw [ih.1 (by omega), q, z_upd_s, Int32.add_sub_cancel]
      · rw [ih.2 (by omega), z_upd_n _ _ q, Int32.sub_eq_add_neg, Int32.sub_eq_add_neg, Int32.add_assoc, Int32.add_assoc, Int32.add_assoc, Int32.add_assoc]
        congr 1
        rw [Int32.add_comm x, ← Int32.add_assoc, ← Int32.add_assoc, Int32.add_comm (-g k)]
/-! what lies at a door, and its fine -/
theorem z_all_S (f : Nat → Int32) (d : Nat) : z_all f d = z_S (fun k => f (5 * d + k)) 5 := rfl
theorem z_fine_S (rt f : Nat → Int32) (d : Nat) : z_fine rt f d = z_S (fun k => f (5 * d + k) * rt k) 5 := rfl
def z_mv (u l : Nat) (b : Nat → Int32) : Nat → Int32 := upd (upd b u (b u - b u)) l (b l + b u)
theorem z_mv_l (u l : Nat) (b : Nat → Int32) : z_mv u l b l = b l + b u := z_upd_s _ _ _
theorem z_mv_u {u l : Nat} (h : u ≠ l) (b : Nat → Int32) : z_mv u l b u = nI 0 := by
  unfold z_mv
  rw [z_upd_n _ _ h, z_upd_s, Int32.sub_self]
  rfl
theorem z_mv_o {u l d : Nat} (h1 : d ≠ u) (h2 : d ≠ l) (b : Nat → Int32) : z_mv u l b d = b d := by
  unfold z_mv
  rw [z_upd_n _ _ h2, z_upd_n _ _ h1]
theorem z_gd_at {u l : Nat} (hul : u ≠ l) (s : zH) : ∀ n, n ≤ 5 → ∀ d k, k < 5 → (pi_lp (z_g1 u l) n s).1 (5 * d + k) = if k < n then (if d = l then s.1 (5 * l + k) + s.1 (5 * u + k) else if d = u then nI 0 else s.1 (5 * d + k)) else s.1 (5 * d + k) := by
  intro n
  induction n with
  | zero => intro _ d k _; rw [if_neg (by omega)]; rfl
  | succ n ih =>
    intro hn d k hk
    show upd (upd (pi_lp (z_g1 u l) n s).1 (5 * l + n) ((pi_lp (z_g1 u l) n s).1 (5 * l + n) + (pi_lp (z_g1 u l) n s).1 (5 * u + n))) (5 * u + n) (nI 0) (5 * d + k) = _
    have hl := ih (by omega) l n (by omega)
    have hu := ih (by omega) u n (by omega)
    rw [if_neg (by omega)] at hl hu
    rw [hl, hu]
    by_cases q1 : 5 * d + k = 5 * u + n
    · rw [q1, z_upd_s, if_pos (by omega), if_neg (by omega), if_pos (by omega)]
    · rw [z_upd_n _ _ q1]
      by_cases q2 : 5 * d + k = 5 * l + n
      · have e1 : d = l := by omega
        have e2 : k = n := by omega
        rw [q2, z_upd_s, if_pos (by omega), if_pos e1, e2]
      · rw [z_upd_n _ _ q2, ih (by omega) d k hk]
        by_cases q3 : k < n
        · rw [if_pos q3, if_pos (show k < n + 1 by omega)]
        · rw [if_neg q3]
          by_cases q4 : k < n + 1
          · rw [if_pos q4, if_neg (by omega), if_neg (by omega)]
          · rw [if_neg q4]
theorem z_gd_5 {u l : Nat} (hul : u ≠ l) (s : zH) {d k : Nat} (hk : k < 5) : (z_gd u l s).1 (5 * d + k) = if d = l then s.1 (5 * l + k) + s.1 (5 * u + k) else if d = u then nI 0 else s.1 (5 * d + k) := by
  have h := z_gd_at hul s 5 (Nat.le_refl 5) d k hk
  rw [if_pos hk] at h
  exact h
def z_Ab (H : zH) : Nat → Int32 := fun d => z_all H.1 d
def z_Aw (W : zW) (H : zH) : Nat → Int32 := fun d => z_fine W.rt H.1 d
theorem z_Ab_gd {u l : Nat} (hul : u ≠ l) (H : zH) : z_Ab (z_gd u l H) = z_mv u l (z_Ab H) := by
  funext d
  show z_all (z_gd u l H).1 d = _
  by_cases q1 : d = l
  · rw [q1, z_mv_l]
    show _ = z_all H.1 l + z_all H.1 u
    rw [z_all_S, z_all_S, z_all_S, ← z_S_add]
    exact z_S_c 5 (fun k hk => by rw [z_gd_5 hul H hk, if_pos rfl])
  · by_cases q2 : d = u
    · rw [q2, z_mv_u hul, z_all_S, ← z_S_0 5]
      exact z_S_c 5 (fun k hk => by rw [z_gd_5 hul H hk, if_neg hul, if_pos rfl])
    · rw [z_mv_o q2 q1]
      show _ = z_all H.1 d
      rw [z_all_S, z_all_S]
      exact z_S_c 5 (fun k hk => by rw [z_gd_5 hul H hk, if_neg q1, if_neg q2])
theorem z_Aw_gd (W : zW) {u l : Nat} (hul : u ≠ l) (H : zH) : z_Aw W (z_gd u l H) = z_mv u l (z_Aw W H) := by
  funext d
  show z_fine W.rt (z_gd u l H).1 d = _
  by_cases q1 : d = l
  · rw [q1, z_mv_l]
    show _ = z_fine W.rt H.1 l + z_fine W.rt H.1 u
    rw [z_fine_S, z_fine_S, z_fine_S, ← z_S_add]
    exact z_S_c 5 (fun k hk => by rw [z_gd_5 hul H hk, if_pos rfl, Int32.add_mul])
  · by_cases q2 : d = u
    · rw [q2, z_mv_u hul, z_fine_S, ← z_S_0 5]
      exact z_S_c 5 (fun k hk => by rw [z_gd_5 hul H hk, if_neg hul, if_pos rfl]; exact Int32.zero_mul)
    · rw [z_mv_o q2 q1]
      show _ = z_fine W.rt H.1 d
      rw [z_fine_S, z_fine_S]
      exact z_S_c 5 (fun k hk => by rw [z_gd_5 hul H hk, if_neg q1, if_neg q2])
/-! carts -/
def z_cbn (W : zW) (d n : Nat) : Bool := pi_lp (fun i b => b || decide (W.cm i = nI W.nine ∧ W.cd i = d)) n false
theorem z_cbn_s (W : zW) (d n : Nat) : z_cbn W d (n + 1) = (z_cbn W d n || decide (W.cm n = nI W.nine ∧ W.cd n = d)) := rfl
def z_cb (W : zW) (d : Nat) : Bool := z_cbn W d W.nc
theorem z_cbn_mono {W : zW} {d i : Nat} (h : z_cbn W d i = true) : ∀ n, i ≤ n → z_cbn W d n = true := by
  intro n
  induction n with
  | zero => intro hn; rw [show 0 = i by omega]; exact h
  | succ n ih =>
    intro hn
    rcases Nat.lt_or_eq_of_le hn with q | q
    · rw [z_cbn_s, ih (by omega)]; rfl
    · rw [← q]; exact h
theorem z_cbn_y {W : zW} {d i : Nat} (hi : i < W.nc) (h1 : W.cm i = nI W.nine) (h2 : W.cd i = d) : z_cb W d = true := by
  refine z_cbn_mono (i := i + 1) ?_ W.nc hi
  rw [z_cbn_s, show decide (W.cm i = nI W.nine ∧ W.cd i = d) = true from decide_eq_true ⟨h1, h2⟩, Bool.or_true]
theorem z_cbn_no {W : zW} {d i : Nat} (h : z_cbn W d i = false) (h1 : ¬ (W.cm i = nI W.nine ∧ W.cd i = d)) : z_cbn W d (i + 1) = false := by
  rw [z_cbn_s, h, show decide (W.cm i = nI W.nine ∧ W.cd i = d) = false from decide_eq_false h1]
  rfl
theorem z_tk_at (dr : Nat) (s : zH) : ∀ n, n ≤ 5 → ∀ d k, k < 5 → (pi_lp (z_tk1 dr) n s).1 (5 * d + k) = if k < n ∧ d = dr then nI 0 else s.1 (5 * d + k) := by
  intro n
  induction n with
  | zero => intro _ d k _; rw [if_neg (by omega)]; rfl
  | succ n ih =>
    intro hn d k hk
    show upd (pi_lp (z_tk1 dr) n s).1 (5 * dr + n) (nI 0) (5 * d + k) = _
    by_cases q : 5 * d + k = 5 * dr + n
    · rw [q, z_upd_s, if_pos (by omega)]
    · rw [z_upd_n _ _ q, ih (by omega) d k hk]
      by_cases w : k < n ∧ d = dr
      · rw [if_pos w, if_pos (by omega)]
      · rw [if_neg w, if_neg (by omega)]
theorem z_cts_at {W : zW} (H : zH) : ∀ n d k, d < W.nd → k < 5 → (z_cts (nI W.nine) W.nd W.cm W.cd n H).1 (5 * d + k) = if z_cbn W d n = true then nI 0 else H.1 (5 * d + k) := by
  intro n
  induction n with
  | zero => intro d k _ _; exact (if_neg Bool.false_ne_true).symm
  | succ n ih =>
    intro d k hd hk
    rw [z_cts_s, z_cbn_s]
    by_cases q1 : W.cm n = nI W.nine
    · rw [if_pos q1]
      by_cases q2 : W.cd n < W.nd
      · rw [if_pos q2]
        have h := z_tk_at (W.cd n) (z_cts (nI W.nine) W.nd W.cm W.cd n H) 5 (Nat.le_refl 5) d k hk
        show (pi_lp (z_tk1 (W.cd n)) 5 (z_cts (nI W.nine) W.nd W.cm W.cd n H)).1 (5 * d + k) = _
        rw [h, ih d k hd hk]
        by_cases q3 : d = W.cd n
        · rw [if_pos ⟨hk, q3⟩, if_pos]
          rw [show decide (W.cm n = nI W.nine ∧ W.cd n = d) = true from decide_eq_true ⟨q1, q3.symm⟩, Bool.or_true]
        · rw [if_neg (fun z => q3 z.2), show decide (W.cm n = nI W.nine ∧ W.cd n = d) = false from decide_eq_false (fun z => q3 z.2.symm), Bool.or_false]
      · rw [if_neg q2, ih d k hd hk, show decide (W.cm n = nI W.nine ∧ W.cd n = d) = false from decide_eq_false (fun z => q2 (by rw [z.2]; exact hd)), Bool.or_false]
    · rw [if_neg q1, ih d k hd hk, show decide (W.cm n = nI W.nine ∧ W.cd n = d) = false from decide_eq_false (fun z => q1 z.1), Bool.or_false]
/-- all fines together, but of doors with a cart -/
def z_fF (W : zW) (w : Nat → Int32) : Int32 := z_S (fun d => cond (z_cb W d) (nI 0) (w d)) W.nd
theorem z_fines_S (rt f : Nat → Int32) (nd : Nat) : z_fines rt f nd = z_S (fun d => z_fine rt f d) nd := rfl
theorem z_fines_cts {W : zW} (H : zH) : z_fines W.rt (z_cts (nI W.nine) W.nd W.cm W.cd W.nc H).1 W.nd = z_fF W (z_Aw W H) := by
  rw [z_fines_S]
  refine z_S_c W.nd (fun d hd => ?_)
  show z_fine W.rt (z_cts (nI W.nine) W.nd W.cm W.cd W.nc H).1 d = cond (z_cb W d) (nI 0) (z_fine W.rt H.1 d)
  cases q : z_cb W d with
  | true =>
    rw [z_fine_S]
    show _ = nI 0
    rw [← z_S_0 5]
    exact z_S_c 5 (fun k hk => by rw [z_cts_at H W.nc d k hd hk, if_pos (show z_cbn W d W.nc = true from q)]; exact Int32.zero_mul)
  | false =>
    rw [z_fine_S]
    show _ = z_fine W.rt H.1 d
    rw [z_fine_S]
    exact z_S_c 5 (fun k hk => by rw [z_cts_at H W.nc d k hd hk, if_neg (by rw [show z_cbn W d W.nc = false from q]; exact Bool.false_ne_true)])
theorem z_fF_mv {W : zW} {u l : Nat} (hu : u < W.nd) (hl : l < W.nd) (hul : u ≠ l) (w : Nat → Int32) : z_fF W (z_mv u l w) = z_fF W w - cond (z_cb W u) (nI 0) (w u) + cond (z_cb W l) (nI 0) (w u) := by
  have e : z_fF W (z_mv u l w) = z_S (upd (upd (fun d => cond (z_cb W d) (nI 0) (w d)) u (nI 0)) l (cond (z_cb W l) (nI 0) (w l + w u))) W.nd := by
    refine z_S_c W.nd (fun d hd => ?_)
    by_cases q1 : d = l
    · rw [q1, z_mv_l, z_upd_s]
    · rw [z_upd_n _ _ q1]
      by_cases q2 : d = u
      · rw [q2, z_mv_u hul, z_upd_s]
        cases z_cb W u <;> rfl
      · rw [z_upd_n _ _ q2, z_mv_o q2 q1]
  rw [e, (z_S_upd _ l _ W.nd).2 hl, (z_S_upd _ u _ W.nd).2 hu, z_upd_n _ _ (Ne.symm hul)]
  show z_fF W w - cond (z_cb W u) (nI 0) (w u) + nI 0 - cond (z_cb W l) (nI 0) (w l) + cond (z_cb W l) (nI 0) (w l + w u) = _
  rw [show ∀ x : Int32, x + nI 0 = x from fun x => Int32.add_zero x]
  cases z_cb W l with
  | true =>
    show z_fF W w - cond (z_cb W u) (nI 0) (w u) - nI 0 + nI 0 = z_fF W w - cond (z_cb W u) (nI 0) (w u) + nI 0
    rw [show ∀ x : Int32, x - nI 0 = x from fun x => Int32.sub_zero x]
  | false =>
    show z_fF W w - cond (z_cb W u) (nI 0) (w u) - w l + (w l + w u) = z_fF W w - cond (z_cb W u) (nI 0) (w u) + w u
    rw [← Int32.add_assoc, Int32.sub_add_cancel]
theorem z_mv_un {u l : Nat} (hul : u ≠ l) (b : Nat → Int32) : upd (upd (z_mv u l b) l (z_mv u l b l - b u)) u (z_mv u l b u + b u) = b := by
  funext d
  by_cases q1 : d = u
  · rw [q1, z_upd_s, z_mv_u hul]
    exact Int32.zero_add _
  · rw [z_upd_n _ _ q1]
    by_cases q2 : d = l
    · rw [q2, z_upd_s, z_mv_l, Int32.add_sub_cancel]
    · rw [z_upd_n _ _ q2, z_mv_o q1 q2]
/-! the nodes of the search: n sweeps, in the code c -/
def z_nh (W : zW) : Nat → Nat → zH
  | 0, _ => z_H0 W
  | n + 1, c => z_gd (W.up (c % W.ns)) (W.lo (c % W.ns)) (z_nh W n (c / W.ns))
def z_nb (W : zW) (n c : Nat) : Nat → Int32 := z_Ab (z_nh W n c)
def z_nw (W : zW) (n c : Nat) : Nat → Int32 := z_Aw W (z_nh W n c)
def z_nF (W : zW) (n c : Nat) : Int32 := z_fF W (z_nw W n c)
/-- the law lets them be -/
def z_nd (W : zW) : Nat → Nat → Prop
  | 0, c => c = 0
  | n + 1, c => 0 < W.ns ∧ z_nd W n (c / W.ns) ∧ z_nb W n (c / W.ns) (W.up (c % W.ns)) + z_nb W n (c / W.ns) (W.lo (c % W.ns)) ≤ W.hd (W.lo (c % W.ns))
/-- and each moves something -/
def z_ng (W : zW) : Nat → Nat → Prop
  | 0, c => c = 0
  | n + 1, c => 0 < W.ns ∧ z_ng W n (c / W.ns) ∧ nI 0 < z_nb W n (c / W.ns) (W.up (c % W.ns)) ∧ z_nb W n (c / W.ns) (W.up (c % W.ns)) + z_nb W n (c / W.ns) (W.lo (c % W.ns)) ≤ W.hd (W.lo (c % W.ns))
theorem z_ng_nd {W : zW} : ∀ n c, z_ng W n c → z_nd W n c := by
  intro n
  induction n with
  | zero => intro c h; exact h
  | succ n ih => intro c h; exact ⟨h.1, ih _ h.2.1, h.2.2.2⟩
theorem z_nd_lt {W : zW} : ∀ n c, z_nd W n c → c < W.ns ^ n := by
  intro n
  induction n with
  | zero => intro c h; rw [show c = 0 from h]; exact Nat.one_pos
  | succ n ih =>
    intro c h
    have := ih _ h.2.1
    rw [Nat.pow_succ]
    exact (Nat.div_lt_iff_lt_mul h.1).mp this
theorem z_H0_nn {W : zW} (hk : z_wk W) : z_nn (z_H0 W) 11340 := by
  have hn := hk.nine
  have hnf := hk.nf
  have h0 := z_R_nn hk (-1) (-1) 0 (fun _ => 0) W.nine
  have b1 : ∀ i, i ≤ W.nf → z_nn (z_falls (nI W.nine) W.nd W.fm W.fd W.fk W.fn i (z_R W (-1) (-1) 0 (fun _ => 0) W.nine).1.1) (189 * W.nine + 9 * i) := by
    intro i
    induction i with
    | zero => intro _; exact h0
    | succ i ih =>
      intro hi
      have hf := hk.fa i (by omega)
      obtain ⟨hf1, hf2, b, hb1, hb9, e⟩ := hf
      have q := ih (by omega)
      rw [z_falls_s]
      split
      · split
        · rw [e]
          exact z_nn_le (z_nn_fl (by omega) q) (by omega)
        · exact z_nn_le q (by omega)
      · exact z_nn_le q (by omega)
  have b2 : z_nn (z_falls (nI W.nine) W.nd W.fm W.fd W.fk W.fn W.nf (z_R W (-1) (-1) 0 (fun _ => 0) W.nine).1.1) 11340 := z_nn_le (b1 W.nf (Nat.le_refl _)) (by omega)
  have hg : ∀ k (s : zH), k < W.ns → z_nn s 11340 → z_nn (z_gd (W.up k) (W.lo k) s) 11340 := fun k s hk2 hs => by
    have := z_us_ne hk hk2
    exact z_nn_gd this.1 this.2.1 this.2.2 hs
  have b3 : z_nn (z_m2 W.hh W.rn W.nd W.ns W.up W.lo W.nine (-1) W.nine (z_falls (nI W.nine) W.nd W.fm W.fd W.fk W.fn W.nf (z_R W (-1) (-1) 0 (fun _ => 0) W.nine).1.1)) 11340 := by
    rw [z_m2]
    split
    · refine pi_lp_ind (P := fun s => z_nn s 11340) 10 (fun i _ s hs => pi_lp_ind (P := fun s => z_nn s 11340) W.nd (fun d hd s hs => ?_) s hs) _ b2
      rw [z_r1]
      split
      · split
        · exact hs
        · have := z_fi_le W.up d W.ns W.ns
          exact hg _ _ (by omega) hs
      · exact hs
    · exact b2
  unfold z_H0 z_S0
  refine pi_lp_ind (P := fun (z : zH × Int32) => z_nn z.1 11340) W.nw (fun i _ s hs => ?_) _ b3
  show z_nn (ite _ _ _ : zH × Int32).1 11340
  split
  · split
    · exact hs
    · cases hb : z_may W.ns W.up W.lo W.hd s.1.1 (W.ws i) with
      | true => exact hg _ _ (of_decide_eq_true hb).1 hs
      | false => exact hs
  · exact hs
theorem z_nh_nn {W : zW} (hk : z_wk W) : ∀ n c, (n = 0 ∨ 0 < W.ns) → z_nn (z_nh W n c) 11340 := by
  intro n
  induction n with
  | zero => intro c _; exact z_H0_nn hk
  | succ n ih =>
    intro c h
    have h0 : 0 < W.ns := by omega
    have hm := z_us_ne hk (Nat.mod_lt c h0)
    exact z_nn_gd hm.1 hm.2.1 hm.2.2 (ih _ (Or.inr h0))
theorem z_nb_s {W : zW} (hk : z_wk W) (h0 : 0 < W.ns) (n c : Nat) : z_nb W (n + 1) c = z_mv (W.up (c % W.ns)) (W.lo (c % W.ns)) (z_nb W n (c / W.ns)) := z_Ab_gd (z_us_ne hk (Nat.mod_lt c h0)).2.2 _
theorem z_nw_s {W : zW} (hk : z_wk W) (h0 : 0 < W.ns) (n c : Nat) : z_nw W (n + 1) c = z_mv (W.up (c % W.ns)) (W.lo (c % W.ns)) (z_nw W n (c / W.ns)) := z_Aw_gd W (z_us_ne hk (Nat.mod_lt c h0)).2.2 _
theorem z_nF_s {W : zW} (hk : z_wk W) (h0 : 0 < W.ns) (n c : Nat) : z_nF W (n + 1) c = z_nF W n (c / W.ns) - cond (z_cb W (W.up (c % W.ns))) (nI 0) (z_nw W n (c / W.ns) (W.up (c % W.ns))) + cond (z_cb W (W.lo (c % W.ns))) (nI 0) (z_nw W n (c / W.ns) (W.up (c % W.ns))) := by
  have hu := hk.wd.us _ (Nat.mod_lt c h0)
  have hne := z_us_ne hk (Nat.mod_lt c h0)
  unfold z_nF
  rw [z_nw_s hk h0, z_fF_mv hu.2.2.1 hu.2.2.2.1 hne.2.2]
theorem z_nF_nn {W : zW} (hk : z_wk W) (n c : Nat) (h : n = 0 ∨ 0 < W.ns) : ∃ f, f < 2 ^ 30 ∧ z_nF W n c = nI f := by
  have hnd := hk.wd.nd8
  have h1 : z_nn (z_cts (nI W.nine) W.nd W.cm W.cd W.nc (z_nh W n c)) 11340 := by
    refine pi_lp_ind (P := fun s => z_nn s 11340) W.nc (fun i hi s hs => ?_) _ (z_nh_nn hk n c h)
    show z_nn (ite _ _ _) 11340
    split
    · split
      · exact z_nn_tk (by omega) hs
      · exact hs
    · exact hs
  obtain ⟨f, hf, e⟩ := z_fines_nn hk h1
  exact ⟨f, by omega, by rw [← e, z_fines_cts]; rfl⟩
theorem z_nd_0 {W : zW} {n c : Nat} (h : z_nd W n c) : n = 0 ∨ 0 < W.ns := by
  cases n with
  | zero => exact Or.inl rfl
  | succ n => exact Or.inr h.1
/-! rows of the reference, by their codes -/
theorem z_row_c {r r' : Nat → Nat} {ns : Nat} {up lo : Nat → Nat} {hold : Nat → Int32} (s : zH × Bool) : ∀ n, (∀ i, i < n → r i = r' i) → z_row r ns up lo hold n s = z_row r' ns up lo hold n s := by
  intro n
  induction n with
  | zero => intro _; rfl
  | succ n ih => intro h; rw [z_row_s, z_row_s, ih (fun i hi => h i (by omega)), h n (by omega)]
theorem z_rw_lo {ns n c i : Nat} (hi : i < n) : z_rw ns (n + 1) c i = z_rw ns n (c / ns) i := by
  unfold z_rw
  rw [Nat.div_div_eq_div_mul, show n + 1 - 1 - i = (n - 1 - i) + 1 by omega, Nat.pow_succ, Nat.mul_comm]
theorem z_rw_hi (ns n c : Nat) : z_rw ns (n + 1) c n = c % ns := by
  unfold z_rw
  rw [show n + 1 - 1 - n = 0 by omega, Nat.pow_zero, Nat.div_one]
theorem z_rwH_s (W : zW) (n c : Nat) : z_rwH W (n + 1) (z_rw W.ns (n + 1) c) = (cond ((z_rwH W n (z_rw W.ns n (c / W.ns))).2 && z_may W.ns W.up W.lo W.hd (z_rwH W n (z_rw W.ns n (c / W.ns))).1.1 (c % W.ns)) (z_gd (W.up (c % W.ns)) (W.lo (c % W.ns)) (z_rwH W n (z_rw W.ns n (c / W.ns))).1) (z_rwH W n (z_rw W.ns n (c / W.ns))).1, (z_rwH W n (z_rw W.ns n (c / W.ns))).2 && z_may W.ns W.up W.lo W.hd (z_rwH W n (z_rw W.ns n (c / W.ns))).1.1 (c % W.ns)) := by
  unfold z_rwH
  rw [z_row_s, z_row_c (r := z_rw W.ns (n + 1) c) (r' := z_rw W.ns n (c / W.ns)) _ n (fun i hi => z_rw_lo hi), z_rw_hi]
theorem z_rwH_nd (W : zW) : ∀ n c, c < W.ns ^ n → (((z_rwH W n (z_rw W.ns n c)).2 = true ↔ z_nd W n c) ∧ (z_nd W n c → (z_rwH W n (z_rw W.ns n c)).1 = z_nh W n c)) := by
  intro n
  induction n with
  | zero =>
    intro c hc
    rw [Nat.pow_zero] at hc
    exact ⟨⟨fun _ => show c = 0 by omega, fun _ => rfl⟩, fun _ => rfl⟩
  | succ n ih =>
    intro c hc
    have h0 : 0 < W.ns := z_pos_of hc (Nat.succ_pos n)
    rw [Nat.pow_succ] at hc
    have hq : c / W.ns < W.ns ^ n := (Nat.div_lt_iff_lt_mul h0).mpr hc
    obtain ⟨i1, i2⟩ := ih _ hq
    have hm := Nat.mod_lt c h0
    rw [z_rwH_s]
    constructor
    · show ((z_rwH W n (z_rw W.ns n (c / W.ns))).2 && z_may W.ns W.up W.lo W.hd (z_rwH W n (z_rw W.ns n (c / W.ns))).1.1 (c % W.ns)) = true ↔ _
      rw [Bool.and_eq_true]
      constructor
      · rintro ⟨a, b⟩
        have hn := i1.mp a
        rw [i2 hn] at b
        exact ⟨h0, hn, (of_decide_eq_true b).2⟩
      · rintro ⟨-, hn, hb⟩
        refine ⟨i1.mpr hn, ?_⟩
        rw [i2 hn]
        exact decide_eq_true ⟨hm, hb⟩
    · rintro ⟨-, hn, hb⟩
      have hb2 : z_may W.ns W.up W.lo W.hd (z_rwH W n (z_rw W.ns n (c / W.ns))).1.1 (c % W.ns) = true := by
        rw [i2 hn]
        exact decide_eq_true ⟨hm, hb⟩
      rw [i1.mpr hn, hb2, i2 hn]
      rfl
theorem z_hl_nd {W : zW} {n c : Nat} (hc : c < W.ns ^ n) : z_hl W n c = true ↔ z_nd W n c := by
  unfold z_hl
  rw [(z_R_nine W n (z_rw W.ns n c)).2]
  exact (z_rwH_nd W n c hc).1
theorem z_by_nd {W : zW} {n c : Nat} (h : z_nd W n c) : z_by W n c = z_nF W n c := by
  unfold z_by
  rw [(z_R_nine W n (z_rw W.ns n c)).1, (z_rwH_nd W n c (z_nd_lt n c h)).2 h, z_fines_cts]
  rfl
/-! which is less -/
def z_le (a b : Int32 × Nat × Nat) : Prop := a.1.toInt < b.1.toInt ∨ (a.1.toInt = b.1.toInt ∧ (a.2.1 < b.2.1 ∨ (a.2.1 = b.2.1 ∧ a.2.2 ≤ b.2.2)))
theorem z_le_rf (a : Int32 × Nat × Nat) : z_le a a := Or.inr ⟨rfl, Or.inr ⟨rfl, Nat.le_refl _⟩⟩
theorem z_le_tr {a b c : Int32 × Nat × Nat} (h1 : z_le a b) (h2 : z_le b c) : z_le a c := by
  unfold z_le at *
  omega
theorem z_le_as {a b : Int32 × Nat × Nat} (h1 : z_le a b) (h2 : z_le b a) : a = b := by
  obtain ⟨a1, a2, a3⟩ := a
  obtain ⟨b1, b2, b3⟩ := b
  unfold z_le at *
  have e1 : a1.toInt = b1.toInt := by
    have q1 : (a1, a2, a3).1.toInt = a1.toInt := rfl
    have q2 : (b1, b2, b3).1.toInt = b1.toInt := rfl
    omega
  have e2 : a2 = b2 := by
    have h1' : a1.toInt < b1.toInt ∨ (a1.toInt = b1.toInt ∧ (a2 < b2 ∨ (a2 = b2 ∧ a3 ≤ b3))) := h1
    have h2' : b1.toInt < a1.toInt ∨ (b1.toInt = a1.toInt ∧ (b2 < a2 ∨ (b2 = a2 ∧ b3 ≤ a3))) := h2
    omega
  have e3 : a3 = b3 := by
    have h1' : a1.toInt < b1.toInt ∨ (a1.toInt = b1.toInt ∧ (a2 < b2 ∨ (a2 = b2 ∧ a3 ≤ b3))) := h1
    have h2' : b1.toInt < a1.toInt ∨ (b1.toInt = a1.toInt ∧ (b2 < a2 ∨ (b2 = a2 ∧ b3 ≤ a3))) := h2
    omega
  rw [Int32.toInt_inj.mp e1, e2, e3]
/-- the reference's search comes to the least -/
def z_lI (W : zW) (n m : Nat) (t : Int32 × Nat × Nat) : Prop := z_nd W t.2.1 t.2.2 ∧ (t.2.1 < n ∨ (t.2.1 = n ∧ t.2.2 < m)) ∧ t.1 = z_nF W t.2.1 t.2.2 ∧ ∀ n' c', (n' < n ∨ (n' = n ∧ c' < m)) → z_nd W n' c' → z_le t (z_nF W n' c', n', c')
theorem z_lv_I {W : zW} (hk : z_wk W) (n : Nat) (s : zL) (hs : (n = 0 ∧ s = (-1, 0, 0)) ∨ z_lI W n 0 s) : ∀ m, m ≤ W.ns ^ n → ((n = 0 ∧ m = 0 ∧ z_lv W n m s = (-1, 0, 0)) ∨ z_lI W n m (z_lv W n m s)) := by
  intro m
  induction m with
  | zero =>
    intro _
    rcases hs with ⟨h1, h2⟩ | h
    · exact Or.inl ⟨h1, rfl, h2⟩
    · exact Or.inr h
  | succ m ih =>
    intro hm
    have hm' : m < W.ns ^ n := by omega
    refine Or.inr ?_
    rw [z_lv_s]
    generalize z_lv W n m s = t at ih ⊢
    by_cases hh : z_hl W n m = true
    · have hn := (z_hl_nd hm').mp hh
      rw [z_by_nd hn]
      obtain ⟨g, hg, eg⟩ := z_nF_nn hk n m (z_nd_0 hn)
      rcases ih (by omega) with ⟨h1, h2, h3⟩ | ⟨h1, h2, h3, h4⟩
      · rw [if_pos ⟨hh, Or.inl (by rw [h3])⟩]
        refine ⟨hn, Or.inr ⟨rfl, Nat.lt_succ_self m⟩, rfl, fun n' c' q hq => ?_⟩
        have e1 : n' = n := by omega
        have e2 : c' = m := by omega
        rw [e1, e2]
        exact z_le_rf _
      · obtain ⟨f, hf, ef⟩ := z_nF_nn hk t.2.1 t.2.2 (z_nd_0 h1)
        have hne : ¬ t.1 = -1 := by rw [h3, ef]; exact z_nIm f (by omega)
        by_cases q : z_nF W n m < t.1
        · rw [if_pos ⟨hh, Or.inr q⟩]
          have q2 := Int32.lt_iff_toInt_lt.mp q
          refine ⟨hn, Or.inr ⟨rfl, Nat.lt_succ_self m⟩, rfl, fun n' c' w hw => ?_⟩
          by_cases w2 : n' = n ∧ c' = m
          · rw [w2.1, w2.2]; exact z_le_rf _
          · exact z_le_tr (Or.inl q2) (h4 n' c' (by omega) hw)
        · rw [if_neg (fun z => z.2.elim hne q)]
          refine ⟨h1, by omega, h3, fun n' c' w hw => ?_⟩
          by_cases w2 : n' = n ∧ c' = m
          · rw [w2.1, w2.2]
            have q2 : ¬ (z_nF W n m).toInt < t.1.toInt := fun z => q (Int32.lt_iff_toInt_lt.mpr z)
            show t.1.toInt < (z_nF W n m).toInt ∨ (t.1.toInt = (z_nF W n m).toInt ∧ (t.2.1 < n ∨ (t.2.1 = n ∧ t.2.2 ≤ m)))
            omega
          · exact h4 n' c' (by omega) hw
    · rw [if_neg (fun z => hh z.1)]
      rcases ih (by omega) with ⟨h1, h2, h3⟩ | ⟨h1, h2, h3, h4⟩
      · subst h1
        subst h2
        exact absurd ((z_hl_nd hm').mpr rfl) hh
      · refine ⟨h1, by omega, h3, fun n' c' w hw => ?_⟩
        by_cases w2 : n' = n ∧ c' = m
        · rw [w2.1, w2.2] at hw
          exact absurd ((z_hl_nd hm').mpr hw) hh
        · exact h4 n' c' (by omega) hw
theorem z_ls_I {W : zW} (hk : z_wk W) : ∀ N, (N = 0 ∧ z_ls W N = (-1, 0, 0)) ∨ z_lI W N 0 (z_ls W N) := by
  intro N
  induction N with
  | zero => exact Or.inl ⟨rfl, rfl⟩
  | succ N ih =>
    refine Or.inr ?_
    have h := z_lv_I hk N (z_ls W N) ih (W.ns ^ N) (Nat.le_refl _)
    show z_lI W (N + 1) 0 (z_lv W N (W.ns ^ N) (z_ls W N))
    rcases h with ⟨h1, h2, -⟩ | ⟨h1, h2, h3, h4⟩
    · rw [h1, Nat.pow_zero] at h2
      omega
    · refine ⟨h1, by omega, h3, fun n' c' w hw => h4 n' c' ?_ hw⟩
      rcases Nat.lt_or_eq_of_le (show n' ≤ N by omega) with q | q
      · exact Or.inl q
      · exact Or.inr ⟨q, by rw [← q]; exact z_nd_lt n' c' hw⟩
/-! a sweep of nothing can be left out -/
theorem z_nn_door {W : zW} (hk : z_wk W) {H : zH} (h : z_nn H 11340) {d : Nat} (hd : d < 8) (hz : ¬ nI 0 < z_Ab H d) : z_Ab H d = nI 0 ∧ z_Aw W H d = nI 0 := by
  obtain ⟨g, h1, h2⟩ := h
  have key : ∀ n, n ≤ 5 → ∃ x, (∀ k, k < n → g (5 * d + k) ≤ x) ∧ x ≤ 11340 * n ∧ z_S (fun k => H.1 (5 * d + k)) n = nI x := by
    intro n
    induction n with
    | zero => intro _; exact ⟨0, fun k hk => absurd hk (Nat.not_lt_zero k), by omega, rfl⟩
    | succ n ih =>
      intro hn
      obtain ⟨x, a, b, e⟩ := ih (by omega)
      have hg := z_sum_at g (5 * d + n) 40 (by omega)
      refine ⟨x + g (5 * d + n), fun k hk => ?_, by omega, ?_⟩
      · rcases Nat.lt_or_eq_of_le (Nat.lt_succ_iff.mp hk) with q | q
        · have := a k q; omega
        · rw [q]; omega
      · rw [z_S_s, e, h1 _ (by omega), nI_add]
  obtain ⟨x, a, b, e⟩ := key 5 (Nat.le_refl 5)
  have e2 : z_Ab H d = nI x := e
  have hx : x = 0 := by
    rw [e2] at hz
    rcases Nat.eq_zero_or_pos x with q | q
    · exact q
    · exact absurd ((nI_ltI (by omega) (by omega)).mpr q) hz
  refine ⟨by rw [e2, hx], ?_⟩
  show z_fine W.rt H.1 d = nI 0
  rw [z_fine_S, ← z_S_0 5]
  refine z_S_c 5 (fun k hk => ?_)
  have h3 := a k hk
  rw [h1 _ (by omega), show g (5 * d + k) = 0 by omega]
  exact Int32.zero_mul
theorem z_mv_0 {u l : Nat} {b : Nat → Int32} (h : b u = nI 0) : z_mv u l b = b := by
  funext d
  unfold z_mv
  rw [h]
  by_cases q : d = l
  · rw [q, z_upd_s]; exact Int32.add_zero _
  · rw [z_upd_n _ _ q]
    by_cases q2 : d = u
    · rw [q2, z_upd_s, h]; exact Int32.sub_self _
    · rw [z_upd_n _ _ q2]
theorem z_dm {c' k a : Nat} (hk : k < a) : (c' * a + k) / a = c' ∧ (c' * a + k) % a = k := by
  rw [Nat.mul_comm c' a]
  exact ⟨by rw [Nat.mul_add_div (by omega), Nat.div_eq_of_lt hk, Nat.add_zero], by rw [Nat.mul_add_mod, Nat.mod_eq_of_lt hk]⟩
theorem z_nd_cut {W : zW} (hk : z_wk W) : ∀ n c, z_nd W n c → ¬ z_ng W n c → ∃ n' c', n' < n ∧ z_nd W n' c' ∧ z_nb W n' c' = z_nb W n c ∧ z_nw W n' c' = z_nw W n c := by
  intro n
  induction n with
  | zero => intro c h1 h2; exact absurd h1 h2
  | succ n ih =>
    intro c h1 h2
    obtain ⟨h0, hp, hb⟩ := h1
    have hm := Nat.mod_lt c h0
    by_cases g : z_ng W n (c / W.ns)
    · have hmv : ¬ nI 0 < z_nb W n (c / W.ns) (W.up (c % W.ns)) := fun q => h2 ⟨h0, g, q, hb⟩
      have hu := z_us_ne hk hm
      have hz := z_nn_door hk (z_nh_nn hk n (c / W.ns) (Or.inr h0)) hu.1 hmv
      exact ⟨n, c / W.ns, by omega, hp, by rw [z_nb_s hk h0, z_mv_0 (b := z_nb W n (c / W.ns)) hz.1], by rw [z_nw_s hk h0, z_mv_0 (b := z_nw W n (c / W.ns)) hz.2]⟩
    · obtain ⟨n', c', q1, q2, q3, q4⟩ := ih _ hp g
      obtain ⟨e1, e2⟩ := z_dm (c' := c') hm
      refine ⟨n' + 1, c' * W.ns + c % W.ns, by omega, ⟨h0, ?_, ?_⟩, ?_, ?_⟩
      · rw [e1]; exact q2
      · rw [e1, e2, q3]; exact hb
      · rw [z_nb_s hk h0, z_nb_s hk h0, e1, e2, q3]
      · rw [z_nw_s hk h0, z_nw_s hk h0, e1, e2, q4]
/-! the class's search -/
def z_cmp (size : Nat) (f : Int32) (c : Nat) (best : Int32 × Nat × Nat) : Int32 × Nat × Nat := if f < best.1 ∨ (f = best.1 ∧ size < best.2.1) then (f, size, c) else best
def z_f1 (W : zW) (u l : Nat) (f x : Int32) : Int32 := f - cond (z_cb W u) (nI 0) x + cond (z_cb W l) (nI 0) x
def z_ex (W : zW) : Nat → Nat → (Nat → Int32) → (Nat → Int32) → Int32 → Nat → Int32 × Nat × Nat → Int32 × Nat × Nat
  | 0, _, _, _, _, _, best => best
  | m + 1, dep, b, w, f, c, best => pi_lp (fun k best => if nI 0 < b (W.up k) ∧ b (W.up k) + b (W.lo k) ≤ W.hd (W.lo k) then z_ex W m (dep + 1) (z_mv (W.up k) (W.lo k) b) (z_mv (W.up k) (W.lo k) w) (z_f1 W (W.up k) (W.lo k) f (w (W.up k))) (c * W.ns + k) (z_cmp (dep + 1) (z_f1 W (W.up k) (W.lo k) f (w (W.up k))) (c * W.ns + k) best) else best) W.ns best
def z_xl (W : zW) (m dep : Nat) (b w : Nat → Int32) (f : Int32) (c k : Nat) (best : Int32 × Nat × Nat) : Int32 × Nat × Nat := pi_lp (fun k best => if nI 0 < b (W.up k) ∧ b (W.up k) + b (W.lo k) ≤ W.hd (W.lo k) then z_ex W m (dep + 1) (z_mv (W.up k) (W.lo k) b) (z_mv (W.up k) (W.lo k) w) (z_f1 W (W.up k) (W.lo k) f (w (W.up k))) (c * W.ns + k) (z_cmp (dep + 1) (z_f1 W (W.up k) (W.lo k) f (w (W.up k))) (c * W.ns + k) best) else best) k best
theorem z_xl_y {W : zW} {m dep : Nat} {b w : Nat → Int32} {f : Int32} {c k : Nat} {best : Int32 × Nat × Nat} (h : nI 0 < b (W.up k) ∧ b (W.up k) + b (W.lo k) ≤ W.hd (W.lo k)) : z_xl W m dep b w f c (k + 1) best = z_ex W m (dep + 1) (z_mv (W.up k) (W.lo k) b) (z_mv (W.up k) (W.lo k) w) (z_f1 W (W.up k) (W.lo k) f (w (W.up k))) (c * W.ns + k) (z_cmp (dep + 1) (z_f1 W (W.up k) (W.lo k) f (w (W.up k))) (c * W.ns + k) (z_xl W m dep b w f c k best)) := if_pos h
theorem z_xl_n {W : zW} {m dep : Nat} {b w : Nat → Int32} {f : Int32} {c k : Nat} {best : Int32 × Nat × Nat} (h : ¬ (nI 0 < b (W.up k) ∧ b (W.up k) + b (W.lo k) ≤ W.hd (W.lo k))) : z_xl W m dep b w f c (k + 1) best = z_xl W m dep b w f c k best := if_neg h
theorem z_ng_anc {W : zW} : ∀ j n x, z_ng W (n + j) x → z_ng W n (x / W.ns ^ j) := by
  intro j
  induction j with
  | zero => intro n x h; rw [Nat.pow_zero, Nat.div_one]; exact h
  | succ j ih =>
    intro n x h
    have h2 : z_ng W (n + j) (x / W.ns) := h.2.1
    have := ih n _ h2
    rwa [Nat.div_div_eq_div_mul, Nat.mul_comm, ← Nat.pow_succ] at this
def z_xI (W : zW) (m dep c N : Nat) (best r : Int32 × Nat × Nat) : Prop := (r = best ∨ ∃ j, j ≤ m ∧ r.2.1 = dep + 1 + j ∧ z_ng W (dep + 1 + j) r.2.2 ∧ r.2.2 / W.ns ^ j < N ∧ r.2.2 / W.ns ^ (j + 1) = c ∧ r.1 = z_nF W (dep + 1 + j) r.2.2) ∧ z_le r best ∧ ∀ j x, j ≤ m → z_ng W (dep + 1 + j) x → x / W.ns ^ (j + 1) = c → x / W.ns ^ j < N → z_le r (z_nF W (dep + 1 + j) x, dep + 1 + j, x)
theorem z_dp (x a j : Nat) : x / a ^ j / a = x / a ^ (j + 1) := by rw [Nat.div_div_eq_div_mul, ← Nat.pow_succ]
theorem z_ex_ok {W : zW} (hk : z_wk W) (h0 : 0 < W.ns) : ∀ m dep c (best : Int32 × Nat × Nat), z_ng W dep c → (∀ j x, j < m → z_ng W (dep + 1 + j) x → x / W.ns ^ (j + 1) = c → best.2.1 = dep + 1 + j → best.2.2 < x) →
    ((z_ex W m dep (z_nb W dep c) (z_nw W dep c) (z_nF W dep c) c best = best ∨ ∃ j, j < m ∧ (z_ex W m dep (z_nb W dep c) (z_nw W dep c) (z_nF W dep c) c best).2.1 = dep + 1 + j ∧ z_ng W (dep + 1 + j) (z_ex W m dep (z_nb W dep c) (z_nw W dep c) (z_nF W dep c) c best).2.2 ∧ (z_ex W m dep (z_nb W dep c) (z_nw W dep c) (z_nF W dep c) c best).2.2 / W.ns ^ (j + 1) = c ∧ (z_ex W m dep (z_nb W dep c) (z_nw W dep c) (z_nF W dep c) c best).1 = z_nF W (dep + 1 + j) (z_ex W m dep (z_nb W dep c) (z_nw W dep c) (z_nF W dep c) c best).2.2) ∧
      z_le (z_ex W m dep (z_nb W dep c) (z_nw W dep c) (z_nF W dep c) c best) best ∧ ∀ j x, j < m → z_ng W (dep + 1 + j) x → x / W.ns ^ (j + 1) = c → z_le (z_ex W m dep (z_nb W dep c) (z_nw W dep c) (z_nF W dep c) c best) (z_nF W (dep + 1 + j) x, dep + 1 + j, x)) := by
  intro m
  induction m with
  | zero => intro dep c best _ _; exact ⟨Or.inl rfl, z_le_rf _, fun j x hj => absurd hj (Nat.not_lt_zero j)⟩
  | succ m ih =>
    intro dep c best hG Hb
    have key : ∀ k, k ≤ W.ns → z_xI W m dep c (c * W.ns + k) best (z_xl W m dep (z_nb W dep c) (z_nw W dep c) (z_nF W dep c) c k best) := by
      intro k
      induction k with
      | zero =>
        intro _
        refine ⟨Or.inl rfl, z_le_rf _, fun j x _ _ h1 h2 => ?_⟩
        rw [← z_dp] at h1
        have := (Nat.div_lt_iff_lt_mul h0).mpr h2
        omega
      | succ k ihk =>
        intro hkn
        obtain ⟨i1, i2, i3⟩ := ihk (by omega)
        have hkl : k < W.ns := by omega
        obtain ⟨e1, e2⟩ := z_dm (c' := c) hkl
        by_cases ok : nI 0 < z_nb W dep c (W.up k) ∧ z_nb W dep c (W.up k) + z_nb W dep c (W.lo k) ≤ W.hd (W.lo k)
        · rw [z_xl_y ok]
          generalize z_xl W m dep (z_nb W dep c) (z_nw W dep c) (z_nF W dep c) c k best = r at i1 i2 i3 ⊢
          have hch : z_ng W (dep + 1) (c * W.ns + k) := ⟨h0, by rw [e1]; exact hG, by rw [e1, e2]; exact ok.1, by rw [e1, e2]; exact ok.2⟩
          have hnb : z_mv (W.up k) (W.lo k) (z_nb W dep c) = z_nb W (dep + 1) (c * W.ns + k) := by rw [z_nb_s hk h0, e1, e2]
          have hnw : z_mv (W.up k) (W.lo k) (z_nw W dep c) = z_nw W (dep + 1) (c * W.ns + k) := by rw [z_nw_s hk h0, e1, e2]
          have hnF : z_f1 W (W.up k) (W.lo k) (z_nF W dep c) (z_nw W dep c (W.up k)) = z_nF W (dep + 1) (c * W.ns + k) := by rw [z_nF_s hk h0, e1, e2]; rfl
          rw [hnb, hnw, hnF]
          -- the best so far against this one
          have hA : z_cmp (dep + 1) (z_nF W (dep + 1) (c * W.ns + k)) (c * W.ns + k) r = r ∨ z_cmp (dep + 1) (z_nF W (dep + 1) (c * W.ns + k)) (c * W.ns + k) r = (z_nF W (dep + 1) (c * W.ns + k), dep + 1, c * W.ns + k) := by
            unfold z_cmp
            split
            · exact Or.inr rfl
            · exact Or.inl rfl
          have hB : z_le (z_cmp (dep + 1) (z_nF W (dep + 1) (c * W.ns + k)) (c * W.ns + k) r) r := by
            unfold z_cmp
            split
            · rename_i q
              rcases q with q | ⟨q, q2⟩
              · exact Or.inl (Int32.lt_iff_toInt_lt.mp q)
              · exact Or.inr ⟨congrArg Int32.toInt q, Or.inl q2⟩
            · exact z_le_rf _
          have hC : z_le (z_cmp (dep + 1) (z_nF W (dep + 1) (c * W.ns + k)) (c * W.ns + k) r) (z_nF W (dep + 1) (c * W.ns + k), dep + 1, c * W.ns + k) := by
            unfold z_cmp
            split
            · exact z_le_rf _
            · rename_i q
              have q1 : ¬ (z_nF W (dep + 1) (c * W.ns + k)).toInt < r.1.toInt := fun z => q (Or.inl (Int32.lt_iff_toInt_lt.mpr z))
              have q2 : (z_nF W (dep + 1) (c * W.ns + k)).toInt = r.1.toInt → ¬ dep + 1 < r.2.1 := fun z w => q (Or.inr ⟨Int32.toInt_inj.mp z, w⟩)
              have q3 : r.2.1 = dep + 1 → r.2.2 < c * W.ns + k := by
                intro z
                rcases i1 with rfl | ⟨j, hj, a1, a2, a3, a4, a5⟩
                · exact Hb 0 _ (by omega) hch (by rw [Nat.pow_one]; exact e1) (by omega)
                · have : j = 0 := by omega
                  subst this
                  rwa [Nat.pow_zero, Nat.div_one] at a3
              show r.1.toInt < (z_nF W (dep + 1) (c * W.ns + k)).toInt ∨ (r.1.toInt = (z_nF W (dep + 1) (c * W.ns + k)).toInt ∧ (r.2.1 < dep + 1 ∨ (r.2.1 = dep + 1 ∧ r.2.2 ≤ c * W.ns + k)))
              omega
          generalize z_cmp (dep + 1) (z_nF W (dep + 1) (c * W.ns + k)) (c * W.ns + k) r = b1 at hA hB hC ⊢
          have hI := ih (dep + 1) (c * W.ns + k) b1 hch (by
            intro j x hj hx hd hn
            rcases hA with rfl | rfl
            · rcases i1 with rfl | ⟨j', hj', a1, a2, a3, a4, a5⟩
              · refine Hb (j + 1) x (by omega) (by rw [show dep + 1 + (j + 1) = dep + 1 + 1 + j by omega]; exact hx) ?_ (by omega)
                rw [← z_dp, hd, e1]
              · have : j' = j + 1 := by omega
                subst this
                rcases Nat.lt_or_ge b1.2.2 x with q | q
                · exact q
                · have := Nat.div_le_div_right (c := W.ns ^ (j + 1)) q
                  omega
            · have hn2 : dep + 1 = dep + 1 + 1 + j := hn
              omega)
          generalize z_ex W m (dep + 1) (z_nb W (dep + 1) (c * W.ns + k)) (z_nw W (dep + 1) (c * W.ns + k)) (z_nF W (dep + 1) (c * W.ns + k)) (c * W.ns + k) b1 = r' at hI ⊢
          obtain ⟨g1, g2, g3⟩ := hI
          refine ⟨?_, z_le_tr g2 (z_le_tr hB i2), fun j x hj hx h1 h2 => ?_⟩
          · rcases g1 with rfl | ⟨j, hj, a1, a2, a3, a4⟩
            · rcases hA with rfl | rfl
              · rcases i1 with rfl | ⟨j', hj', a1, a2, a3, a4, a5⟩
                · exact Or.inl rfl
                · exact Or.inr ⟨j', hj', a1, a2, by omega, a4, a5⟩
              · exact Or.inr ⟨0, by omega, rfl, hch, by show (c * W.ns + k) / W.ns ^ 0 < _; rw [Nat.pow_zero, Nat.div_one]; omega, by show (c * W.ns + k) / W.ns ^ (0 + 1) = c; rw [Nat.pow_one]; exact e1, rfl⟩
            · refine Or.inr ⟨j + 1, by omega, by omega, by rw [show dep + 1 + (j + 1) = dep + 1 + 1 + j by omega]; exact a2, by omega, by rw [← z_dp, a3, e1], by rw [show dep + 1 + (j + 1) = dep + 1 + 1 + j by omega]; exact a4⟩
          · by_cases q : x / W.ns ^ j < c * W.ns + k
            · exact z_le_tr g2 (z_le_tr hB (i3 j x hj hx h1 q))
            · have q2 : x / W.ns ^ j = c * W.ns + k := by omega
              cases j with
              | zero =>
                rw [Nat.pow_zero, Nat.div_one] at q2
                rw [q2]
                exact z_le_tr g2 hC
              | succ j =>
                have := g3 j x (by omega) (by rw [show dep + 1 + 1 + j = dep + 1 + (j + 1) by omega]; exact hx) q2
                rwa [show dep + 1 + 1 + j = dep + 1 + (j + 1) by omega] at this
        · rw [z_xl_n ok]
          refine ⟨?_, i2, fun j x hj hx h1 h2 => ?_⟩
          · rcases i1 with q | ⟨j', hj', a1, a2, a3, a4, a5⟩
            · exact Or.inl q
            · exact Or.inr ⟨j', hj', a1, a2, by omega, a4, a5⟩
          · by_cases q : x / W.ns ^ j < c * W.ns + k
            · exact i3 j x hj hx h1 q
            · have q2 : x / W.ns ^ j = c * W.ns + k := by omega
              have ha := z_ng_anc j (dep + 1) x hx
              rw [q2] at ha
              have h3 := ha.2.2
              rw [e1, e2] at h3
              exact absurd h3 ok
    obtain ⟨k1, k2, k3⟩ := key W.ns (Nat.le_refl _)
    have hx : z_ex W (m + 1) dep (z_nb W dep c) (z_nw W dep c) (z_nF W dep c) c best = z_xl W m dep (z_nb W dep c) (z_nw W dep c) (z_nF W dep c) c W.ns best := rfl
    rw [hx]
    refine ⟨?_, k2, fun j x hj hg h1 => k3 j x (by omega) hg h1 ?_⟩
    · rcases k1 with q | ⟨j, hj, a1, a2, a3, a4, a5⟩
      · exact Or.inl q
      · exact Or.inr ⟨j, by omega, a1, a2, a4, a5⟩
    · have : x / W.ns ^ j < (c + 1) * W.ns := by
        rw [← Nat.div_lt_iff_lt_mul h0, z_dp, h1]
        exact Nat.lt_succ_self c
      rw [Nat.add_mul, Nat.one_mul] at this
      exact this
/-- both searches come to the same -/
def z_xr (W : zW) (K : Nat) : Int32 × Nat × Nat := z_ex W K 0 (z_nb W 0 0) (z_nw W 0 0) (z_nF W 0 0) 0 (z_nF W 0 0, 0, 0)
theorem z_ex_ns0 {W : zW} (h : W.ns = 0) : ∀ m dep b w f c best, z_ex W m dep b w f c best = best := by
  intro m
  cases m with
  | zero => intro _ _ _ _ _ _; rfl
  | succ m =>
    intro dep b w f c best
    show pi_lp _ W.ns best = best
    rw [h]
    rfl
theorem z_xr_ls {W : zW} (hk : z_wk W) (K : Nat) : z_xr W K = z_ls W (K + 1) := by
  rcases z_ls_I hk (K + 1) with ⟨q, -⟩ | ⟨t1, t2, t3, t4⟩
  · omega
  generalize z_ls W (K + 1) = t at t1 t2 t3 t4 ⊢
  obtain ⟨tf, tn, tc⟩ := t
  have t1' : z_nd W tn tc := t1
  have t2' : tn < K + 1 := by
    have : tn < K + 1 ∨ (tn = K + 1 ∧ tc < 0) := t2
    omega
  have t3' : tf = z_nF W tn tc := t3
  -- the reference's row moves something with each sweep
  have hg : z_ng W tn tc := by
    refine Classical.byContradiction fun q => ?_
    obtain ⟨n', c', q1, q2, q3, q4⟩ := z_nd_cut hk tn tc t1' q
    have h := t4 n' c' (Or.inl (by omega)) q2
    have e : z_nF W n' c' = z_nF W tn tc := by unfold z_nF; rw [q4]
    rw [e, ← t3'] at h
    have h' : tf.toInt < tf.toInt ∨ (tf.toInt = tf.toInt ∧ (tn < n' ∨ (tn = n' ∧ tc ≤ c'))) := h
    omega
  rcases Nat.eq_zero_or_pos W.ns with h0 | h0
  · have htn : tn = 0 := by
      rcases z_nd_0 t1' with q | q
      · exact q
      · omega
    subst htn
    have htc : tc = 0 := t1'
    subst htc
    unfold z_xr
    rw [z_ex_ns0 h0, t3']
  · have hx := z_ex_ok hk h0 K 0 0 (z_nF W 0 0, 0, 0) rfl (by
      intro j x _ _ _ h
      have h2 : 0 = 0 + 1 + j := h
      omega)
    change (z_xr W K = _ ∨ ∃ j, j < K ∧ (z_xr W K).2.1 = 0 + 1 + j ∧ z_ng W (0 + 1 + j) (z_xr W K).2.2 ∧ (z_xr W K).2.2 / W.ns ^ (j + 1) = 0 ∧ (z_xr W K).1 = z_nF W (0 + 1 + j) (z_xr W K).2.2) ∧ z_le (z_xr W K) _ ∧ (∀ j x, j < K → z_ng W (0 + 1 + j) x → x / W.ns ^ (j + 1) = 0 → z_le (z_xr W K) (z_nF W (0 + 1 + j) x, 0 + 1 + j, x)) at hx
    generalize z_xr W K = u at hx ⊢
    obtain ⟨x1, x2, x3⟩ := hx
    refine z_le_as ?_ ?_
    · rw [t3']
      cases tn with
      | zero =>
        have : tc = 0 := t1'
        rw [this]
        exact x2
      | succ n =>
        have hd := z_nd_lt _ _ t1'
        have := x3 n tc (by omega) (by rw [show 0 + 1 + n = n + 1 by omega]; exact hg) (Nat.div_eq_of_lt hd)
        rwa [show 0 + 1 + n = n + 1 by omega] at this
    · rcases x1 with rfl | ⟨j, hj, a1, a2, a3, a4⟩
      · exact t4 0 0 (Or.inl (by omega)) rfl
      · have := t4 (0 + 1 + j) u.2.2 (Or.inl (by omega)) (z_ng_nd _ _ a2)
        rw [← a4, ← a1] at this
        exact this
