/-! the pure side: dirt by doors and kinds (barrows, yards) -/
abbrev zH : Type := (Nat → Int32) × (Nat → Int32)
def z_g1 (u l k : Nat) (s : zH) : zH := (upd (upd s.1 (5 * l + k) (s.1 (5 * l + k) + s.1 (5 * u + k))) (5 * u + k) (nI 0), upd (upd s.2 (5 * l + k) (s.2 (5 * l + k) ||| s.2 (5 * u + k))) (5 * u + k) (nI 0))
def z_gd (u l : Nat) (s : zH) : zH := pi_lp (z_g1 u l) 5 s
def z_all (f : Nat → Int32) (dr : Nat) : Int32 := pi_lp (fun k a => a + f (5 * dr + k)) 5 (nI 0)
def z_tk1 (dr k : Nat) (s : zH) : zH := (upd s.1 (5 * dr + k) (nI 0), upd s.2 (5 * dr + k) (nI 0))
def z_tk (dr : Nat) (s : zH) : zH := pi_lp (z_tk1 dr) 5 s
def z_fine (rt f : Nat → Int32) (dr : Nat) : Int32 := pi_lp (fun k a => a + f (5 * dr + k) * rt k) 5 (nI 0)
def z_fines (rt f : Nat → Int32) (nd : Nat) : Int32 := pi_lp (fun d a => a + z_fine rt f d) nd (nI 0)
/-- doors and streets as they stand -/
def z_tw (s : pi_S) (nd ns : Nat) (up lo : Nat → Nat) : Prop := s 56 2 = nI nd ∧ s 56 4 = nI ns ∧ nd ≤ 8 ∧ ns ≤ 12 ∧ ∀ k, k < ns → s 60 k = nI (up k) ∧ s 61 k = nI (lo k) ∧ up k < nd ∧ lo k < nd
theorem z_tw.of {s σ : pi_S} {nd ns : Nat} {up lo : Nat → Nat} (h : z_tw σ nd ns up lo) (h1 : s 56 2 = σ 56 2) (h2 : s 56 4 = σ 56 4) (h3 : s 60 = σ 60) (h4 : s 61 = σ 61) : z_tw s nd ns up lo := by
  obtain ⟨a, b, c, d, e⟩ := h
  exact ⟨h1.trans a, h2.trans b, c, d, by rw [h3, h4]; exact e⟩
def z_may (ns : Nat) (up lo : Nat → Nat) (hold f : Nat → Int32) (st : Nat) : Bool := decide (st < ns ∧ z_all f (up st) + z_all f (lo st) ≤ hold (lo st))
theorem z_dn {N i : Nat} (h : i < N) : nI (N - i) - nI 1 = nI (N - (i + 1)) := by
  obtain ⟨m, hm⟩ : ∃ m, N - i = m + 1 := ⟨N - i - 1, by omega⟩
  rw [hm, show N - (i + 1) = m by omega]
  exact nI_pred m
theorem z_dnN (n : Nat) : nI (n - n) - nI 1 < 0 := by
  rw [Nat.sub_self]
  exact of_decide_eq_true (by decide +kernel)
theorem z_pred {a b : Nat} (ha : a < 2 ^ 30) (hb : b < 2 ^ 30) : (nI 0 ≤ nI a ∧ nI a ≤ nI b - nI 1) ↔ a < b := by
  rw [Int32.le_iff_toInt_le, Int32.le_iff_toInt_le, pk_sub_toInt hb (by omega), nI_toInt (by omega), nI_toInt (by omega)]
  omega
/-- the least street that leads down from a door, looked at from behind; n: there is none -/
def z_fi (up : Nat → Nat) (d n : Nat) (i : Nat) : Nat := pi_lp (fun i a => if up (n - (i + 1)) = d then n - (i + 1) else a) i n
theorem z_fi_s (up : Nat → Nat) (d n i : Nat) : z_fi up d n (i + 1) = if up (n - (i + 1)) = d then n - (i + 1) else z_fi up d n i := rfl
def z_nv (n a : Nat) : Int32 := if a = n then -1 else nI a
theorem z_nv_t {up : Nat → Nat} {d n i : Nat} (h : up (n - (i + 1)) = d) (hi : i < n) : nI (n - (i + 1)) = z_nv n (z_fi up d n (i + 1)) := by
  rw [z_fi_s, if_pos h, z_nv, if_neg (by omega)]
theorem z_nv_f {up : Nat → Nat} {d n i : Nat} (h : ¬ up (n - (i + 1)) = d) : z_nv n (z_fi up d n i) = z_nv n (z_fi up d n (i + 1)) := by
  rw [z_fi_s, if_neg h]
theorem z_fi_le (up : Nat → Nat) (d n : Nat) : ∀ i, z_fi up d n i ≤ n := by
  intro i
  induction i with
  | zero => exact Nat.le_refl n
  | succ i ih =>
    rw [z_fi_s]
    split <;> omega
def z_r1 (h : Nat → Int32) (ns : Nat) (up lo : Nat → Nat) (hi d : Nat) (s : zH) : zH := if h d = nI hi then (if z_fi up d ns ns = ns then s else z_gd (up (z_fi up d ns ns)) (lo (z_fi up d ns ns)) s) else s
def z_r2 (h : Nat → Int32) (ns : Nat) (up lo : Nat → Nat) (hi : Nat) (d : Nat) (s : zH) : zH := pi_lp (z_r1 h ns up lo hi) d s
theorem z_r2_s (h : Nat → Int32) (ns : Nat) (up lo : Nat → Nat) (hi : Nat) (d : Nat) (s : zH) : z_r2 h ns up lo hi (d + 1) s = z_r1 h ns up lo hi d (z_r2 h ns up lo hi d s) := rfl
def z_rain (h : Nat → Int32) (nd ns : Nat) (up lo : Nat → Nat) (i : Nat) (s : zH) : zH := pi_lp (fun i s => z_r2 h ns up lo (10 - (i + 1)) nd s) i s
/-- what comes in a minute -/
def z_fl (j d : Nat) (n : Int32) (s : zH) : zH := (upd s.1 j (s.1 j + n), upd s.2 j (s.2 j ||| (nI 1 <<< (nI d &&& 31))))
def z_falls (m : Int32) (nd : Nat) (fm : Nat → Int32) (fd fk : Nat → Nat) (fn : Nat → Int32) (n : Nat) (s : zH) : zH := pi_lp (fun i s => if fm i = m then (if fd i < nd then z_fl (5 * fd i + fk i) (fd i) (fn i) s else s) else s) n s
theorem z_falls_s (m : Int32) (nd : Nat) (fm : Nat → Int32) (fd fk : Nat → Nat) (fn : Nat → Int32) (n : Nat) (s : zH) : z_falls m nd fm fd fk fn (n + 1) s = if fm n = m then (if fd n < nd then z_fl (5 * fd n + fk n) (fd n) (fn n) (z_falls m nd fm fd fk fn n s) else z_falls m nd fm fd fk fn n s) else z_falls m nd fm fd fk fn n s := rfl
def z_sws (m but : Int32) (sm : Nat → Int32) (ws : Nat → Nat) (ns : Nat) (up lo : Nat → Nat) (hold : Nat → Int32) (n : Nat) (s : zH × Int32) : zH × Int32 := pi_lp (fun i s => if sm i = m then (if nI i = but then s else cond (z_may ns up lo hold s.1.1 (ws i)) (z_gd (up (ws i)) (lo (ws i)) s.1, s.2) (s.1, if s.2 = -1 then nI i else s.2)) else s) n s
def z_row (rw_ : Nat → Nat) (ns : Nat) (up lo : Nat → Nat) (hold : Nat → Int32) (n : Nat) (s : zH × Bool) : zH × Bool := pi_lp (fun i s => (cond (s.2 && z_may ns up lo hold s.1.1 (rw_ i)) (z_gd (up (rw_ i)) (lo (rw_ i)) s.1) s.1, s.2 && z_may ns up lo hold s.1.1 (rw_ i))) n s
def z_cts (m : Int32) (nd : Nat) (cm : Nat → Int32) (cd : Nat → Nat) (n : Nat) (s : zH) : zH := pi_lp (fun i s => if cm i = m then (if cd i < nd then z_tk (cd i) s else s) else s) n s
def z_bI (b : Bool) : Int32 := cond b (nI 1) (nI 0)
