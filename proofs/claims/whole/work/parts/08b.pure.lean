/-! the pure side: dirt by doors and kinds (barrows, yards) -/
abbrev zH : Type := (Nat → Int32) × (Nat → Int32)
def z_g1 (u l k : Nat) (s : zH) : zH := (upd (upd s.1 (5 * l + k) (s.1 (5 * l + k) + s.1 (5 * u + k))) (5 * u + k) (nI 0), upd (upd s.2 (5 * l + k) (s.2 (5 * l + k) ||| s.2 (5 * u + k))) (5 * u + k) (nI 0))
def z_gd (u l : Nat) (s : zH) : zH := pi_lp (z_g1 u l) 5 s
def z_all (f : Nat → Int32) (dr : Nat) : Int32 := pi_lp (fun k a => a + f (5 * dr + k)) 5 (nI 0)
def z_tk1 (dr k : Nat) (s : zH) : zH := (upd s.1 (5 * dr + k) (nI 0), upd s.2 (5 * dr + k) (nI 0))
def z_tk (dr : Nat) (s : zH) : zH := pi_lp (z_tk1 dr) 5 s
def z_fine (rt f : Nat → Int32) (dr : Nat) : Int32 := pi_lp (fun k a => a + f (5 * dr + k) * rt k) 5 (nI 0)
def z_fines (rt f : Nat → Int32) (nd : Nat) : Int32 := pi_lp (fun d a => a + z_fine rt f d) nd (nI 0)
/-- doors and streets as they stand -/
def z_tw (s : pi_S) (nd ns : Nat) (up lo : Nat → Nat) : Prop := s 56 2 = nI nd ∧ s 56 4 = nI ns ∧ nd ≤ 8 ∧ ns ≤ 12 ∧ ∀ k, k < ns → s 60 k = nI (up k) ∧ s 61 k = nI (lo k) ∧ up k < nd ∧ lo k < nd
theorem z_tw.of {s σ : pi_S} {nd ns : Nat} {up lo : Nat → Nat} (h : z_tw σ nd ns up lo) (h1 : s 56 2 = σ 56 2) (h2 : s 56 4 = σ 56 4) (h3 : s 60 = σ 60) (h4 : s 61 = σ 61) : z_tw s nd ns up lo := by
  obtain ⟨a, b, c, d, e⟩ := h
  exact ⟨h1.trans a, h2.trans b, c, d, by rw [h3, h4]; exact e⟩
def z_may (ns : Nat) (up lo : Nat → Nat) (hold f : Nat → Int32) (st : Nat) : Prop := st < ns ∧ z_all f (up st) + z_all f (lo st) ≤ hold (lo st)
theorem z_dn {N i : Nat} (h : i < N) : nI (N - i) + Int32.ofInt (-1) = nI (N - (i + 1)) := by
  obtain ⟨m, hm⟩ : ∃ m, N - i = m + 1 := ⟨N - i - 1, by omega⟩
  rw [hm, show N - (i + 1) = m by omega]
  exact pk_m1 m
theorem z_dn0 (n : Nat) : nI n - nI 1 = nI (n - 0) + Int32.ofInt (-1) := by
  rw [Nat.sub_zero, Int32.sub_eq_add_neg]; rfl
theorem z_pred {a b : Nat} (ha : a < 2 ^ 30) (hb : b < 2 ^ 30) : (nI 0 ≤ nI a ∧ nI a ≤ nI b - nI 1) ↔ a < b := by
  rw [Int32.le_iff_toInt_le, Int32.le_iff_toInt_le, pk_sub_toInt hb (by omega), nI_toInt (by omega), nI_toInt (by omega)]
  omega
/-- the last street but i that leads down from a door, seen from behind; n: there is none -/
def z_fi (up : Nat → Nat) (d n : Nat) (i : Nat) : Nat := pi_lp (fun i a => if up (n - (i + 1)) = d then n - (i + 1) else a) i n
def z_nv (n a : Nat) : Int32 := if a = n then -1 else nI a
def z_r1 (h : Nat → Int32) (ns : Nat) (up lo : Nat → Nat) (hi d : Nat) (s : zH) : zH := if h d = nI hi ∧ z_fi up d ns ns ≠ ns then z_gd (up (z_fi up d ns ns)) (lo (z_fi up d ns ns)) s else s
def z_rain (h : Nat → Int32) (nd ns : Nat) (up lo : Nat → Nat) (s : zH) : zH := pi_lp (fun i s => pi_lp (fun d s => z_r1 h ns up lo (10 - (i + 1)) d s) nd s) 10 s
