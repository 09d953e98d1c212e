def z_rw (ns n c j : Nat) : Nat := c / ns ^ (n - 1 - j) % ns
abbrev zL : Type := Int32 × Nat × Nat
def z_by (W : zW) (n c : Nat) : Int32 := z_fines W.rt (z_R W (-1) (-1) n (z_rw W.ns n c) (W.nine + 1)).1.1.1 W.nd
def z_hl (W : zW) (n c : Nat) : Bool := (z_R W (-1) (-1) n (z_rw W.ns n c) (W.nine + 1)).2
def z_l1 (W : zW) (n c : Nat) (s : zL) : zL := if z_hl W n c = true ∧ (s.1 = -1 ∨ z_by W n c < s.1) then (z_by W n c, n, c) else s
def z_lv (W : zW) (n c : Nat) (s : zL) : zL := pi_lp (z_l1 W n) c s
theorem z_lv_s (W : zW) (n c : Nat) (s : zL) : z_lv W n (c + 1) s = if z_hl W n c = true ∧ ((z_lv W n c s).1 = -1 ∨ z_by W n c < (z_lv W n c s).1) then (z_by W n c, n, c) else z_lv W n c s := rfl
def z_ls (W : zW) (n : Nat) : zL := pi_lp (fun n s => z_lv W n (W.ns ^ n) s) n (-1, 0, 0)
theorem z_ls_ok (W : zW) (n : Nat) : (z_ls W (n + 1)).2.1 ≤ n ∧ (z_ls W (n + 1)).2.2 < W.ns ^ (z_ls W (n + 1)).2.1 := by
  refine pi_lp_ind (P := fun (s : zL) => s.2.1 ≤ n ∧ s.2.2 < W.ns ^ s.2.1) (n + 1) (fun m hm s hs => ?_) (-1, 0, 0) ⟨Nat.zero_le n, Nat.one_pos⟩
  refine pi_lp_ind (P := fun (s : zL) => s.2.1 ≤ n ∧ s.2.2 < W.ns ^ s.2.1) (W.ns ^ m) (fun c hc s hs => ?_) s hs
  unfold z_l1
  split
  · exact ⟨by show m ≤ n; omega, hc⟩
  · exact hs
theorem z_bI_t {b : Bool} (h : ¬ z_bI b = 0) : b = true := by
  cases b with
  | true => rfl
  | false => exact absurd rfl h
theorem z_bI_f {b : Bool} (h : z_bI b = 0) : ¬ b = true := by
  intro q
  rw [q] at h
  exact absurd h (by decide)
theorem z_pw12 {a n : Nat} (h : a ≤ 12) (hn : n ≤ 4) : a ^ n ≤ 20736 := Nat.le_trans (Nat.pow_le_pow_left h n) (Nat.le_trans (Nat.pow_le_pow_right (by decide) hn) (by decide))
theorem z_pos_of {a n t c : Nat} (h : c < a ^ n) (ht : t < n) : 0 < a := by
  rcases Nat.eq_zero_or_pos a with q | q
  · subst q
    rw [Nat.zero_pow (by omega)] at h
    omega
  · exact q
def z_dv (c a : Nat) : Nat → Nat
  | 0 => c
  | t + 1 => z_dv c a t / a
theorem z_dv_eq (c a t : Nat) : z_dv c a t = c / a ^ t := by
  induction t with
  | zero => exact (Nat.div_one c).symm
  | succ t ih => rw [z_dv, ih, Nat.div_div_eq_div_mul, Nat.pow_succ]
theorem z_dv_le (c a t : Nat) : z_dv c a t ≤ c := by
  rw [z_dv_eq]
  exact Nat.div_le_self _ _
theorem z_rw_at {ns n c t : Nat} (ht : t < n) : z_dv c ns t % ns = z_rw ns n c (n - (t + 1)) := by
  rw [z_dv_eq]
  unfold z_rw
  rw [show n - 1 - (n - (t + 1)) = t by omega]
/-- the street of a place of the best row -/
def z_dg (ns m c i t : Nat) : Int32 := if m - t ≤ i ∧ i < m then nI (c / ns ^ (m - 1 - i) % ns) else -1
theorem z_dg_0 (ns m c i : Nat) : z_dg ns m c i 0 = -1 := if_neg (by omega)
theorem z_dg_t {ns m c i t : Nat} (ht : t < m) (h : m - (t + 1) = i) : nI (z_dv c ns t % ns) = z_dg ns m c i (t + 1) := by
  rw [z_dv_eq, z_dg, if_pos (by omega), show m - 1 - i = t by omega]
theorem z_dg_f {ns m c i t : Nat} (ht : t < m) (h : ¬ m - (t + 1) = i) : z_dg ns m c i t = z_dg ns m c i (t + 1) := by
  unfold z_dg
  by_cases q : m - t ≤ i ∧ i < m
  · rw [if_pos q, if_pos (by omega)]
  · rw [if_neg q, if_neg (by omega)]
def z_lB (W : zW) (k : Nat) : Int32 := (z_ls W (k + 1)).1
def z_lS (W : zW) (k i : Nat) : Int32 := z_dg W.ns (z_ls W (k + 1)).2.1 (z_ls W (k + 1)).2.2 i (z_ls W (k + 1)).2.1
