/-! the rain in the order of the class -/
theorem z_hh_fig {W : zW} (hk : z_wk W) {i : Nat} (hi : i < W.nd) : ∃ a, a < 10 ∧ W.hh i = nI a := by
  have hd := hk.wd.dr
  rcases hd with ⟨k, -, -, -, -, e⟩ | ⟨h, -, e⟩
  · omega
  · rcases z_fg_cases W.n0 (fun k => W.tx (0 + k)) i with q | ⟨a, ha, q⟩
    · exact absurd q (h i (by omega))
    · exact ⟨a, ha, (hk.wd.hh i).trans q⟩
/-- how many of the first n numbers are so -/
def z_cn (p : Nat → Bool) (n : Nat) : Nat := pi_lp (fun i a => cond (p i) (a + 1) a) n 0
theorem z_cn_s (p : Nat → Bool) (n : Nat) : z_cn p (n + 1) = cond (p n) (z_cn p n + 1) (z_cn p n) := rfl
theorem z_cn_le (p : Nat → Bool) : ∀ n, z_cn p n ≤ n := by
  intro n
  induction n with
  | zero => exact Nat.le_refl 0
  | succ n ih =>
    rw [z_cn_s]
    cases p n
    · show z_cn p n ≤ n + 1; omega
    · show z_cn p n + 1 ≤ n + 1; omega
theorem z_cn_all {p : Nat → Bool} : ∀ n, (∀ i, i < n → p i = true) → z_cn p n = n := by
  intro n
  induction n with
  | zero => intro _; rfl
  | succ n ih =>
    intro h
    rw [z_cn_s, h n (by omega), ih (fun i hi => h i (by omega))]
    rfl
theorem z_cn_add {p q r : Nat → Bool} (h : ∀ i, r i = (p i || q i)) (h2 : ∀ i, ¬ (p i = true ∧ q i = true)) : ∀ n, z_cn p n + z_cn q n = z_cn r n := by
  intro n
  induction n with
  | zero => rfl
  | succ n ih =>
    rw [z_cn_s, z_cn_s, z_cn_s, h n]
    have := h2 n
    cases hp : p n <;> cases hq : q n
    · exact ih
    · show z_cn p n + (z_cn q n + 1) = z_cn r n + 1; omega
    · show z_cn p n + 1 + z_cn q n = z_cn r n + 1; omega
    · exact absurd ⟨hp, hq⟩ this
theorem z_od_cnt (h : Nat → Int32) (v : Nat) : ∀ n (t : (Nat → Nat) × Nat), (pi_lp (z_od1 h v) n t).2 = t.2 + z_cn (fun k => decide (h k = nI v)) n := by
  intro n
  induction n with
  | zero => intro t; rfl
  | succ n ih =>
    intro t
    show (z_od1 h v n (pi_lp (z_od1 h v) n t)).2 = _
    rw [z_cn_s]
    unfold z_od1
    by_cases e : h n = nI v
    · rw [if_pos e, show decide (h n = nI v) = true from decide_eq_true e]
      show (pi_lp (z_od1 h v) n t).2 + 1 = t.2 + (z_cn _ n + 1)
      rw [ih t]; rfl
    · rw [if_neg e, show decide (h n = nI v) = false from decide_eq_false e]
      exact ih t
def z_ge (h : Nat → Int32) : Nat → Nat → Bool
  | 0, _ => false
  | i + 1, k => z_ge h i k || decide (h k = nI (10 - (i + 1)))
theorem z_ge_iff (h : Nat → Int32) (k : Nat) : ∀ i, z_ge h i k = true ↔ ∃ v, v < i ∧ h k = nI (10 - (v + 1)) := by
  intro i
  induction i with
  | zero => exact ⟨fun q => absurd (show false = true from q) Bool.false_ne_true, fun ⟨v, hv, _⟩ => absurd hv (Nat.not_lt_zero v)⟩
  | succ i ih =>
    show (z_ge h i k || decide (h k = nI (10 - (i + 1)))) = true ↔ _
    rw [Bool.or_eq_true, ih, decide_eq_true_iff]
    constructor
    · rintro (⟨v, hv, q⟩ | q)
      · exact ⟨v, by omega, q⟩
      · exact ⟨i, by omega, q⟩
    · rintro ⟨v, hv, q⟩
      rcases Nat.lt_or_eq_of_le (Nat.lt_succ_iff.mp hv) with w | w
      · exact Or.inl ⟨v, w, q⟩
      · exact Or.inr (by rw [← w]; exact q)
theorem z_od_cnt2 (h : Nat → Int32) (nd : Nat) : ∀ i, i ≤ 10 → (z_od h nd i).2 = z_cn (z_ge h i) nd := by
  intro i
  induction i with
  | zero =>
    intro _
    have : ∀ n, z_cn (z_ge h 0) n = 0 := by
      intro n
      induction n with
      | zero => rfl
      | succ n ih =>
        rw [z_cn_s]
        exact ih
    exact (this nd).symm
  | succ i ih =>
    intro hi
    show (z_od2 h (10 - (i + 1)) nd (z_od h nd i)).2 = _
    unfold z_od2
    rw [z_od_cnt, ih (by omega)]
    refine z_cn_add (fun k => rfl) (fun k => ?_) nd
    rintro ⟨h1, h2⟩
    obtain ⟨v, hv, q⟩ := (z_ge_iff h k i).mp h1
    have q2 := of_decide_eq_true h2
    have := (nI_eq (by omega) (by omega)).mp (q.symm.trans q2)
    omega
theorem z_od_n {W : zW} (hk : z_wk W) : (z_od W.hh W.nd 10).2 = W.nd := by
  rw [z_od_cnt2 W.hh W.nd 10 (Nat.le_refl 10)]
  refine z_cn_all W.nd (fun i hi => (z_ge_iff W.hh i 10).mpr ?_)
  have hf := z_hh_fig hk hi
  obtain ⟨a, ha, e⟩ := hf
  exact ⟨9 - a, by omega, by rw [e, show 10 - (9 - a + 1) = a by omega]⟩
theorem z_wash_rain {W : zW} (hk : z_wk W) (s : zH) : z_wash W W.nd s = z_rain W.hh W.nd W.ns W.up W.lo 10 s := by
  have key : ∀ (d : Nat) (s : zH), z_wd1 W d s = (if z_fi W.up d W.ns W.ns = W.ns then s else z_gd (W.up (z_fi W.up d W.ns W.ns)) (W.lo (z_fi W.up d W.ns W.ns)) s) := by
    intro d s
    unfold z_wd1
    by_cases q : z_fi W.up d W.ns W.ns = W.ns
    · rw [if_pos q, if_pos q]
    · rw [if_neg q, if_neg q, z_fi_up W.up d W.ns W.ns (Nat.le_refl _) q]
  have hcg : ∀ (n : Nat) (f g : Nat → Nat), (∀ i, i < n → f i = g i) → ∀ s : zH, pi_lp (fun i s => z_wd1 W (f i) s) n s = pi_lp (fun i s => z_wd1 W (g i) s) n s := fun n f g h s => pi_lp_c n (fun i hi s => by rw [h i hi]) s
  have inner : ∀ (v n : Nat) (t : (Nat → Nat) × Nat) (R : zH → zH), (∀ s, pi_lp (fun i s => z_wd1 W (t.1 i) s) t.2 s = R s) →
      ∀ s, pi_lp (fun i s => z_wd1 W ((pi_lp (z_od1 W.hh v) n t).1 i) s) (pi_lp (z_od1 W.hh v) n t).2 s = z_r2 W.hh W.ns W.up W.lo v n (R s) := by
    intro v n t R h
    induction n with
    | zero => exact h
    | succ n ih =>
      intro s
      rw [z_r2_s, ← ih s]
      show pi_lp (fun i s => z_wd1 W ((z_od1 W.hh v n (pi_lp (z_od1 W.hh v) n t)).1 i) s) (z_od1 W.hh v n (pi_lp (z_od1 W.hh v) n t)).2 s = _
      generalize pi_lp (z_od1 W.hh v) n t = q
      unfold z_od1 z_r1
      by_cases e : W.hh n = nI v
      · rw [if_pos e, if_pos e]
        show z_wd1 W (z_u q.1 q.2 n q.2) (pi_lp (fun i s => z_wd1 W (z_u q.1 q.2 n i) s) q.2 s) = _
        rw [z_u_s, hcg q.2 (z_u q.1 q.2 n) q.1 (fun i hi => z_u_n _ _ (by omega)), key]
      · rw [if_neg e, if_neg e]
  have outer : ∀ n (s : zH), pi_lp (fun i s => z_wd1 W ((z_od W.hh W.nd n).1 i) s) (z_od W.hh W.nd n).2 s = z_rain W.hh W.nd W.ns W.up W.lo n s := by
    intro n
    induction n with
    | zero => intro s; rfl
    | succ n ih => exact inner (10 - (n + 1)) W.nd (z_od W.hh W.nd n) _ ih
  have hn := z_od_n hk
  have := outer 10 s
  rw [hn] at this
  exact this
