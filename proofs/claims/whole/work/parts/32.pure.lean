/-! reach in ints -/
theorem z_bit0 {B y : Nat} (hB : B < 2 ^ 31) (hy : y < 31) : (nI B >>> (nI y &&& 31)) &&& nI 1 = 0 ↔ ¬ B.testBit y = true := by
  rw [z_bit1 hB hy, z_tb]
  have : B / 2 ^ y % 2 < 2 := Nat.mod_lt _ (by omega)
  by_cases h : B / 2 ^ y % 2 = 1
  · rw [h]
    exact ⟨fun q => absurd q (by decide), fun q => absurd (by simp) q⟩
  · have h0 : B / 2 ^ y % 2 = 0 := by omega
    rw [h0]
    exact ⟨fun _ => by simp, fun _ => rfl⟩
theorem z_bit1e {B y : Nat} (hB : B < 2 ^ 31) (hy : y < 31) : (nI B >>> (nI y &&& 31)) &&& nI 1 = nI 1 ↔ B.testBit y = true := by
  rw [← z_bt_n hB hy, z_bt, decide_eq_true_iff]
theorem z_or8 {B y : Nat} (hB : B < 2 ^ 8) (hy : y < 8) : B ||| 2 ^ y < 2 ^ 8 := Nat.or_lt_two_pow hB (Nat.pow_lt_pow_right (by omega) hy)
theorem z_rN8 {W : zW} (hk : z_wk W) {a C k B : Nat} (hkn : k < W.ns) (hB : B < 2 ^ 8) : z_rN W.up W.lo a C k B < 2 ^ 8 := by
  have hu := z_us_ne hk hkn
  unfold z_rN
  split
  · exact hB
  · split
    · exact z_or8 hB hu.2.1
    · exact hB
theorem z_cN8 {W : zW} (hk : z_wk W) {C k B : Nat} (hkn : k < W.ns) (hB : B < 2 ^ 8) : z_cN W.up W.lo C k B < 2 ^ 8 := by
  have hu := z_us_ne hk hkn
  unfold z_cN
  split
  · exact hB
  · split
    · exact z_or8 hB hu.2.1
    · exact hB
theorem z_rc1_N {W : zW} (hk : z_wk W) {a C k B : Nat} (hC : C < 2 ^ 31) (hkn : k < W.ns) (hB : B < 2 ^ 8) : z_rc1 W.up W.lo a (nI C) k (nI B) = nI (z_rN W.up W.lo a C k B) := by
  have hu := z_us_ne hk hkn
  have hns := hk.wd.ns12
  unfold z_rc1 z_rN
  rw [z_bt_n hC (by omega), z_bt_n (by omega) (by omega)]
  have h0 : nI B ||| nI 0 = nI B := z_or0 _
  have h1 : nI B ||| (nI 1 <<< (nI (W.lo k) &&& 31)) = nI (B ||| 2 ^ W.lo k) := by rw [z_shl _ (by omega), z_or]
  by_cases q : C.testBit k = true
  · rw [if_pos q, if_pos q, h0]
  · rw [if_neg q, if_neg q]
    by_cases q2 : W.up k = a
    · rw [if_pos q2, if_pos (Or.inl q2), h1]
    · rw [if_neg q2]
      by_cases q3 : B.testBit (W.up k) = true
      · rw [if_pos q3, if_pos (Or.inr q3), h1]
      · rw [if_neg q3, if_neg (fun z => z.elim q2 q3), h0]
theorem z_rc_N {W : zW} (hk : z_wk W) {a C : Nat} (hC : C < 2 ^ 31) : z_rc W.up W.lo W.ns a (nI C) = nI (z_RN W.up W.lo W.ns a C 8) := by
  have inner : ∀ (B : Nat), B < 2 ^ 8 → ∀ n, n ≤ W.ns → pi_lp (z_rN W.up W.lo a C) n B < 2 ^ 8 ∧ pi_lp (z_rc1 W.up W.lo a (nI C)) n (nI B) = nI (pi_lp (z_rN W.up W.lo a C) n B) := by
    intro B hB n
    induction n with
    | zero => intro _; exact ⟨hB, rfl⟩
    | succ n ih =>
      intro hn
      obtain ⟨i1, i2⟩ := ih (by omega)
      refine ⟨z_rN8 hk (by omega) i1, ?_⟩
      show z_rc1 W.up W.lo a (nI C) n (pi_lp (z_rc1 W.up W.lo a (nI C)) n (nI B)) = nI (z_rN W.up W.lo a C n (pi_lp (z_rN W.up W.lo a C) n B))
      rw [i2, z_rc1_N hk hC (by omega) i1]
  have outer : ∀ n, z_RN W.up W.lo W.ns a C n < 2 ^ 8 ∧ z_rch W.up W.lo W.ns a (nI C) n = nI (z_RN W.up W.lo W.ns a C n) := by
    intro n
    induction n with
    | zero => exact ⟨show 0 < 2 ^ 8 by decide, rfl⟩
    | succ n ih =>
      have := inner _ ih.1 W.ns (Nat.le_refl _)
      refine ⟨this.1, ?_⟩
      show pi_lp (z_rc1 W.up W.lo a (nI C)) W.ns (z_rch W.up W.lo W.ns a (nI C) n) = _
      rw [ih.2]
      exact this.2
  exact (outer 8).2
theorem z_CN8 {W : zW} (hk : z_wk W) {C a : Nat} (ha : a < 8) (hsd : ∀ i, i < W.ns → z_sd W i < W.ns) : ∀ n, n ≤ W.ns → z_CN W C n a < 2 ^ 8 := by
  intro n
  induction n with
  | zero => intro _; exact Nat.pow_lt_pow_right (by omega) ha
  | succ n ih => intro hn; exact z_cN8 hk (hsd n (by omega)) (ih (by omega))
theorem z_CN_s (W : zW) (C n a : Nat) : z_CN W C (n + 1) a = z_cN W.up W.lo C (z_sd W n) (z_CN W C n a) := rfl
theorem z_to : ∀ a, a < 8 → ∀ R, R < 256 → R.testBit a = false → (nI (R ||| 2 ^ a)) &&& ((nI (2 ^ a)) ^^^ (-1)) = nI R := by decide +kernel
/-! how many bits -/
def z_pc (n : Nat) (b : Nat) : Nat := z_cn (fun k => b.testBit k) n
theorem z_ones_pc {b : Nat} (hb : b < 2 ^ 31) : z_ones (nI b) = nI (z_pc 12 b) := by
  have key : ∀ n, n ≤ 12 → pi_lp (fun k (m : Int32) => m + (nI b >>> (nI k &&& 31) &&& nI 1)) n (nI 0) = nI (z_pc n b) := by
    intro n
    induction n with
    | zero => intro _; rfl
    | succ n ih =>
      intro hn
      show pi_lp (fun k (m : Int32) => m + (nI b >>> (nI k &&& 31) &&& nI 1)) n (nI 0) + (nI b >>> (nI n &&& 31) &&& nI 1) = nI (z_cn (fun k => b.testBit k) (n + 1))
      rw [ih (by omega), z_bit1 hb (by omega), nI_add, z_cn_s]
      have h := z_tb b n
      have : b / 2 ^ n % 2 < 2 := Nat.mod_lt _ (by omega)
      by_cases q : b / 2 ^ n % 2 = 1
      · rw [q, show b.testBit n = true by rw [h]; exact decide_eq_true q]; rfl
      · rw [show b / 2 ^ n % 2 = 0 by omega, show b.testBit n = false by rw [h]; exact decide_eq_false q]; rfl
  exact key 12 (Nat.le_refl 12)
theorem z_pc_le {n b : Nat} (hb : b < 2 ^ n) : ∀ m, z_pc m b ≤ n := by
  intro m
  have h : ∀ m, z_pc m b ≤ m ∧ z_pc m b ≤ n := by
    intro m
    induction m with
    | zero => exact ⟨Nat.le_refl 0, Nat.zero_le n⟩
    | succ m ih =>
      show z_cn (fun k => b.testBit k) (m + 1) ≤ m + 1 ∧ z_cn (fun k => b.testBit k) (m + 1) ≤ n
      rw [z_cn_s]
      have i1 : z_cn (fun k => b.testBit k) m ≤ m := ih.1
      have i2 : z_cn (fun k => b.testBit k) m ≤ n := ih.2
      by_cases q : m < n
      · cases b.testBit m
        · exact ⟨by show z_cn _ m ≤ m + 1; omega, i2⟩
        · exact ⟨by show z_cn _ m + 1 ≤ m + 1; omega, by show z_cn _ m + 1 ≤ n; omega⟩
      · have hf : b.testBit m = false := Nat.testBit_lt_two_pow (Nat.lt_of_lt_of_le hb (Nat.pow_le_pow_right (by omega) (by omega)))
        rw [hf]
        exact ⟨by show z_cn _ m ≤ m + 1; omega, i2⟩
  exact (h m).2
/-! the cut: found for sure -/
theorem z_RN_all {W : zW} {a C : Nat} (h : ∀ s, s < W.ns → C.testBit s = true) (n y : Nat) : (z_RN W.up W.lo W.ns a C n).testBit y = false := by
  cases q : (z_RN W.up W.lo W.ns a C n).testBit y
  · rfl
  · exact (z_RN_P (P := fun _ => False) (fun s hs hc _ => hc (h s hs)) n y q).elim
theorem z_ct_nm {W : zW} (hk : z_wk W) {a b : Nat} (hb : b < 8) : z_ct W.up W.lo W.ns a (nI b) (2 ^ W.ns) ≠ -1 := by
  have hns := hk.wd.ns12
  have hp : 0 < 2 ^ W.ns := Nat.two_pow_pos _
  have hp2 : 2 ^ W.ns ≤ 2 ^ 12 := Nat.pow_le_pow_right (by decide) hns
  obtain ⟨m, hm⟩ : ∃ m, 2 ^ W.ns = m + 1 := ⟨2 ^ W.ns - 1, by omega⟩
  rw [hm, z_ct_s]
  have hall : ∀ s, s < W.ns → m.testBit s = true := by
    intro s hs
    have : m = 2 ^ W.ns - 1 := by omega
    rw [this, Nat.testBit_two_pow_sub_one]
    exact decide_eq_true hs
  have hbt : z_bt (z_rc W.up W.lo W.ns a (nI m)) (nI b) = false := by
    rw [z_rc_N hk (by omega), z_bt_n (by have := z_RN_256 hk a m 8; omega) (by omega)]
    exact z_RN_all hall 8 b
  rw [hbt]
  by_cases q : z_ct W.up W.lo W.ns a (nI b) m = -1
  · rw [if_pos (Or.inl q), if_neg Bool.false_ne_true]
    exact fun w => z_nIm m (by omega) w
  · split
    · rw [if_neg Bool.false_ne_true]
      exact fun w => z_nIm m (by omega) w
    · exact q
def z_bq (W : zW) (x : Int32) : Int32 := if x = -1 then nI (2 ^ W.ns) - nI 1 else x
def z_fq (W : zW) (x : Int32) : Int32 := if x = -1 then nI (W.ns + 1) else z_ones x
theorem z_ct_is {W : zW} {a : Nat} {b : Int32} : ∀ n, z_ct W.up W.lo W.ns a b n = -1 ∨ ∃ s, s < n ∧ z_ct W.up W.lo W.ns a b n = nI s := by
  intro n
  induction n with
  | zero => exact Or.inl rfl
  | succ n ih =>
    rw [z_ct_s]
    have ih' : z_ct W.up W.lo W.ns a b n = -1 ∨ ∃ s, s < n + 1 ∧ z_ct W.up W.lo W.ns a b n = nI s := ih.imp id (fun ⟨s, hs, e⟩ => ⟨s, by omega, e⟩)
    split
    · split
      · exact ih'
      · exact Or.inr ⟨n, by omega, rfl⟩
    · exact ih'
