/-! bits as numbers -/
theorem z_and (a b : Nat) : nI a &&& nI b = nI (a &&& b) := by
  apply Int32.toBitVec_inj.1
  show BitVec.ofNat 32 a &&& BitVec.ofNat 32 b = BitVec.ofNat 32 (a &&& b)
  apply BitVec.eq_of_getLsbD_eq
  intro i hi
  simp [hi]
theorem z_or (a b : Nat) : nI a ||| nI b = nI (a ||| b) := by
  apply Int32.toBitVec_inj.1
  show BitVec.ofNat 32 a ||| BitVec.ofNat 32 b = BitVec.ofNat 32 (a ||| b)
  apply BitVec.eq_of_getLsbD_eq
  intro i hi
  simp [hi]
theorem z_set (n j i : Nat) : (n ||| 2 ^ j).testBit i = (n.testBit i || decide (i = j)) := by
  rw [Nat.testBit_or]
  by_cases h : j = i
  · subst h; simp
  · have h2 : ¬ i = j := fun e => h e.symm
    first | (simp [Nat.testBit_two_pow, h, h2]; done) | (simp [Nat.testBit_two_pow_of_ne h, h2]; done)
theorem z_sl : ∀ n, n < 32 → ((nI n &&& 31).toBitVec.smod 32).toNat = n := by decide +kernel
theorem z_bit1 {B y : Nat} (hB : B < 2 ^ 31) (hy : y < 31) : (nI B >>> (nI y &&& 31)) &&& nI 1 = nI (B / 2 ^ y % 2) := by
  rw [pk_shrN hB _ y (z_sl y (by omega)), z_and, Nat.and_one_is_mod]
theorem z_tb (B y : Nat) : B.testBit y = decide (B / 2 ^ y % 2 = 1) := by
  rw [Nat.testBit_eq_decide_div_mod_eq]
theorem z_bt_n {B y : Nat} (hB : B < 2 ^ 31) (hy : y < 31) : z_bt (nI B) (nI y) = B.testBit y := by
  rw [z_tb, z_bt, z_bit1 hB hy]
  have : B / 2 ^ y % 2 < 2 := Nat.mod_lt _ (by omega)
  by_cases h : B / 2 ^ y % 2 = 1
  · rw [h]; rfl
  · have h0 : B / 2 ^ y % 2 = 0 := by omega
    rw [h0]; rfl
/-! reach -/
def z_rN (up lo : Nat → Nat) (a C k B : Nat) : Nat := if C.testBit k = true then B else if up k = a ∨ B.testBit (up k) = true then B ||| 2 ^ (lo k) else B
def z_RN (up lo : Nat → Nat) (ns a C n : Nat) : Nat := pi_lp (fun _ B => pi_lp (z_rN up lo a C) ns B) n 0
def z_cN (up lo : Nat → Nat) (C k B : Nat) : Nat := if C.testBit k = true then B else if B.testBit (up k) = true then B ||| 2 ^ (lo k) else B
theorem z_rN_mono {up lo : Nat → Nat} {a C k B y : Nat} (h : B.testBit y = true) : (z_rN up lo a C k B).testBit y = true := by
  unfold z_rN
  split
  · exact h
  · split
    · rw [z_set, h]; rfl
    · exact h
theorem z_rN_lp {up lo : Nat → Nat} {a C B y : Nat} (h : B.testBit y = true) (n : Nat) : (pi_lp (z_rN up lo a C) n B).testBit y = true := by
  induction n with
  | zero => exact h
  | succ n ih => exact z_rN_mono ih
theorem z_RN_mono {up lo : Nat → Nat} {ns a C y n m : Nat} (hm : n ≤ m) (h : (z_RN up lo ns a C n).testBit y = true) : (z_RN up lo ns a C m).testBit y = true := by
  induction m with
  | zero =>
    have : n = 0 := by omega
    rw [← this]; exact h
  | succ m ih =>
    by_cases q : n = m + 1
    · rw [← q]; exact h
    · exact z_rN_lp (ih (by omega)) ns
theorem z_rN_get {up lo : Nat → Nat} {a C B s : Nat} (hC : ¬ C.testBit s = true) (hu : up s = a ∨ B.testBit (up s) = true) : ∀ n, s < n → (pi_lp (z_rN up lo a C) n B).testBit (lo s) = true := by
  intro n
  induction n with
  | zero => intro h; omega
  | succ n ih =>
    intro h
    by_cases q : s = n
    · subst q
      show (z_rN up lo a C s (pi_lp (z_rN up lo a C) s B)).testBit (lo s) = true
      have hu' : up s = a ∨ (pi_lp (z_rN up lo a C) s B).testBit (up s) = true := hu.imp id (fun w => z_rN_lp w s)
      generalize pi_lp (z_rN up lo a C) s B = X at hu' ⊢
      unfold z_rN
      rw [if_neg hC, if_pos hu', z_set]
      simp
    · exact z_rN_mono (ih (by omega))
/-- whatever is in comes down from the first door -/
theorem z_RN_P {up lo : Nat → Nat} {ns a C : Nat} {P : Nat → Prop} (hs : ∀ s, s < ns → ¬ C.testBit s = true → (up s = a ∨ P (up s)) → P (lo s)) (n : Nat) : ∀ y, (z_RN up lo ns a C n).testBit y = true → P y := by
  refine pi_lp_ind (P := fun (B : Nat) => ∀ y, B.testBit y = true → P y) n (fun _ _ B hB => ?_) 0 (fun y h => by rw [Nat.zero_testBit] at h; exact absurd h Bool.false_ne_true)
  refine pi_lp_ind (P := fun (B : Nat) => ∀ y, B.testBit y = true → P y) ns (fun s hsn B hB => ?_) B hB
  intro y h
  unfold z_rN at h
  split at h
  · exact hB y h
  · rename_i hC
    split at h
    · rename_i hu
      rw [z_set] at h
      by_cases q : y = lo s
      · rw [q]; exact hs s hsn hC (hu.imp id (fun w => hB _ w))
      · have : B.testBit y = true := by simpa [q] using h
        exact hB y this
    · exact hB y h
/-! the orders of the class, as they fold -/
theorem z_od_fold {α : Type} (h : Nat → Int32) (nd : Nat) (g : Nat → α → α) : ∀ n (s : α), pi_lp (fun i s => g ((z_od h nd n).1 i) s) (z_od h nd n).2 s = pi_lp (fun i s => pi_lp (fun d s => if h d = nI (10 - (i + 1)) then g d s else s) nd s) n s := by
  have hcg : ∀ (n : Nat) (f f' : Nat → Nat), (∀ i, i < n → f i = f' i) → ∀ s : α, pi_lp (fun i s => g (f i) s) n s = pi_lp (fun i s => g (f' i) s) n s := fun n f f' h s => pi_lp_c n (fun i hi s => by rw [h i hi]) s
  have inner : ∀ (v n : Nat) (t : (Nat → Nat) × Nat) (R : α → α), (∀ s, pi_lp (fun i s => g (t.1 i) s) t.2 s = R s) →
      ∀ s, pi_lp (fun i s => g ((pi_lp (z_od1 h v) n t).1 i) s) (pi_lp (z_od1 h v) n t).2 s = pi_lp (fun d s => if h d = nI v then g d s else s) n (R s) := by
    intro v n t R h0
    induction n with
    | zero => exact h0
    | succ n ih =>
      intro s
      show _ = (if h n = nI v then g n (pi_lp (fun d s => if h d = nI v then g d s else s) n (R s)) else pi_lp (fun d s => if h d = nI v then g d s else s) n (R s))
      rw [← ih s]
      show pi_lp (fun i s => g ((z_od1 h v n (pi_lp (z_od1 h v) n t)).1 i) s) (z_od1 h v n (pi_lp (z_od1 h v) n t)).2 s = _
      generalize pi_lp (z_od1 h v) n t = q
      unfold z_od1
      by_cases e : h n = nI v
      · rw [if_pos e, if_pos e]
        show g (z_u q.1 q.2 n q.2) (pi_lp (fun i s => g (z_u q.1 q.2 n i) s) q.2 s) = _
        rw [z_u_s, hcg q.2 (z_u q.1 q.2 n) q.1 (fun i hi => z_u_n _ _ (by omega))]
      · rw [if_neg e, if_neg e]
  intro n
  induction n with
  | zero => intro s; rfl
  | succ n ih => exact inner (10 - (n + 1)) nd (z_od h nd n) _ ih
theorem z_os_fold {α : Type} (up : Nat → Nat) (ns : Nat) (dd : Nat → Nat) (g : Nat → α → α) : ∀ n (s : α), pi_lp (fun i s => g ((z_os up ns dd n).1 i) s) (z_os up ns dd n).2 s = pi_lp (fun i s => pi_lp (fun k s => if up k = dd i then g k s else s) ns s) n s := by
  have hcg : ∀ (n : Nat) (f f' : Nat → Nat), (∀ i, i < n → f i = f' i) → ∀ s : α, pi_lp (fun i s => g (f i) s) n s = pi_lp (fun i s => g (f' i) s) n s := fun n f f' h s => pi_lp_c n (fun i hi s => by rw [h i hi]) s
  have inner : ∀ (v n : Nat) (t : (Nat → Nat) × Nat) (R : α → α), (∀ s, pi_lp (fun i s => g (t.1 i) s) t.2 s = R s) →
      ∀ s, pi_lp (fun i s => g ((pi_lp (z_os1 up v) n t).1 i) s) (pi_lp (z_os1 up v) n t).2 s = pi_lp (fun k s => if up k = v then g k s else s) n (R s) := by
    intro v n t R h0
    induction n with
    | zero => exact h0
    | succ n ih =>
      intro s
      show _ = (if up n = v then g n (pi_lp (fun k s => if up k = v then g k s else s) n (R s)) else pi_lp (fun k s => if up k = v then g k s else s) n (R s))
      rw [← ih s]
      show pi_lp (fun i s => g ((z_os1 up v n (pi_lp (z_os1 up v) n t)).1 i) s) (z_os1 up v n (pi_lp (z_os1 up v) n t)).2 s = _
      generalize pi_lp (z_os1 up v) n t = q
      unfold z_os1
      by_cases e : up n = v
      · rw [if_pos e, if_pos e]
        show g (z_u q.1 q.2 n q.2) (pi_lp (fun i s => g (z_u q.1 q.2 n i) s) q.2 s) = _
        rw [z_u_s, hcg q.2 (z_u q.1 q.2 n) q.1 (fun i hi => z_u_n _ _ (by omega))]
      · rw [if_neg e, if_neg e]
  intro n
  induction n with
  | zero => intro s; rfl
  | succ n ih => exact inner (dd n) ns (z_os up ns dd n) _ ih
/-- each street comes once -/
theorem z_os_cnt (up : Nat → Nat) (v : Nat) : ∀ n (t : (Nat → Nat) × Nat), (pi_lp (z_os1 up v) n t).2 = t.2 + z_cn (fun k => decide (up k = v)) n := by
  intro n
  induction n with
  | zero => intro t; rfl
  | succ n ih =>
    intro t
    show (z_os1 up v n (pi_lp (z_os1 up v) n t)).2 = _
    rw [z_cn_s]
    unfold z_os1
    by_cases e : up n = v
    · rw [if_pos e, show decide (up n = v) = true from decide_eq_true e]
      show (pi_lp (z_os1 up v) n t).2 + 1 = t.2 + (z_cn _ n + 1)
      rw [ih t]; rfl
    · rw [if_neg e, show decide (up n = v) = false from decide_eq_false e]
      exact ih t
theorem z_os_sum (up : Nat → Nat) (ns : Nat) (dd : Nat → Nat) : ∀ n, (z_os up ns dd n).2 = pi_lp (fun i a => a + z_cn (fun k => decide (up k = dd i)) ns) n 0 := by
  intro n
  induction n with
  | zero => rfl
  | succ n ih =>
    show (z_os2 up ns (dd n) (z_os up ns dd n)).2 = pi_lp _ n 0 + _
    unfold z_os2
    rw [z_os_cnt, ih]
theorem z_cn_false {p : Nat → Bool} (h : ∀ i, p i = false) : ∀ n, z_cn p n = 0 := by
  intro n
  induction n with
  | zero => rfl
  | succ n ih => rw [z_cn_s, h n]; exact ih
theorem z_os_n {W : zW} (hk : z_wk W) : (z_os W.up W.ns (z_dd W) W.nd).2 = W.ns := by
  rw [z_os_sum]
  have e1 := z_od_fold W.hh W.nd (fun d (a : Nat) => a + z_cn (fun k => decide (W.up k = d)) W.ns) 10 0
  rw [z_od_n hk] at e1
  have e2 : ∀ i, i ≤ 10 → pi_lp (fun i a => pi_lp (fun d (a : Nat) => if W.hh d = nI (10 - (i + 1)) then a + z_cn (fun k => decide (W.up k = d)) W.ns else a) W.nd a) i 0 = z_cn (fun k => decide (W.up k < W.nd) && z_ge W.hh i (W.up k)) W.ns := by
    intro i
    induction i with
    | zero => intro _; exact (z_cn_false (fun k => Bool.and_false _) W.ns).symm
    | succ i ih =>
      intro hi
      show pi_lp (fun d (a : Nat) => if W.hh d = nI (10 - (i + 1)) then a + z_cn (fun k => decide (W.up k = d)) W.ns else a) W.nd (pi_lp _ i 0) = _
      rw [ih (by omega)]
      have e3 : ∀ D, pi_lp (fun d (a : Nat) => if W.hh d = nI (10 - (i + 1)) then a + z_cn (fun k => decide (W.up k = d)) W.ns else a) D (z_cn (fun k => decide (W.up k < W.nd) && z_ge W.hh i (W.up k)) W.ns) = z_cn (fun k => decide (W.up k < W.nd) && z_ge W.hh i (W.up k)) W.ns + z_cn (fun k => decide (W.up k < D) && decide (W.hh (W.up k) = nI (10 - (i + 1)))) W.ns := by
        intro D
        induction D with
        | zero => rw [z_cn_false (p := fun k => decide (W.up k < 0) && decide (W.hh (W.up k) = nI (10 - (i + 1)))) (fun k => by simp)]; rfl
        | succ D ihD =>
          show (if W.hh D = nI (10 - (i + 1)) then pi_lp _ D _ + _ else pi_lp _ D _) = _
          rw [ihD]
          by_cases e : W.hh D = nI (10 - (i + 1))
          · rw [if_pos e, Nat.add_assoc, z_cn_add (r := fun k => decide (W.up k < D + 1) && decide (W.hh (W.up k) = nI (10 - (i + 1)))) (fun k => ?_) (fun k => ?_)]
            · by_cases w : W.up k = D
              · rw [w, e]; simp
              · have : (W.up k < D + 1) = (W.up k < D) := by apply propext; omega
                simp [w, this]
            · rintro ⟨a1, a2⟩
              have a3 := of_decide_eq_true a2
              have a4 := of_decide_eq_true (Bool.and_eq_true_iff.mp a1).1
              omega
          · rw [if_neg e]
            congr 1
            have : (fun k => decide (W.up k < D) && decide (W.hh (W.up k) = nI (10 - (i + 1)))) = (fun k => decide (W.up k < D + 1) && decide (W.hh (W.up k) = nI (10 - (i + 1)))) := by
              funext k
              by_cases w : W.up k = D
              · rw [w, decide_eq_false e]; simp
              · have : (W.up k < D + 1) = (W.up k < D) := by apply propext; omega
                simp [this]
            rw [this]
      rw [e3 W.nd]
      refine z_cn_add (fun k => ?_) (fun k => ?_) W.ns
      · show (decide (W.up k < W.nd) && (z_ge W.hh i (W.up k) || decide (W.hh (W.up k) = nI (10 - (i + 1))))) = _
        rw [Bool.and_or_distrib_left]
      · rintro ⟨a1, a2⟩
        obtain ⟨v, hv, q⟩ := (z_ge_iff W.hh (W.up k) i).mp (Bool.and_eq_true_iff.mp a1).2
        have q2 := of_decide_eq_true (Bool.and_eq_true_iff.mp a2).2
        have := (nI_eq (by omega) (by omega)).mp (q.symm.trans q2)
        omega
  have e4 := e2 10 (Nat.le_refl 10)
  refine Eq.trans ?_ (e4.trans (z_cn_all W.ns (fun k hk2 => ?_)))
  · exact e1
  · have hu := hk.wd.us k hk2
    rw [show decide (W.up k < W.nd) = true from decide_eq_true hu.2.2.1]
    show z_ge W.hh 10 (W.up k) = true
    obtain ⟨b, hb, e⟩ := z_hh_fig hk hu.2.2.1
    exact (z_ge_iff W.hh (W.up k) 10).mpr ⟨9 - b, by omega, by rw [e, show 10 - (9 - b + 1) = b by omega]⟩
/-- how many doors lie higher -/
def z_rk (W : zW) (y : Nat) : Nat := z_cn (fun x => decide (W.hh y < W.hh x)) W.nd
theorem z_cn_lt {p q : Nat → Bool} (h : ∀ i, p i = true → q i = true) {x : Nat} (h2 : p x = false) (h3 : q x = true) : ∀ n, z_cn p n ≤ z_cn q n ∧ (x < n → z_cn p n + 1 ≤ z_cn q n) := by
  intro n
  induction n with
  | zero => exact ⟨Nat.le_refl 0, fun w => absurd w (Nat.not_lt_zero x)⟩
  | succ n ih =>
    rw [z_cn_s, z_cn_s]
    have a1 : cond (p n) (z_cn p n + 1) (z_cn p n) ≤ cond (q n) (z_cn q n + 1) (z_cn q n) := by
      cases hp : p n
      · cases hq : q n
        · exact ih.1
        · show z_cn p n ≤ z_cn q n + 1; have := ih.1; omega
      · rw [h n hp]
        show z_cn p n + 1 ≤ z_cn q n + 1; have := ih.1; omega
    refine ⟨a1, fun w => ?_⟩
    by_cases e : x = n
    · subst e
      rw [h2, h3]
      show z_cn p x + 1 ≤ z_cn q x + 1
      have := ih.1; omega
    · have a2 := ih.2 (by omega)
      cases hp : p n
      · cases hq : q n
        · exact a2
        · show z_cn p n + 1 ≤ z_cn q n + 1; omega
      · rw [h n hp]
        show z_cn p n + 1 + 1 ≤ z_cn q n + 1; omega
theorem z_rk_lt {W : zW} (hk : z_wk W) {s : Nat} (hs : s < W.ns) : z_rk W (W.up s) + 1 ≤ z_rk W (W.lo s) := by
  have hu := hk.wd.us s hs
  refine (z_cn_lt (fun i h => ?_) (x := W.up s) ?_ ?_ W.nd).2 hu.2.2.1
  · have := of_decide_eq_true h
    exact decide_eq_true (Int32.lt_trans hu.2.2.2.2 this)
  · exact decide_eq_false Int32.lt_irrefl
  · exact decide_eq_true hu.2.2.2.2
theorem z_rk_le (W : zW) (y : Nat) : z_rk W y ≤ W.nd := z_cn_le _ _
/-- the class's single pass, over heights, doors and streets -/
def z_ps (W : zW) (C d : Nat) (n : Nat) (B : Nat) : Nat := pi_lp (fun k s => if W.up k = d then z_cN W.up W.lo C k s else s) n B
def z_pd (W : zW) (C v : Nat) (n : Nat) (B : Nat) : Nat := pi_lp (fun d s => if W.hh d = nI v then z_ps W C d W.ns s else s) n B
def z_ph (W : zW) (C : Nat) (n : Nat) (B : Nat) : Nat := pi_lp (fun i s => z_pd W C (10 - (i + 1)) W.nd s) n B
def z_CN (W : zW) (C n a : Nat) : Nat := pi_lp (fun i B => z_cN W.up W.lo C (z_sd W i) B) n (2 ^ a)
theorem z_CN_ph {W : zW} (hk : z_wk W) (C a : Nat) : z_CN W C W.ns a = z_ph W C 10 (2 ^ a) := by
  have e1 := z_os_fold W.up W.ns (z_dd W) (z_cN W.up W.lo C) W.nd (2 ^ a)
  rw [z_os_n hk] at e1
  have e2 := z_od_fold W.hh W.nd (fun d s => z_ps W C d W.ns s) 10 (2 ^ a)
  rw [z_od_n hk] at e2
  exact e1.trans e2
/-- what the pass keeps -/
def z_ok (W : zW) (a C : Nat) (P : Nat → Prop) (B : Nat) : Prop := B.testBit a = true ∧ (∀ s, s < W.ns → P s → ¬ C.testBit s = true → B.testBit (W.up s) = true → B.testBit (W.lo s) = true) ∧ ∀ y, B.testBit y = true → y = a ∨ (z_RN W.up W.lo W.ns a C (z_rk W y)).testBit y = true
theorem z_ok_step {W : zW} (hk : z_wk W) {a C k B : Nat} (hkn : k < W.ns) {P P' : Nat → Prop} (hP : ∀ s, s < W.ns → P s → W.hh (W.up k) ≤ W.hh (W.up s)) (hP' : ∀ s, P' s → P s ∨ s = k) (h : z_ok W a C P B) : z_ok W a C P' (z_cN W.up W.lo C k B) := by
  obtain ⟨h1, h2, h3⟩ := h
  unfold z_cN
  by_cases hC : C.testBit k = true
  · rw [if_pos hC]
    refine ⟨h1, fun s hs hp hc hb => ?_, h3⟩
    rcases hP' s hp with q | q
    · exact h2 s hs q hc hb
    · rw [q] at hc; exact absurd hC hc
  · rw [if_neg hC]
    by_cases hB : B.testBit (W.up k) = true
    · rw [if_pos hB]
      have hu := hk.wd.us k hkn
      refine ⟨by rw [z_set, h1]; rfl, fun s hs hp hc hb => ?_, fun y hy => ?_⟩
      · rcases hP' s hp with q | q
        · have hb2 : B.testBit (W.up s) = true := by
            rw [z_set] at hb
            by_cases e : W.up s = W.lo k
            · have a1 := hP s hs q
              rw [e] at a1
              exact absurd hu.2.2.2.2 (Int32.not_lt.mpr a1)
            · simpa [e] using hb
          rw [z_set, h2 s hs q hc hb2]; rfl
        · rw [q, z_set]; simp
      · rw [z_set] at hy
        by_cases e : y = W.lo k
        · right
          have hin : (z_RN W.up W.lo W.ns a C (z_rk W (W.up k) + 1)).testBit (W.lo k) = true := z_rN_get (B := z_RN W.up W.lo W.ns a C (z_rk W (W.up k))) hC (h3 _ hB) W.ns hkn
          rw [e]
          exact z_RN_mono (z_rk_lt hk hkn) hin
        · exact h3 y (by simpa [e] using hy)
    · rw [if_neg hB]
      refine ⟨h1, fun s hs hp hc hb => ?_, h3⟩
      rcases hP' s hp with q | q
      · exact h2 s hs q hc hb
      · rw [q] at hb; exact absurd hb hB
theorem z_ok_mono {W : zW} {a C B : Nat} {P P' : Nat → Prop} (hP : ∀ s, s < W.ns → P' s → P s) (h : z_ok W a C P B) : z_ok W a C P' B :=
  ⟨h.1, fun s hs hp => h.2.1 s hs (hP s hs hp), h.2.2⟩
theorem z_ph_ok {W : zW} (hk : z_wk W) (a C : Nat) : z_ok W a C (fun _ => True) (z_ph W C 10 (2 ^ a)) := by
  have base : z_ok W a C (fun s => z_ge W.hh 0 (W.up s) = true) (2 ^ a) := by
    refine ⟨Nat.testBit_two_pow_self, fun s hs hp => absurd (show false = true from hp) Bool.false_ne_true, fun y hy => Or.inl ?_⟩
    by_cases e : y = a
    · exact e
    · rw [Nat.testBit_two_pow_of_ne (fun q => e q.symm)] at hy
      exact absurd hy Bool.false_ne_true
  have outer : ∀ i, i ≤ 10 → z_ok W a C (fun s => z_ge W.hh i (W.up s) = true) (z_ph W C i (2 ^ a)) := by
    intro i
    induction i with
    | zero => intro _; exact base
    | succ i ih =>
      intro hi
      have ih := ih (by omega)
      show z_ok W a C _ (z_pd W C (10 - (i + 1)) W.nd (z_ph W C i (2 ^ a)))
      have mid : ∀ D, z_ok W a C (fun s => z_ge W.hh i (W.up s) = true ∨ (W.hh (W.up s) = nI (10 - (i + 1)) ∧ W.up s < D)) (z_pd W C (10 - (i + 1)) D (z_ph W C i (2 ^ a))) := by
        intro D
        induction D with
        | zero => exact z_ok_mono (fun s _ h => h.elim id (fun q => absurd q.2 (Nat.not_lt_zero _))) ih
        | succ D ihD =>
          show z_ok W a C _ (if W.hh D = nI (10 - (i + 1)) then z_ps W C D W.ns (z_pd W C (10 - (i + 1)) D (z_ph W C i (2 ^ a))) else z_pd W C (10 - (i + 1)) D (z_ph W C i (2 ^ a)))
          by_cases e : W.hh D = nI (10 - (i + 1))
          · rw [if_pos e]
            have inn : ∀ n, n ≤ W.ns → z_ok W a C (fun s => (z_ge W.hh i (W.up s) = true ∨ (W.hh (W.up s) = nI (10 - (i + 1)) ∧ W.up s < D)) ∨ (W.up s = D ∧ s < n)) (z_ps W C D n (z_pd W C (10 - (i + 1)) D (z_ph W C i (2 ^ a)))) := by
              intro n
              induction n with
              | zero => intro _; exact z_ok_mono (fun s _ h => h.elim id (fun q => absurd q.2 (Nat.not_lt_zero _))) ihD
              | succ n ihn =>
                intro hn
                have ihn := ihn (by omega)
                show z_ok W a C _ (if W.up n = D then z_cN W.up W.lo C n (z_ps W C D n _) else z_ps W C D n _)
                by_cases w : W.up n = D
                · rw [if_pos w]
                  refine z_ok_step hk (by omega) (fun s hs hp => ?_) (fun s hp => ?_) ihn
                  · rw [w, e]
                    rcases hp with (q | q) | q
                    · obtain ⟨v, hv, q2⟩ := (z_ge_iff W.hh (W.up s) i).mp q
                      rw [q2]
                      exact (nI_leI (by omega) (by omega)).mpr (by omega)
                    · rw [q.1]; exact Int32.le_refl _
                    · rw [q.1, e]; exact Int32.le_refl _
                  · rcases hp with q | ⟨q1, q2⟩
                    · exact Or.inl (Or.inl q)
                    · by_cases z : s = n
                      · exact Or.inr z
                      · exact Or.inl (Or.inr ⟨q1, by omega⟩)
                · rw [if_neg w]
                  refine z_ok_mono (fun s _ hp => ?_) ihn
                  rcases hp with q | ⟨q1, q2⟩
                  · exact Or.inl q
                  · by_cases z : s = n
                    · rw [z] at q1; exact absurd q1 w
                    · exact Or.inr ⟨q1, by omega⟩
            refine z_ok_mono (fun s hs hp => ?_) (inn W.ns (Nat.le_refl _))
            rcases hp with q | ⟨q1, q2⟩
            · exact Or.inl (Or.inl q)
            · by_cases z : W.up s = D
              · exact Or.inr ⟨z, hs⟩
              · exact Or.inl (Or.inr ⟨q1, by omega⟩)
          · rw [if_neg e]
            refine z_ok_mono (fun s hs hp => ?_) ihD
            rcases hp with q | ⟨q1, q2⟩
            · exact Or.inl q
            · by_cases z : W.up s = D
              · rw [z] at q1; exact absurd q1 e
              · exact Or.inr ⟨q1, by omega⟩
      refine z_ok_mono (fun s hs hp => ?_) (mid W.nd)
      have hu := hk.wd.us s hs
      rcases Bool.or_eq_true_iff.mp (show (z_ge W.hh i (W.up s) || decide (W.hh (W.up s) = nI (10 - (i + 1)))) = true from hp) with q | q
      · exact Or.inl q
      · exact Or.inr ⟨of_decide_eq_true q, hu.2.2.1⟩
  refine z_ok_mono (fun s hs _ => ?_) (outer 10 (Nat.le_refl 10))
  have hu := hk.wd.us s hs
  obtain ⟨b, hb, e⟩ := z_hh_fig hk hu.2.2.1
  exact (z_ge_iff W.hh (W.up s) 10).mpr ⟨9 - b, by omega, by rw [e, show 10 - (9 - b + 1) = b by omega]⟩
/-- one pass finds what eight turns find, and the first door -/
theorem z_CN_bit {W : zW} (hk : z_wk W) (a C y : Nat) : (z_CN W C W.ns a).testBit y = true ↔ (y = a ∨ (z_RN W.up W.lo W.ns a C 8).testBit y = true) := by
  rw [z_CN_ph hk]
  obtain ⟨h1, h2, h3⟩ := z_ph_ok hk a C
  constructor
  · intro h
    have hnd := hk.wd.nd8
    have hr := z_rk_le W y
    exact (h3 y h).imp id (fun q => z_RN_mono (by omega) q)
  · rintro (rfl | h)
    · exact h1
    · refine z_RN_P (P := fun y => (z_ph W C 10 (2 ^ a)).testBit y = true) (fun s hs hc hu => ?_) 8 y h
      refine h2 s hs trivial hc ?_
      rcases hu with q | q
      · rw [q]; exact h1
      · exact q
/-- one doesn't come back -/
theorem z_RN_low {W : zW} (hk : z_wk W) (a C n y : Nat) (h : (z_RN W.up W.lo W.ns a C n).testBit y = true) : y < W.nd ∧ W.hh y < W.hh a := by
  refine z_RN_P (P := fun y => y < W.nd ∧ W.hh y < W.hh a) (fun s hs hc hu => ?_) n y h
  have hw := hk.wd.us s hs
  refine ⟨hw.2.2.2.1, ?_⟩
  rcases hu with q | q
  · rw [← q]; exact hw.2.2.2.2
  · exact Int32.lt_trans hw.2.2.2.2 q.2
theorem z_RN_self {W : zW} (hk : z_wk W) (a C n : Nat) : (z_RN W.up W.lo W.ns a C n).testBit a = false := by
  cases h : (z_RN W.up W.lo W.ns a C n).testBit a
  · rfl
  · exact absurd (z_RN_low hk a C n a h).2 Int32.lt_irrefl
theorem z_RN_256 {W : zW} (hk : z_wk W) (a C n : Nat) : z_RN W.up W.lo W.ns a C n < 2 ^ 8 := by
  refine Nat.lt_pow_two_of_testBit _ (fun i hi => ?_)
  cases h : (z_RN W.up W.lo W.ns a C n).testBit i
  · rfl
  · have := (z_RN_low hk a C n i h).1
    have := hk.wd.nd8
    omega
theorem z_CN_eq {W : zW} (hk : z_wk W) (a C : Nat) : z_CN W C W.ns a = z_RN W.up W.lo W.ns a C 8 ||| 2 ^ a := by
  refine Nat.eq_of_testBit_eq (fun y => ?_)
  rw [z_set]
  have h := z_CN_bit hk a C y
  cases h1 : (z_CN W C W.ns a).testBit y
  · cases h2 : (z_RN W.up W.lo W.ns a C 8).testBit y
    · by_cases e : y = a
      · exact absurd (h.mpr (Or.inl e)) (by rw [h1]; exact Bool.false_ne_true)
      · simp [e]
    · exact absurd (h.mpr (Or.inr h2)) (by rw [h1]; exact Bool.false_ne_true)
  · rcases h.mp h1 with q | q
    · simp [q]
    · rw [q]; rfl
