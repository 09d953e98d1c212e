theorem z_CR.fnd {W : zW} {s σ : pi_S} (h : z_CR W σ) {x : Int32} (e : s 0 7 = x) (hr : pi_fr [0] s σ) : z_CR (W.sS 0 x) s := z_CR.mk (z_CK.mk (h.k.p.fnd e hr) (h.k.t.of2 (pi_fr_tr hr (by decide) pi_fr_rf))) ((hr 35 (by decide)).trans h.b) ((hr 36 (by decide)).trans h.y) ((congrFun (hr 33 (by decide)) 4).trans h.a) (fun k hk => (congrFun (hr 39 (by decide)) k).trans (h.jc k hk)) (fun k hk => (congrFun (hr 40 (by decide)) k).trans (h.jd k hk))
theorem z_CR.sheet0 {W : zW} {s σ : pi_S} (h : z_CR W σ) {f n : Nat} (hf : f < 3) (hn : n ≤ 48) (e1 : s 48 1 = nI f) (e2 : s 48 2 = nI n) (e3 : ∀ j, j < 48 → s 49 j = nI 0) (hr : pi_fr [48, 49] s σ) : z_CR ((((W.sF 8 (z_u W.th 0 1)).sF 4 (z_u W.fo 0 f)).sF 5 (z_u W.si 0 n)).sI 9 (z_c48 0 48 W.it)) s := z_CR.mk (z_CK.mk (h.k.p.sheet0 hf hn e1 e2 e3 hr) (h.k.t.of2 (pi_fr_tr hr (by decide) pi_fr_rf))) ((hr 35 (by decide)).trans h.b) ((hr 36 (by decide)).trans h.y) ((congrFun (hr 33 (by decide)) 4).trans h.a) (fun k hk => (congrFun (hr 39 (by decide)) k).trans (h.jc k hk)) (fun k hk => (congrFun (hr 40 (by decide)) k).trans (h.jd k hk))
theorem z_CR.lose0 {W : zW} {s σ : pi_S} (h : z_CR W σ) (e1 : s 48 1 = σ 48 1) (e2 : s 48 2 = -1) (hr : pi_fr [48] s σ) : z_CR (W.sF 8 (z_u W.th 0 0)) s := z_CR.mk (z_CK.mk (h.k.p.lose0 e1 e2 hr) (h.k.t.of2 (pi_fr_tr hr (by decide) pi_fr_rf))) ((hr 35 (by decide)).trans h.b) ((hr 36 (by decide)).trans h.y) ((congrFun (hr 33 (by decide)) 4).trans h.a) (fun k hk => (congrFun (hr 39 (by decide)) k).trans (h.jc k hk)) (fun k hk => (congrFun (hr 40 (by decide)) k).trans (h.jd k hk))
theorem z_CR.it0 {W : zW} {s σ : pi_S} (h : z_CR W σ) {g : Nat → Int32} (e : ∀ j, j < 48 → s 49 j = g (48 * 0 + j)) (eo : ∀ i, (∀ q, q < 48 → i ≠ 48 * 0 + q) → g i = W.it i) (hr : pi_fr [49] s σ) : z_CR (W.sI 9 g) s := z_CR.mk (z_CK.mk (h.k.p.it0 e eo hr) (h.k.t.of2 (pi_fr_tr hr (by decide) pi_fr_rf))) ((hr 35 (by decide)).trans h.b) ((hr 36 (by decide)).trans h.y) ((congrFun (hr 33 (by decide)) 4).trans h.a) (fun k hk => (congrFun (hr 39 (by decide)) k).trans (h.jc k hk)) (fun k hk => (congrFun (hr 40 (by decide)) k).trans (h.jd k hk))
theorem z_CR.sheet1 {W : zW} {s σ : pi_S} (h : z_CR W σ) {f n : Nat} (hf : f < 3) (hn : n ≤ 48) (e1 : s 50 1 = nI f) (e2 : s 50 2 = nI n) (e3 : ∀ j, j < 48 → s 51 j = nI 0) (hr : pi_fr [50, 51] s σ) : z_CR ((((W.sF 8 (z_u W.th 1 1)).sF 4 (z_u W.fo 1 f)).sF 5 (z_u W.si 1 n)).sI 9 (z_c48 1 48 W.it)) s := z_CR.mk (z_CK.mk (h.k.p.sheet1 hf hn e1 e2 e3 hr) (h.k.t.of2 (pi_fr_tr hr (by decide) pi_fr_rf))) ((hr 35 (by decide)).trans h.b) ((hr 36 (by decide)).trans h.y) ((congrFun (hr 33 (by decide)) 4).trans h.a) (fun k hk => (congrFun (hr 39 (by decide)) k).trans (h.jc k hk)) (fun k hk => (congrFun (hr 40 (by decide)) k).trans (h.jd k hk))
theorem z_CR.lose1 {W : zW} {s σ : pi_S} (h : z_CR W σ) (e1 : s 50 1 = σ 50 1) (e2 : s 50 2 = -1) (hr : pi_fr [50] s σ) : z_CR (W.sF 8 (z_u W.th 1 0)) s := z_CR.mk (z_CK.mk (h.k.p.lose1 e1 e2 hr) (h.k.t.of2 (pi_fr_tr hr (by decide) pi_fr_rf))) ((hr 35 (by decide)).trans h.b) ((hr 36 (by decide)).trans h.y) ((congrFun (hr 33 (by decide)) 4).trans h.a) (fun k hk => (congrFun (hr 39 (by decide)) k).trans (h.jc k hk)) (fun k hk => (congrFun (hr 40 (by decide)) k).trans (h.jd k hk))
theorem z_CR.it1 {W : zW} {s σ : pi_S} (h : z_CR W σ) {g : Nat → Int32} (e : ∀ j, j < 48 → s 51 j = g (48 * 1 + j)) (eo : ∀ i, (∀ q, q < 48 → i ≠ 48 * 1 + q) → g i = W.it i) (hr : pi_fr [51] s σ) : z_CR (W.sI 9 g) s := z_CR.mk (z_CK.mk (h.k.p.it1 e eo hr) (h.k.t.of2 (pi_fr_tr hr (by decide) pi_fr_rf))) ((hr 35 (by decide)).trans h.b) ((hr 36 (by decide)).trans h.y) ((congrFun (hr 33 (by decide)) 4).trans h.a) (fun k hk => (congrFun (hr 39 (by decide)) k).trans (h.jc k hk)) (fun k hk => (congrFun (hr 40 (by decide)) k).trans (h.jd k hk))
theorem z_CR.sheet2 {W : zW} {s σ : pi_S} (h : z_CR W σ) {f n : Nat} (hf : f < 3) (hn : n ≤ 48) (e1 : s 52 1 = nI f) (e2 : s 52 2 = nI n) (e3 : ∀ j, j < 48 → s 53 j = nI 0) (hr : pi_fr [52, 53] s σ) : z_CR ((((W.sF 8 (z_u W.th 2 1)).sF 4 (z_u W.fo 2 f)).sF 5 (z_u W.si 2 n)).sI 9 (z_c48 2 48 W.it)) s := z_CR.mk (z_CK.mk (h.k.p.sheet2 hf hn e1 e2 e3 hr) (h.k.t.of2 (pi_fr_tr hr (by decide) pi_fr_rf))) ((hr 35 (by decide)).trans h.b) ((hr 36 (by decide)).trans h.y) ((congrFun (hr 33 (by decide)) 4).trans h.a) (fun k hk => (congrFun (hr 39 (by decide)) k).trans (h.jc k hk)) (fun k hk => (congrFun (hr 40 (by decide)) k).trans (h.jd k hk))
theorem z_CR.lose2 {W : zW} {s σ : pi_S} (h : z_CR W σ) (e1 : s 52 1 = σ 52 1) (e2 : s 52 2 = -1) (hr : pi_fr [52] s σ) : z_CR (W.sF 8 (z_u W.th 2 0)) s := z_CR.mk (z_CK.mk (h.k.p.lose2 e1 e2 hr) (h.k.t.of2 (pi_fr_tr hr (by decide) pi_fr_rf))) ((hr 35 (by decide)).trans h.b) ((hr 36 (by decide)).trans h.y) ((congrFun (hr 33 (by decide)) 4).trans h.a) (fun k hk => (congrFun (hr 39 (by decide)) k).trans (h.jc k hk)) (fun k hk => (congrFun (hr 40 (by decide)) k).trans (h.jd k hk))
theorem z_CR.it2 {W : zW} {s σ : pi_S} (h : z_CR W σ) {g : Nat → Int32} (e : ∀ j, j < 48 → s 53 j = g (48 * 2 + j)) (eo : ∀ i, (∀ q, q < 48 → i ≠ 48 * 2 + q) → g i = W.it i) (hr : pi_fr [53] s σ) : z_CR (W.sI 9 g) s := z_CR.mk (z_CK.mk (h.k.p.it2 e eo hr) (h.k.t.of2 (pi_fr_tr hr (by decide) pi_fr_rf))) ((hr 35 (by decide)).trans h.b) ((hr 36 (by decide)).trans h.y) ((congrFun (hr 33 (by decide)) 4).trans h.a) (fun k hk => (congrFun (hr 39 (by decide)) k).trans (h.jc k hk)) (fun k hk => (congrFun (hr 40 (by decide)) k).trans (h.jd k hk))
theorem z_CR.sheet3 {W : zW} {s σ : pi_S} (h : z_CR W σ) {f n : Nat} (hf : f < 3) (hn : n ≤ 48) (e1 : s 54 1 = nI f) (e2 : s 54 2 = nI n) (e3 : ∀ j, j < 48 → s 55 j = nI 0) (hr : pi_fr [54, 55] s σ) : z_CR ((((W.sF 8 (z_u W.th 3 1)).sF 4 (z_u W.fo 3 f)).sF 5 (z_u W.si 3 n)).sI 9 (z_c48 3 48 W.it)) s := z_CR.mk (z_CK.mk (h.k.p.sheet3 hf hn e1 e2 e3 hr) (h.k.t.of2 (pi_fr_tr hr (by decide) pi_fr_rf))) ((hr 35 (by decide)).trans h.b) ((hr 36 (by decide)).trans h.y) ((congrFun (hr 33 (by decide)) 4).trans h.a) (fun k hk => (congrFun (hr 39 (by decide)) k).trans (h.jc k hk)) (fun k hk => (congrFun (hr 40 (by decide)) k).trans (h.jd k hk))
theorem z_CR.lose3 {W : zW} {s σ : pi_S} (h : z_CR W σ) (e1 : s 54 1 = σ 54 1) (e2 : s 54 2 = -1) (hr : pi_fr [54] s σ) : z_CR (W.sF 8 (z_u W.th 3 0)) s := z_CR.mk (z_CK.mk (h.k.p.lose3 e1 e2 hr) (h.k.t.of2 (pi_fr_tr hr (by decide) pi_fr_rf))) ((hr 35 (by decide)).trans h.b) ((hr 36 (by decide)).trans h.y) ((congrFun (hr 33 (by decide)) 4).trans h.a) (fun k hk => (congrFun (hr 39 (by decide)) k).trans (h.jc k hk)) (fun k hk => (congrFun (hr 40 (by decide)) k).trans (h.jd k hk))
theorem z_CR.it3 {W : zW} {s σ : pi_S} (h : z_CR W σ) {g : Nat → Int32} (e : ∀ j, j < 48 → s 55 j = g (48 * 3 + j)) (eo : ∀ i, (∀ q, q < 48 → i ≠ 48 * 3 + q) → g i = W.it i) (hr : pi_fr [55] s σ) : z_CR (W.sI 9 g) s := z_CR.mk (z_CK.mk (h.k.p.it3 e eo hr) (h.k.t.of2 (pi_fr_tr hr (by decide) pi_fr_rf))) ((hr 35 (by decide)).trans h.b) ((hr 36 (by decide)).trans h.y) ((congrFun (hr 33 (by decide)) 4).trans h.a) (fun k hk => (congrFun (hr 39 (by decide)) k).trans (h.jc k hk)) (fun k hk => (congrFun (hr 40 (by decide)) k).trans (h.jd k hk))
theorem pi_aq {xs : Nat → Int32} {L d m pc pc' : Nat} {l l' : pi_L} {st t : List Value} {σ σ' : pi_S} {Q : Option Value → pi_S → Prop} (k : Nat) {u n a c : Nat} (h : ∀ f, pi_run xs L (f + k) d m pc l st σ = @ite _ (vp_in (nI u) n) (pi_dec (nI u) n) (pi_run xs L f d m pc' l' (.ref (pi_rf a (nI u).toNatClampNeg - 1) :: t) σ') none) (hu : u < n) (hb : n < 2 ^ 31) (hc : pi_rf a u - 1 = c)
    (hn : pi_wp xs L d m pc' l' (.ref c :: t) σ' Q) : pi_wp xs L d m pc l st σ Q := by
  refine pi_gd k h (vp_in_nI hu hb) ?_
  rw [nI_clamp (Nat.lt_trans hu hb), hc]
  exact hn
def z_hr (z : Nat) (i n : Int32) : Prop := ∃ a c, i = nI a ∧ n = nI c ∧ a + c ≤ z
theorem z_sz_t {W : zW} {k : Nat} (h : W.th k = 0) : z_sz W k = -1 := if_pos h
theorem z_sz_f {W : zW} {k : Nat} (h : ¬ W.th k = 0) : z_sz W k = nI (W.si k) := if_neg h
theorem z_subI {a b : Nat} (h : b ≤ a) (ha : a < 2 ^ 30) : nI a - nI b = nI (a - b) := by
  apply Int32.toInt_inj.mp
  rw [pk_sub_toInt ha (by omega), nI_toInt (by omega)]
  omega
theorem z_hr_t {z : Nat} {i n : Int32} (hz : z ≤ 48) (h1 : ¬ i < 0) (h2 : ¬ n < 0) (h3 : n ≤ nI z) (h4 : i ≤ nI z - n) : z_hr z i n := by
  obtain ⟨a, ha, rfl⟩ := z_nnI h1
  obtain ⟨c, hc, rfl⟩ := z_nnI h2
  have h5 := (nI_leI (by omega) (by omega)).mp h3
  rw [z_subI h5 (by omega)] at h4
  have h6 := (nI_leI (by omega) (by omega)).mp h4
  exact ⟨a, c, rfl, rfl, by omega⟩
theorem z_hr_1 {z : Nat} {i n : Int32} (hz : z ≤ 48) (h : i < 0) : ¬ z_hr z i n := by
  rintro ⟨a, c, rfl, rfl, q⟩
  exact z_ltz (by omega) h
theorem z_hr_2 {z : Nat} {i n : Int32} (hz : z ≤ 48) (h : n < 0) : ¬ z_hr z i n := by
  rintro ⟨a, c, rfl, rfl, q⟩
  exact z_ltz (by omega) h
theorem z_hr_3 {z : Nat} {i n : Int32} (hz : z ≤ 48) (h : nI z < n) : ¬ z_hr z i n := by
  rintro ⟨a, c, rfl, rfl, q⟩
  have := (nI_ltI (by omega) (by omega)).mp h
  omega
theorem z_hr_4 {z : Nat} {i n : Int32} (hz : z ≤ 48) (h : nI z - n < i) : ¬ z_hr z i n := by
  rintro ⟨a, c, rfl, rfl, q⟩
  rw [z_subI (by omega) (by omega)] at h
  have := (nI_ltI (by omega) (by omega)).mp h
  omega
theorem z_cp_hr {W : zW} {ks kt : Nat} {i j n : Int32} (hs : W.si ks ≤ 48) (ht : W.si kt ≤ 48) (h1 : z_hr (W.si ks) i n) (h2 : z_hr (W.si kt) j n) : z_cp W ks kt i j n := by
  obtain ⟨a, c, e1, e2, q⟩ := h1
  obtain ⟨b, c', e3, e4, q'⟩ := h2
  have := (nI_eq (by omega) (by omega)).mp (e2.symm.trans e4)
  exact ⟨a, b, c, e1, e3, e2, q, by omega⟩
theorem z_cpl_at (g f : Nat → Int32) (p r : Nat) : ∀ n i, pi_lp (fun q f => upd f (r + q) (g (p + q))) n f i = if r ≤ i ∧ i < r + n then g (p + (i - r)) else f i := by
  intro n
  induction n with
  | zero => intro i; rw [if_neg (by omega)]; rfl
  | succ n ih =>
    intro i
    show upd (pi_lp (fun q f => upd f (r + q) (g (p + q))) n f) (r + n) (g (p + n)) i = _
    by_cases q : i = r + n
    · rw [q, z_upd_s, if_pos (by omega), show r + n - r = n by omega]
    · rw [z_upd_n _ _ q, ih i]
      by_cases w : r ≤ i ∧ i < r + n
      · rw [if_pos w, if_pos (by omega)]
      · rw [if_neg w, if_neg (by omega)]
theorem z_wr_s (W : zW) (k : Nat) (F : Nat → Int32) (n : Nat) : z_wr W k F (n + 1) = upd (z_wr W k F n) (48 * k + n) (z_nar (W.fo k) (z_all F n)) := rfl
theorem z_wr_o {W : zW} {k : Nat} {F : Nat → Int32} : ∀ n, n ≤ 48 → ∀ i, (∀ q, q < 48 → i ≠ 48 * k + q) → z_wr W k F n i = W.it i := by
  intro n
  induction n with
  | zero => intro _ i _; rfl
  | succ n ih =>
    intro hn i h
    rw [z_wr_s, z_upd_n _ _ (h n (by omega)), ih (by omega) i h]
theorem z_wr_st {W : zW} {k : Nat} {F f : Nat → Int32} {n : Nat} {x : Int32} (hx : x = z_nar (W.fo k) (z_all F n)) (h : ∀ j, j < 48 → f j = z_wr W k F n (48 * k + j)) : ∀ j, j < 48 → upd f n x j = z_wr W k F (n + 1) (48 * k + j) := by
  intro j hj
  rw [z_wr_s, hx]
  by_cases q : j = n
  · rw [q, z_upd_s, z_upd_s]
  · rw [z_upd_n _ _ q, z_upd_n _ _ (by omega), h j hj]
