/-! the texts, read by the class -/
def z_TX (W : zW) (σ : pi_S) : Prop :=
  (σ 2 2 = nI W.n0) ∧ (σ 4 2 = nI W.n1) ∧ (∀ k, k < W.n0 → σ 3 k = W.tx (0 + k)) ∧ (∀ k, k < W.n1 → σ 5 k = W.tx (40 + k))
theorem z_TX.n0 {W : zW} {σ : pi_S} (h : z_TX W σ) : σ 2 2 = nI W.n0 := h.1
theorem z_TX.n1 {W : zW} {σ : pi_S} (h : z_TX W σ) : σ 4 2 = nI W.n1 := h.2.1
theorem z_TX.t0 {W : zW} {σ : pi_S} (h : z_TX W σ) : ∀ k, k < W.n0 → σ 3 k = W.tx (0 + k) := h.2.2.1
theorem z_TX.t1 {W : zW} {σ : pi_S} (h : z_TX W σ) : ∀ k, k < W.n1 → σ 5 k = W.tx (40 + k) := h.2.2.2
theorem z_TX.mk {W : zW} {σ : pi_S} (n0 : σ 2 2 = nI W.n0) (n1 : σ 4 2 = nI W.n1) (t0 : ∀ k, k < W.n0 → σ 3 k = W.tx (0 + k)) (t1 : ∀ k, k < W.n1 → σ 5 k = W.tx (40 + k)) : z_TX W σ := ⟨n0, n1, t0, t1⟩
theorem z_TX.of {W : zW} {s σ : pi_S} (h : z_TX W σ) (hr : pi_fr [1, 6, 7, 8, 9, 10, 11] s σ) : z_TX W s := z_TX.mk
  (n0 := (congrFun (hr 2 (by decide)) 2).trans h.n0)
  (n1 := (congrFun (hr 4 (by decide)) 2).trans h.n1)
  (t0 := fun k hk1 => by
    rw [hr 3 (by decide)]
    exact h.t0 k hk1)
  (t1 := fun k hk1 => by
    rw [hr 5 (by decide)]
    exact h.t1 k hk1)
/-- whether the byte at a place may stand there -/
def z_go (W : zW) (p : Nat) : Prop := if p % 3 = 2 then W.tx (40 + p) = nI 59 else if p % 3 = 0 then z_sA W.n1 (fun k => W.tx (40 + k)) W.nd (p / 3) ∧ p / 3 < 12 else z_sB W.n1 (fun k => W.tx (40 + k)) W.hh W.nd (p / 3)
theorem z_go2 {W : zW} {p : Nat} (h : p % 3 = 2) : z_go W p ↔ W.tx (40 + p) = nI 59 := by
  unfold z_go
  rw [if_pos h]
theorem z_go0 {W : zW} {p : Nat} (h : p % 3 = 0) : z_go W p ↔ (∃ a, a < W.nd ∧ z_fg W.n1 (fun k => W.tx (40 + k)) p = nI a) ∧ p / 3 < 12 := by
  unfold z_go z_sA
  rw [if_neg (by omega), if_pos h, show 3 * (p / 3) = p by omega]
theorem z_go1 {W : zW} {p : Nat} (h : ¬ p % 3 = 2) (h0 : ¬ p % 3 = 0) : z_go W p ↔ ∃ a b, a < W.nd ∧ b < W.nd ∧ z_fg W.n1 (fun k => W.tx (40 + k)) (p - 1) = nI a ∧ z_fg W.n1 (fun k => W.tx (40 + k)) p = nI b ∧ W.hh b < W.hh a := by
  unfold z_go z_sB
  rw [if_neg h, if_neg h0, show 3 * (p / 3) = p - 1 by omega, show p - 1 + 1 = p by omega]
theorem z_goA {W : zW} {p : Nat} (h : ¬ p % 3 = 2) (hg : z_go W p) : ∃ a, a < W.nd ∧ z_fg W.n1 (fun k => W.tx (40 + k)) p = nI a := by
  by_cases h0 : p % 3 = 0
  · exact ((z_go0 h0).mp hg).1
  · obtain ⟨a, b, h1, h2, h3, h4, h5⟩ := (z_go1 h h0).mp hg
    exact ⟨b, h2, h4⟩
theorem z_go_C {W : zW} {i j : Nat} (h : ∀ q, q < i → z_go W q) (hi : i < W.n1 ∨ 3 * j + 3 ≤ W.n1) (hj : 3 * j + 2 < i) : z_sC W.n1 (fun k => W.tx (40 + k)) W.hh W.nd j := by
  have h1 := (z_go1 (by omega) (by omega)).mp (h (3 * j + 1) (by omega))
  have h2 := (z_go2 (by omega)).mp (h (3 * j + 2) hj)
  rw [show 3 * j + 1 - 1 = 3 * j by omega] at h1
  exact ⟨h1, by omega, h2⟩
theorem z_go_12 {W : zW} {i j : Nat} (h : ∀ q, q < i → z_go W q) (hj : 3 * j < i) : j < 12 := by
  have := ((z_go0 (by omega)).mp (h (3 * j) hj)).2
  omega
theorem z_go_stop {W : zW} (hk : z_wk W) {i : Nat} (hi : i < W.n1) (h : ∀ q, q < i → z_go W q) (hn : ¬ z_go W i) : W.f1 = nI i := by
  have hj : i / 3 ≤ 12 := by
    rcases Nat.lt_or_ge 12 (i / 3) with q | q
    · exact absurd (z_go_12 h (j := 12) (by omega)) (by omega)
    · exact q
  have hp : ∀ j, j < i / 3 → z_sC W.n1 (fun k => W.tx (40 + k)) W.hh W.nd j := fun j hj => z_go_C h (Or.inl hi) (by omega)
  have r : i % 3 = 0 ∨ i % 3 = 1 ∨ i % 3 = 2 := by omega
  rcases r with r | r | r
  · have e : z_sE W.n1 (fun k => W.tx (40 + k)) W.hh W.nd (i / 3) 0 (nI (3 * (i / 3))) := by
      refine Or.inl ⟨?_, rfl, rfl⟩
      by_cases q : i / 3 = 12
      · exact Or.inl q
      · refine Or.inr (fun w => hn ((z_go0 r).mpr ⟨?_, by omega⟩))
        obtain ⟨a, h1, h2⟩ := w
        rw [show 3 * (i / 3) = i by omega] at h2
        exact ⟨a, h1, h2⟩
    rw [(z_sr_at hk.wd.sr (by omega) hj hp e).2, show 3 * (i / 3) = i by omega]
  · have g0 := (z_go0 (by omega)).mp (h (3 * (i / 3)) (by omega))
    have e : z_sE W.n1 (fun k => W.tx (40 + k)) W.hh W.nd (i / 3) 0 (nI (3 * (i / 3) + 1)) := by
      refine Or.inr (Or.inl ⟨by omega, g0.1, fun w => hn ((z_go1 (by omega) (by omega)).mpr ?_), rfl, rfl⟩)
      obtain ⟨a, b, h1, h2, h3, h4, h5⟩ := w
      rw [show 3 * (i / 3) + 1 = i by omega] at h4
      rw [show 3 * (i / 3) = i - 1 by omega] at h3
      exact ⟨a, b, h1, h2, h3, h4, h5⟩
    rw [(z_sr_at hk.wd.sr (by omega) hj hp e).2, show 3 * (i / 3) + 1 = i by omega]
  · have g0 := (z_go0 (by omega)).mp (h (3 * (i / 3)) (by omega))
    have g1 := (z_go1 (by omega) (by omega)).mp (h (3 * (i / 3) + 1) (by omega))
    rw [show 3 * (i / 3) + 1 - 1 = 3 * (i / 3) by omega] at g1
    have e : z_sE W.n1 (fun k => W.tx (40 + k)) W.hh W.nd (i / 3) 0 (nI (3 * (i / 3) + 2)) := by
      refine Or.inr (Or.inr (Or.inr ⟨by omega, g1, by omega, fun w => hn ((z_go2 r).mpr ?_), rfl, rfl⟩))
      rw [← w, show 3 * (i / 3) + 2 = i by omega]
    rw [(z_sr_at hk.wd.sr (by omega) hj hp e).2, show 3 * (i / 3) + 2 = i by omega]
theorem z_fg_end {n : Nat} {f : Nat → Int32} {k a : Nat} (h : n ≤ k) (ha : a < 2 ^ 31) : ¬ z_fg n f k = nI a := by
  unfold z_fg
  rw [if_neg (by omega)]
  exact fun q => z_nIm a ha q.symm
theorem z_go_end {W : zW} (hk : z_wk W) (h : ∀ q, q < W.n1 → z_go W q) : W.f1 = if W.n1 = 0 ∨ W.n1 % 3 = 2 then -1 else nI W.n1 := by
  have h40 := hk.wd.n1
  have hnd8 := hk.wd.nd8
  by_cases h0 : W.n1 = 0
  · rw [if_pos (Or.inl h0)]
    rcases hk.wd.sr with ⟨-, e, -⟩ | ⟨q, -⟩
    · exact e
    · omega
  have hj : W.n1 / 3 ≤ 12 := by
    rcases Nat.lt_or_ge 12 (W.n1 / 3) with q | q
    · exact absurd (z_go_12 h (j := 12) (by omega)) (by omega)
    · exact q
  have hp : ∀ j, j < W.n1 / 3 → z_sC W.n1 (fun k => W.tx (40 + k)) W.hh W.nd j := fun j hj => z_go_C h (Or.inr (by omega)) (by omega)
  have r : W.n1 % 3 = 0 ∨ W.n1 % 3 = 1 ∨ W.n1 % 3 = 2 := by omega
  rcases r with r | r | r
  · have e : z_sE W.n1 (fun k => W.tx (40 + k)) W.hh W.nd (W.n1 / 3) 0 (nI (3 * (W.n1 / 3))) := Or.inl ⟨Or.inr (fun ⟨a, h1, h2⟩ => z_fg_end (by omega) (by omega) h2), rfl, rfl⟩
    rw [if_neg (by omega), (z_sr_at hk.wd.sr (by omega) hj hp e).2, show 3 * (W.n1 / 3) = W.n1 by omega]
  · have g0 := (z_go0 (by omega)).mp (h (3 * (W.n1 / 3)) (by omega))
    have e : z_sE W.n1 (fun k => W.tx (40 + k)) W.hh W.nd (W.n1 / 3) 0 (nI (3 * (W.n1 / 3) + 1)) := by
      refine Or.inr (Or.inl ⟨by omega, g0.1, ?_, rfl, rfl⟩)
      rintro ⟨a, b, h1, h2, h3, h4, h5⟩
      exact z_fg_end (by omega) (by omega) h4
    rw [if_neg (by omega), (z_sr_at hk.wd.sr (by omega) hj hp e).2, show 3 * (W.n1 / 3) + 1 = W.n1 by omega]
  · have g0 := (z_go0 (by omega)).mp (h (3 * (W.n1 / 3)) (by omega))
    have g1 := (z_go1 (by omega) (by omega)).mp (h (3 * (W.n1 / 3) + 1) (by omega))
    rw [show 3 * (W.n1 / 3) + 1 - 1 = 3 * (W.n1 / 3) by omega] at g1
    have e : z_sE W.n1 (fun k => W.tx (40 + k)) W.hh W.nd (W.n1 / 3) (W.n1 / 3 + 1) (-1) := Or.inr (Or.inr (Or.inl ⟨by omega, g1, by omega, rfl, rfl⟩))
    rw [if_pos (Or.inr r), (z_sr_at hk.wd.sr (by omega) hj hp e).2]
theorem z_dr_c {n nd : Nat} {f : Nat → Int32} {flt : Int32} (h : z_dr n f nd flt) (hn : n ≤ 8) : (flt = -1 → nd = n) ∧ (¬ flt = -1 → nd = 0) := by
  rcases h with ⟨k, hk, -, -, e, q⟩ | ⟨-, e, q⟩
  · exact ⟨fun w => absurd (e.symm.trans w) (z_nIm k (by omega)), fun _ => q⟩
  · exact ⟨fun _ => q, fun w => absurd e w⟩
theorem z_sr_n {n nd ns : Nat} {f h : Nat → Int32} {flt : Int32} (q : z_sr n f h nd ns flt) (hn : n ≤ 40) : (flt = -1 → ns = (n + 1) / 3) ∧ (¬ flt = -1 → ns = 0) := by
  rcases q with ⟨h0, e, w⟩ | ⟨-, J, hJ, -, hE⟩
  · exact ⟨fun _ => by omega, fun z => absurd e z⟩
  · rcases hE with ⟨-, e, w⟩ | ⟨-, -, -, e, w⟩ | ⟨-, -, a, e, w⟩ | ⟨-, -, -, -, e, w⟩
    · exact ⟨fun z => absurd (e.symm.trans z) (z_nIm _ (by omega)), fun _ => w⟩
    · exact ⟨fun z => absurd (e.symm.trans z) (z_nIm _ (by omega)), fun _ => w⟩
    · exact ⟨fun _ => by omega, fun z => absurd e z⟩
    · exact ⟨fun z => absurd (e.symm.trans z) (z_nIm _ (by omega)), fun _ => w⟩
theorem z_ns3 {W : zW} (hk : z_wk W) : 3 * W.ns ≤ W.n1 + 1 := by
  have h := z_sr_n hk.wd.sr hk.wd.n1
  by_cases q : W.f1 = -1
  · have := h.1 q; omega
  · have := h.2 q; omega
/-! the orders -/
theorem z_od1_p {h : Nat → Int32} {v n : Nat} {s : (Nat → Nat) × Nat} (e : h n = nI v) : pi_lp (z_od1 h v) (n + 1) s = (z_u (pi_lp (z_od1 h v) n s).1 (pi_lp (z_od1 h v) n s).2 n, (pi_lp (z_od1 h v) n s).2 + 1) := if_pos e
theorem z_od1_n {h : Nat → Int32} {v n : Nat} {s : (Nat → Nat) × Nat} (e : ¬ h n = nI v) : pi_lp (z_od1 h v) (n + 1) s = pi_lp (z_od1 h v) n s := if_neg e
theorem z_os1_p {up : Nat → Nat} {v n : Nat} {s : (Nat → Nat) × Nat} (e : up n = v) : pi_lp (z_os1 up v) (n + 1) s = (z_u (pi_lp (z_os1 up v) n s).1 (pi_lp (z_os1 up v) n s).2 n, (pi_lp (z_os1 up v) n s).2 + 1) := if_pos e
theorem z_os1_n {up : Nat → Nat} {v n : Nat} {s : (Nat → Nat) × Nat} (e : ¬ up n = v) : pi_lp (z_os1 up v) (n + 1) s = pi_lp (z_os1 up v) n s := if_neg e
theorem z_od_st {f : Nat → Int32} {t : (Nat → Nat) × Nat} {d nd : Nat} (h : ∀ q, q < t.2 → f q = nI (t.1 q) ∧ t.1 q < nd) (hd : d < nd) : ∀ q, q < t.2 + 1 → upd f t.2 (nI d) q = nI (z_u t.1 t.2 d q) ∧ z_u t.1 t.2 d q < nd := by
  intro q hq
  by_cases e : q = t.2
  · rw [e, z_upd_s, z_u_s]
    exact ⟨rfl, hd⟩
  · rw [z_upd_n _ _ e, z_u_n _ _ e]
    exact h q (by omega)
theorem z_cn_lt1 {p : Nat → Bool} {k : Nat} (h : p k = true) : ∀ n, k < n → z_cn p k + 1 ≤ z_cn p n := by
  intro n
  induction n with
  | zero => intro q; omega
  | succ n ih =>
    intro hk
    rw [z_cn_s]
    rcases Nat.lt_or_eq_of_le (Nat.lt_succ_iff.mp hk) with q | q
    · have := ih q
      cases p n
      · exact this
      · show z_cn p k + 1 ≤ z_cn p n + 1; omega
    · rw [← q, h]; exact Nat.le_refl _
theorem z_od_lt {W : zW} (hk : z_wk W) {i d : Nat} (hi : i < 10) (hd : d < W.nd) (e : W.hh d = nI (10 - (i + 1))) : (pi_lp (z_od1 W.hh (10 - (i + 1))) d (z_od W.hh W.nd i)).2 < 8 := by
  have h8 := hk.wd.nd8
  have h1 := z_od_cnt2 W.hh W.nd (i + 1) (by omega)
  have h2 : (z_od W.hh W.nd (i + 1)).2 = (z_od W.hh W.nd i).2 + z_cn (fun k => decide (W.hh k = nI (10 - (i + 1)))) W.nd := z_od_cnt W.hh (10 - (i + 1)) W.nd (z_od W.hh W.nd i)
  have h3 := z_od_cnt W.hh (10 - (i + 1)) d (z_od W.hh W.nd i)
  have h4 := z_cn_lt1 (p := fun k => decide (W.hh k = nI (10 - (i + 1)))) (decide_eq_true e) W.nd hd
  have h5 := z_cn_le (z_ge W.hh (i + 1)) W.nd
  omega
theorem z_os_mono (up : Nat → Nat) (ns : Nat) (dd : Nat → Nat) {a b : Nat} (h : a ≤ b) : (z_os up ns dd a).2 ≤ (z_os up ns dd b).2 := by
  induction b with
  | zero => rw [show a = 0 by omega]; exact Nat.le_refl _
  | succ b ih =>
    rcases Nat.lt_or_eq_of_le h with q | q
    · have h2 : (z_os up ns dd (b + 1)).2 = (z_os up ns dd b).2 + z_cn (fun k => decide (up k = dd b)) ns := z_os_cnt up (dd b) ns (z_os up ns dd b)
      have := ih (by omega)
      omega
    · rw [q]; exact Nat.le_refl _
theorem z_os_lt {W : zW} (hk : z_wk W) {i k : Nat} (hi : i < W.nd) (hk2 : k < W.ns) (e : W.up k = z_dd W i) : (pi_lp (z_os1 W.up (z_dd W i)) k (z_os W.up W.ns (z_dd W) i)).2 < 12 := by
  have h8 := hk.wd.ns12
  have h1 := z_os_n hk
  have h2 : (z_os W.up W.ns (z_dd W) (i + 1)).2 = (z_os W.up W.ns (z_dd W) i).2 + z_cn (fun k => decide (W.up k = z_dd W i)) W.ns := z_os_cnt W.up (z_dd W i) W.ns (z_os W.up W.ns (z_dd W) i)
  have h3 := z_os_cnt W.up (z_dd W i) k (z_os W.up W.ns (z_dd W) i)
  have h4 := z_cn_lt1 (p := fun k => decide (W.up k = z_dd W i)) (decide_eq_true e) W.ns hk2
  have h5 := z_os_mono W.up W.ns (z_dd W) (show i + 1 ≤ W.nd by omega)
  omega
theorem z_od1_keep {h : Nat → Int32} {v e : Nat} (n : Nat) (t : (Nat → Nat) × Nat) (q : ∃ j, j < t.2 ∧ t.1 j = e) : ∃ j, j < (pi_lp (z_od1 h v) n t).2 ∧ (pi_lp (z_od1 h v) n t).1 j = e := by
  refine pi_lp_ind (P := fun (s : (Nat → Nat) × Nat) => ∃ j, j < s.2 ∧ s.1 j = e) n (fun i _ s hs => ?_) t q
  obtain ⟨j, hj, hs⟩ := hs
  unfold z_od1
  split
  · exact ⟨j, by show j < s.2 + 1; omega, (z_u_n _ _ (by omega)).trans hs⟩
  · exact ⟨j, hj, hs⟩
theorem z_od1_has {h : Nat → Int32} {v e : Nat} (he : h e = nI v) (t : (Nat → Nat) × Nat) : ∀ n, e < n → ∃ j, j < (pi_lp (z_od1 h v) n t).2 ∧ (pi_lp (z_od1 h v) n t).1 j = e := by
  intro n
  induction n with
  | zero => intro q; omega
  | succ n ih =>
    intro q
    rcases Nat.lt_or_eq_of_le (Nat.lt_succ_iff.mp q) with w | w
    · have := z_od1_keep (h := h) (v := v) 1 (pi_lp (z_od1 h v) n t) (ih w)
      by_cases z : h n = nI v
      · obtain ⟨j, hj, hs⟩ := ih w
        rw [z_od1_p z]
        exact ⟨j, by show j < _ + 1; omega, (z_u_n _ _ (by omega)).trans hs⟩
      · rw [z_od1_n z]
        exact ih w
    · subst w
      rw [z_od1_p he]
      exact ⟨_, Nat.lt_succ_self _, z_u_s _ _ _⟩
theorem z_od_has {W : zW} (hk : z_wk W) {e : Nat} (he : e < W.nd) : ∃ j, j < W.nd ∧ z_dd W j = e := by
  obtain ⟨a, ha, hh⟩ := z_hh_fig hk he
  have key : ∀ n, 9 - a < n → ∃ j, j < (z_od W.hh W.nd n).2 ∧ (z_od W.hh W.nd n).1 j = e := by
    intro n
    induction n with
    | zero => intro q; omega
    | succ n ih =>
      intro q
      rcases Nat.lt_or_eq_of_le (Nat.lt_succ_iff.mp q) with w | w
      · exact z_od1_keep W.nd _ (ih w)
      · refine z_od1_has (v := 10 - (n + 1)) ?_ (z_od W.hh W.nd n) W.nd he
        rw [hh, show 10 - (n + 1) = a by omega]
  have := key 10 (by omega)
  rw [z_od_n hk] at this
  exact this
/-- the least street down from a door, looked at from the front -/
def z_ff (up : Nat → Nat) (d n : Nat) : Int32 := pi_lp (fun k a => if up k = d then (if a = -1 then nI k else a) else a) n (-1)
theorem z_ff_s (up : Nat → Nat) (d n : Nat) : z_ff up d (n + 1) = if up n = d then (if z_ff up d n = -1 then nI n else z_ff up d n) else z_ff up d n := rfl
theorem z_ff_is (up : Nat → Nat) (d : Nat) : ∀ n, n ≤ 12 → (z_ff up d n = -1 ∧ ∀ k, k < n → up k ≠ d) ∨ ∃ m, m < n ∧ up m = d ∧ (∀ k, k < m → up k ≠ d) ∧ z_ff up d n = nI m := by
  intro n
  induction n with
  | zero => intro _; exact Or.inl ⟨rfl, fun k hk => absurd hk (Nat.not_lt_zero k)⟩
  | succ n ih =>
    intro hn
    rw [z_ff_s]
    rcases ih (by omega) with ⟨h1, h2⟩ | ⟨m, h1, h2, h3, h4⟩
    · by_cases q : up n = d
      · rw [if_pos q, if_pos h1]
        exact Or.inr ⟨n, by omega, q, h2, rfl⟩
      · rw [if_neg q]
        refine Or.inl ⟨h1, fun k hk => ?_⟩
        rcases Nat.lt_or_eq_of_le (Nat.lt_succ_iff.mp hk) with w | w
        · exact h2 k w
        · rw [w]; exact q
    · have hne : ¬ z_ff up d n = -1 := by rw [h4]; exact z_nIm m (by omega)
      refine Or.inr ⟨m, by omega, h2, h3, ?_⟩
      rw [if_neg hne, h4]
      exact ite_self _
theorem z_fi_is (up : Nat → Nat) (d n : Nat) : ∀ i, i ≤ n → (z_fi up d n i = n ∧ ∀ k, n - i ≤ k → k < n → up k ≠ d) ∨ (n - i ≤ z_fi up d n i ∧ z_fi up d n i < n ∧ up (z_fi up d n i) = d ∧ ∀ k, n - i ≤ k → k < z_fi up d n i → up k ≠ d) := by
  intro i
  induction i with
  | zero => intro _; exact Or.inl ⟨rfl, fun k h1 h2 => absurd h2 (by omega)⟩
  | succ i ih =>
    intro hi
    rw [z_fi_s]
    by_cases q : up (n - (i + 1)) = d
    · rw [if_pos q]
      exact Or.inr ⟨Nat.le_refl _, by omega, q, fun k h1 h2 => absurd h2 (by omega)⟩
    · rw [if_neg q]
      have ext : ∀ (P : Nat → Prop), (∀ k, n - i ≤ k → P k → up k ≠ d) → ∀ k, n - (i + 1) ≤ k → P k → up k ≠ d := by
        intro P h k h1 h2
        by_cases w : k = n - (i + 1)
        · rw [w]; exact q
        · exact h k (by omega) h2
      rcases ih (by omega) with ⟨h1, h2⟩ | ⟨h1, h2, h3, h4⟩
      · exact Or.inl ⟨h1, ext _ h2⟩
      · exact Or.inr ⟨by omega, h2, h3, ext _ h4⟩
theorem z_ff_fi (up : Nat → Nat) (d : Nat) {n : Nat} (hn : n ≤ 12) : z_ff up d n = z_nv n (z_fi up d n n) := by
  rcases z_ff_is up d n hn with ⟨h1, h2⟩ | ⟨m, h1, h2, h3, h4⟩
  · rcases z_fi_is up d n n (Nat.le_refl n) with ⟨g1, -⟩ | ⟨-, g2, g3, -⟩
    · rw [h1, g1, z_nv, if_pos rfl]
    · exact absurd g3 (h2 _ g2)
  · rcases z_fi_is up d n n (Nat.le_refl n) with ⟨-, g1⟩ | ⟨-, g2, g3, g4⟩
    · exact absurd h2 (g1 m (by omega) h1)
    · have : z_fi up d n n = m := by
        rcases Nat.lt_trichotomy (z_fi up d n n) m with w | w | w
        · exact absurd g3 (h3 _ w)
        · exact w
        · exact absurd h2 (g4 m (by omega) w)
      rw [h4, this, z_nv, if_neg (by omega)]
theorem z_ff_t {up : Nat → Nat} {d n : Nat} (h : up n = d) (h2 : z_ff up d n = -1) : z_ff up d (n + 1) = nI n := by rw [z_ff_s, if_pos h, if_pos h2]
theorem z_ff_m {up : Nat → Nat} {d n : Nat} (h2 : ¬ z_ff up d n = -1) : z_ff up d (n + 1) = z_ff up d n := by
  rw [z_ff_s, if_neg h2]
  exact ite_self _
theorem z_ff_n {up : Nat → Nat} {d n : Nat} (h : ¬ up n = d) : z_ff up d (n + 1) = z_ff up d n := if_neg h
