/-! how much lies at most -/
def z_sum (g : Nat → Nat) (n : Nat) : Nat := pi_lp (fun k a => a + g k) n 0
theorem z_sum_s (g : Nat → Nat) (n : Nat) : z_sum g (n + 1) = z_sum g n + g n := rfl
theorem z_sum_u {g : Nat → Nat} {k v : Nat} : ∀ n, (n ≤ k → z_sum (z_u g k v) n = z_sum g n) ∧ (k < n → z_sum (z_u g k v) n + g k = z_sum g n + v) := by
  intro n
  induction n with
  | zero => exact ⟨fun _ => rfl, fun h => absurd h (Nat.not_lt_zero k)⟩
  | succ n ih =>
    refine ⟨fun h => ?_, fun h => ?_⟩
    · rw [z_sum_s, z_sum_s, ih.1 (by omega), z_u_n _ _ (show n ≠ k by omega)]
    · rw [z_sum_s, z_sum_s]
      by_cases q : n = k
      · rw [ih.1 (by omega), q, z_u_s]; omega
      · have := ih.2 (by omega)
        rw [z_u_n _ _ q]; omega
theorem z_sum_at (g : Nat → Nat) (k : Nat) : ∀ n, k < n → g k ≤ z_sum g n := by
  intro n
  induction n with
  | zero => intro h; omega
  | succ n ih =>
    intro h
    rw [z_sum_s]
    by_cases q : k = n
    · rw [q]; omega
    · have := ih (by omega); omega
def z_nn (s : zH) (T : Nat) : Prop := ∃ g : Nat → Nat, (∀ k, k < 40 → s.1 k = nI (g k)) ∧ z_sum g 40 ≤ T
theorem z_nn_upd {f : Nat → Int32} {g : Nat → Nat} {j v : Nat} {x : Int32} (h : ∀ k, k < 40 → f k = nI (g k)) (e : x = nI v) : ∀ k, k < 40 → upd f j x k = nI (z_u g j v k) := fun k hk => z_pw (n := 40) h e k hk
theorem z_nn_g1 {u l k T : Nat} {s : zH} (hu : u < 8) (hl : l < 8) (hul : u ≠ l) (hk : k < 5) (h : z_nn s T) : z_nn (z_g1 u l k s) T := by
  obtain ⟨g, h1, h2⟩ := h
  have ha : 5 * u + k < 40 := by omega
  have hb : 5 * l + k < 40 := by omega
  have hab : 5 * u + k ≠ 5 * l + k := by omega
  refine ⟨z_u (z_u g (5 * l + k) (g (5 * l + k) + g (5 * u + k))) (5 * u + k) 0, ?_, ?_⟩
  · refine z_nn_upd (z_nn_upd h1 ?_) rfl
    rw [h1 _ ha, h1 _ hb, nI_add]
  · have q1 := (z_sum_u (g := g) (k := 5 * l + k) (v := g (5 * l + k) + g (5 * u + k)) 40).2 hb
    have q2 := (z_sum_u (g := z_u g (5 * l + k) (g (5 * l + k) + g (5 * u + k))) (k := 5 * u + k) (v := 0) 40).2 ha
    rw [z_u_n _ _ hab] at q2
    omega
theorem z_nn_gd {u l T : Nat} {s : zH} (hu : u < 8) (hl : l < 8) (hul : u ≠ l) (h : z_nn s T) : z_nn (z_gd u l s) T :=
  pi_lp_ind (P := fun s => z_nn s T) 5 (fun k hk s hs => z_nn_g1 hu hl hul hk hs) s h
theorem z_nn_tk {dr T : Nat} {s : zH} (hd : dr < 8) (h : z_nn s T) : z_nn (z_tk dr s) T := by
  refine pi_lp_ind (P := fun s => z_nn s T) 5 (fun k hk s hs => ?_) s h
  obtain ⟨g, h1, h2⟩ := hs
  have q := (z_sum_u (g := g) (k := 5 * dr + k) (v := 0) 40).2 (by omega)
  exact ⟨z_u g (5 * dr + k) 0, z_nn_upd h1 rfl, by omega⟩
theorem z_nn_fl {j dr b T : Nat} {s : zH} (hj : j < 40) (h : z_nn s T) : z_nn (z_fl j dr (nI b) s) (T + b) := by
  obtain ⟨g, h1, h2⟩ := h
  have q := (z_sum_u (g := g) (k := j) (v := g j + b) 40).2 hj
  exact ⟨z_u g j (g j + b), z_nn_upd h1 (by rw [h1 j hj, nI_add]), by omega⟩
theorem z_nn_le {s : zH} {T T' : Nat} (h : z_nn s T) (hT : T ≤ T') : z_nn s T' := by
  obtain ⟨g, h1, h2⟩ := h
  exact ⟨g, h1, by omega⟩
theorem z_us_ne {W : zW} (hk : z_wk W) {k : Nat} (h : k < W.ns) : W.up k < 8 ∧ W.lo k < 8 ∧ W.up k ≠ W.lo k := by
  have hu := hk.wd.us k h
  have hnd := hk.wd.nd8
  exact ⟨by omega, by omega, fun q => absurd hu.2.2.2.2 (by rw [q]; exact Int32.lt_irrefl)⟩
theorem z_R_nn {W : zW} (hk : z_wk W) (wet but : Int32) (rm : Nat) (rw_ : Nat → Nat) (n : Nat) : z_nn (z_R W wet but rm rw_ n).1.1 (189 * n) := by
  have hnd := hk.wd.nd8
  refine z_R_ind hk (fun m (s : zH) => z_nn s (189 * m)) ⟨fun _ => 0, fun _ _ => rfl, by decide⟩ ?_ ?_ ?_ n
  · intro m s hs
    have h0 : ∀ i, i ≤ W.nf → z_nn (z_falls (nI m) W.nd W.fm W.fd W.fk W.fn i s) (189 * m + 9 * i) := by
      intro i
      induction i with
      | zero => intro _; exact hs
      | succ i ih =>
        intro hi
        have hf := hk.fa i (by omega)
        obtain ⟨hf1, hf2, b, hb1, hb9, e⟩ := hf
        have q := ih (by omega)
        rw [z_falls_s]
        split
        · split
          · rw [e]
            exact z_nn_le (z_nn_fl (by omega) q) (by omega)
          · exact z_nn_le q (by omega)
        · exact z_nn_le q (by omega)
    have hnf := hk.nf
    exact z_nn_le (h0 W.nf (Nat.le_refl _)) (by omega)
  · intro m k s hk2 hs
    have := z_us_ne hk hk2
    exact z_nn_gd this.1 this.2.1 this.2.2 hs
  · intro m d s hd hs
    exact z_nn_tk (by omega) hs
theorem z_R_nn60 {W : zW} (hk : z_wk W) (wet but : Int32) (rm : Nat) (rw_ : Nat → Nat) {n : Nat} (hn : n ≤ 60) : z_nn (z_R W wet but rm rw_ n).1.1 11340 := z_nn_le (z_R_nn hk wet but rm rw_ n) (by omega)
/-- fines are numbers, and not large -/
theorem z_fine_nn {W : zW} (hk : z_wk W) {s : zH} (h : z_nn s 11340) {d : Nat} (hd : d < 8) : ∃ f, f ≤ 510300 ∧ z_fine W.rt s.1 d = nI f := by
  obtain ⟨g, h1, h2⟩ := h
  have key : ∀ n, n ≤ 5 → ∃ f, f ≤ 102060 * n ∧ pi_lp (fun k a => a + s.1 (5 * d + k) * W.rt k) n (nI 0) = nI f := by
    intro n
    induction n with
    | zero => intro _; exact ⟨0, by omega, rfl⟩
    | succ n ih =>
      intro hn
      obtain ⟨f, hf, e⟩ := ih (by omega)
      obtain ⟨b, hb, e2⟩ := hk.rt n (by omega)
      have hg := z_sum_at g (5 * d + n) 40 (by omega)
      have hm : g (5 * d + n) * b ≤ 11340 * 9 := Nat.mul_le_mul (by omega) hb
      refine ⟨f + g (5 * d + n) * b, by omega, ?_⟩
      show pi_lp (fun k a => a + s.1 (5 * d + k) * W.rt k) n (nI 0) + s.1 (5 * d + n) * W.rt n = _
      rw [e, e2, h1 _ (by omega), pk_mul, nI_add]
  obtain ⟨f, hf, e⟩ := key 5 (Nat.le_refl 5)
  exact ⟨f, by omega, e⟩
theorem z_fines_nn {W : zW} (hk : z_wk W) {s : zH} (h : z_nn s 11340) : ∃ f, f ≤ 4082400 ∧ z_fines W.rt s.1 W.nd = nI f := by
  have hnd := hk.wd.nd8
  have key : ∀ n, n ≤ W.nd → ∃ f, f ≤ 510300 * n ∧ pi_lp (fun d a => a + z_fine W.rt s.1 d) n (nI 0) = nI f := by
    intro n
    induction n with
    | zero => intro _; exact ⟨0, by omega, rfl⟩
    | succ n ih =>
      intro hn
      obtain ⟨f, hf, e⟩ := ih (by omega)
      obtain ⟨b, hb, e2⟩ := z_fine_nn hk h (d := n) (by omega)
      refine ⟨f + b, by omega, ?_⟩
      show pi_lp (fun d a => a + z_fine W.rt s.1 d) n (nI 0) + z_fine W.rt s.1 n = _
      rw [e, e2, nI_add]
  obtain ⟨f, hf, e⟩ := key W.nd (Nat.le_refl _)
  exact ⟨f, by omega, e⟩
theorem z_wf_nn {W : zW} (hk : z_wk W) (wet but : Int32) : ∃ f, f ≤ 4082400 ∧ z_wf W wet but = nI f :=
  z_fines_nn hk (z_R_nn60 hk wet but 0 _ (by have := hk.nine; omega))
theorem z_mean_nn {W : zW} (hk : z_wk W) (but : Int32) {x : Nat} (hx : x ≤ 16) : ∃ t, t < 2 ^ 30 ∧ z_mean W (nI x) but = nI t := by
  obtain ⟨a, ha, ea⟩ := z_wf_nn hk (nI 1) but
  obtain ⟨b, hb, eb⟩ := z_wf_nn hk (nI 0) but
  have e16 : nI 16 - nI x = nI (16 - x) := by
    apply Int32.toInt_inj.mp
    rw [pk_sub_toInt (by omega) (by omega), nI_toInt (by omega)]
    omega
  have h1 : x * a ≤ 16 * 4082400 := Nat.mul_le_mul hx ha
  have h2 : (16 - x) * b ≤ 16 * 4082400 := Nat.mul_le_mul (by omega) hb
  refine ⟨x * a + (16 - x) * b, by omega, ?_⟩
  rw [z_mean, ea, eb, e16, pk_mul, pk_mul, nI_add]
theorem z_A_nn {W : zW} (hk : z_wk W) : z_nn (z_A W).1.1 11340 := z_R_nn60 hk (-1) (-1) 0 _ (by have := hk.nine; omega)
/-- what one pays, and the two bribes -/
theorem z_ml_nn {W : zW} (hk : z_wk W) {k : Nat} (h : k < W.ns) : ∃ a b, a < 2 ^ 30 ∧ b < 2 ^ 30 ∧ z_more W k = nI a ∧ z_less W k = nI b := by
  have hu := z_us_ne hk h
  obtain ⟨f, hf, e⟩ := z_fine_nn hk (z_A_nn hk) hu.1
  obtain ⟨p, hp, ep⟩ := hk.pr (W.lo k) hu.2.1
  obtain ⟨q, hq, eq⟩ := hk.pr (W.up k) hu.1
  have h1 : f * p ≤ 510300 * 9 := Nat.mul_le_mul hf hp
  have h2 : f * q ≤ 510300 * 9 := Nat.mul_le_mul hf hq
  exact ⟨f * p, f * q, by omega, by omega, by rw [z_more, e, ep, pk_mul], by rw [z_less, e, eq, pk_mul]⟩
theorem z_br_max {W : zW} (hk : z_wk W) {k : Nat} (h : k < W.ns) : (if z_more W k - z_less W k < nI 0 then nI 0 else z_more W k - z_less W k) = z_br W k := by
  obtain ⟨a, b, ha, hb, ea, eb⟩ := z_ml_nn hk h
  rw [z_br, ea, eb]
  have e1 : (nI a - nI b).toInt = (a : Int) - b := pk_sub_toInt ha hb
  have h0 : (nI 0).toInt = 0 := nI_toInt (by omega)
  by_cases q : a < b
  · have q1 : nI a - nI b < nI 0 := by rw [Int32.lt_iff_toInt_lt]; omega
    have q2 : ¬ nI b < nI a := fun z => by have := (nI_ltI (by omega) (by omega)).mp z; omega
    rw [if_pos q1, if_neg q2]
  · have q1 : ¬ nI a - nI b < nI 0 := by rw [Int32.lt_iff_toInt_lt]; omega
    rw [if_neg q1]
    by_cases q2 : b < a
    · rw [if_pos ((nI_ltI (by omega) (by omega)).mpr q2)]
    · have : a = b := by omega
      rw [if_neg (fun z => q2 ((nI_ltI (by omega) (by omega)).mp z)), this]
      apply Int32.toInt_inj.mp
      rw [pk_sub_toInt (by omega) (by omega), h0]
      omega
/-- sixteen and a number: their greatest common part by halving -/
theorem z_g16 : ∀ r, r < 16 → Nat.gcd r 16 = if r % 2 = 0 then (if r / 2 % 2 = 0 then (if r / 2 / 2 % 2 = 0 then (if r / 2 / 2 / 2 % 2 = 0 then 16 else 8) else 4) else 2) else 1 := by decide
theorem z_gt16 (t : Nat) : Nat.gcd t 16 = if t % 2 = 0 then (if t / 2 % 2 = 0 then (if t / 2 / 2 % 2 = 0 then (if t / 2 / 2 / 2 % 2 = 0 then 16 else 8) else 4) else 2) else 1 := by
  have h := z_g16 (t % 16) (Nat.mod_lt _ (by omega))
  have e : Nat.gcd (t % 16) 16 = Nat.gcd t 16 := by rw [Nat.gcd_comm t 16, Nat.gcd_rec 16 t]
  rw [e] at h
  rw [h]
  have a1 : t % 16 % 2 = t % 2 := by omega
  have a2 : t % 16 / 2 % 2 = t / 2 % 2 := by omega
  have a3 : t % 16 / 2 / 2 % 2 = t / 2 / 2 % 2 := by omega
  have a4 : t % 16 / 2 / 2 / 2 % 2 = t / 2 / 2 / 2 % 2 := by omega
  rw [a1, a2, a3, a4]
/-- the most -/
def z_bm (f : Nat → Int32) (n : Nat) : Int32 := if n = 0 then -1 else f (z_bst f n)
theorem z_bm_z {f : Nat → Int32} {n : Nat} (h : n = 0) : z_bm f n = -1 := if_pos h
theorem z_bm_n {f : Nat → Int32} {n : Nat} (h : ¬ n = 0) : z_bm f n = f (z_bst f n) := if_neg h
theorem z_mlt {f : Nat} (h : f < 2 ^ 31) : (-1 : Int32) < nI f := by
  rw [Int32.lt_iff_toInt_lt, nI_toInt h]
  have : (-1 : Int32).toInt = -1 := by decide
  omega
