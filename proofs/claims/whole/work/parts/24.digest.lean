set_option maxRecDepth 20000 in
theorem pi_P_least_bad {xs : Nat → Int32} {L d : Nat} {W : zW} {σ : pi_S} (hm : z_MR W σ) {a b : Int32} (hb : ¬ (z_B 4 a ∧ z_B1 3 b))  : pi_wp xs L (d + 9) 142 0 [some (.ref 56), some (.int a), some (.int b)] [] σ (fun v s => v = some (.int (-2)) ∧ z_MR W s ∧ pi_fr z_RC s σ) := by
  have hk := hm.wk
  have hnd8 := hk.wd.nd8
  have hns12 := hk.wd.ns12
  have hn60 := hk.nine
  have hnf := hk.nf
  have hnw := hk.nw
  have hnc := hk.nc
  have hn08 := hk.wd.n0
  have hn140 := hk.wd.n1
  refine pi_ca 4 (m' := 100) (l' := [some (.int a), some (.int (nI 0)), some (.int (nI 3))]) (σ' := σ) (pc2 := 6) (l2 := [some (.ref 56), some (.int a), some (.int b)]) (t := []) (fun f => rfl) (pi_M_inB (p := z_B 4 a) (z_B_in (by omega))) ?_
  rintro _ _ (⟨b1, rfl, rfl⟩ | ⟨b1, rfl, rfl⟩)
  · refine pi_cf 1 (c := nI 1 = 0) (pc' := 9) (l' := [some (.ref 56), some (.int a), some (.int b)]) (st' := []) (σ' := σ) (pc2 := 27) (l2 := [some (.ref 56), some (.int a), some (.int b)]) (st2 := []) (σ2 := σ) (fun f => rfl) (by decide) ?_
    refine pi_ca 4 (m' := 100) (l' := [some (.int b), some (.int (-1)), some (.int (nI 2))]) (σ' := σ) (pc2 := 15) (l2 := [some (.ref 56), some (.int a), some (.int b)]) (t := []) (fun f => rfl) (pi_M_inB (p := z_B1 3 b) (z_B1_in (by omega))) ?_
    rintro _ _ (⟨b2, rfl, rfl⟩ | ⟨b2, rfl, rfl⟩)
    · refine pi_cf 1 (c := nI 1 = 0) (pc' := 18) (l' := [some (.ref 56), some (.int a), some (.int b)]) (st' := []) (σ' := σ) (pc2 := 27) (l2 := [some (.ref 56), some (.int a), some (.int b)]) (st2 := []) (σ2 := σ) (fun f => rfl) (by decide) ?_
      exact (hb ⟨b1, b2⟩).elim
    · refine pi_ct 1 (c := nI 0 = 0) (pc' := 27) (l' := [some (.ref 56), some (.int a), some (.int b)]) (st' := []) (σ' := σ) (pc2 := 18) (l2 := [some (.ref 56), some (.int a), some (.int b)]) (st2 := []) (σ2 := σ) (fun f => rfl) (by decide) ?_
      refine pi_rt 2 (v := some (.int (-2))) (σ' := σ) (fun f => rfl) ?_
      exact ⟨rfl, hm, pi_fr_rf⟩
  · refine pi_ct 1 (c := nI 0 = 0) (pc' := 27) (l' := [some (.ref 56), some (.int a), some (.int b)]) (st' := []) (σ' := σ) (pc2 := 9) (l2 := [some (.ref 56), some (.int a), some (.int b)]) (st2 := []) (σ2 := σ) (fun f => rfl) (by decide) ?_
    refine pi_rt 2 (v := some (.int (-2))) (σ' := σ) (fun f => rfl) ?_
    exact ⟨rfl, hm, pi_fr_rf⟩
set_option maxRecDepth 20000 in
theorem pi_P_least0 {xs : Nat → Int32} {L d : Nat} {W : zW} {σ : pi_S} (hm : z_MR W σ) {k : Nat} (hk4 : k < 4)  : pi_wp xs L (d + 9) 142 0 [some (.ref 56), some (.int (nI k)), some (.int (-1))] [] σ (fun v s => v = some (.int (z_lB W k)) ∧ z_MR W s ∧ pi_fr z_RC s σ) := by
  have hk := hm.wk
  have hnd8 := hk.wd.nd8
  have hns12 := hk.wd.ns12
  have hn60 := hk.nine
  have hnf := hk.nf
  have hnw := hk.nw
  have hnc := hk.nc
  have hn08 := hk.wd.n0
  have hn140 := hk.wd.n1
  refine pi_ca 4 (m' := 100) (l' := [some (.int (nI k)), some (.int (nI 0)), some (.int (nI 3))]) (σ' := σ) (pc2 := 6) (l2 := [some (.ref 56), some (.int (nI k)), some (.int (-1))]) (t := []) (fun f => rfl) (pi_M_inT ((z_B_in (by omega)).mpr (⟨_, by omega, rfl⟩))) ?_
  rintro _ _ ⟨rfl, rfl⟩
  refine pi_cf 1 (c := nI 1 = 0) (pc' := 9) (l' := [some (.ref 56), some (.int (nI k)), some (.int (-1))]) (st' := []) (σ' := σ) (pc2 := 27) (l2 := [some (.ref 56), some (.int (nI k)), some (.int (-1))]) (st2 := []) (σ2 := σ) (fun f => rfl) (by decide) ?_
  refine pi_ca 4 (m' := 100) (l' := [some (.int (-1)), some (.int (-1)), some (.int (nI 2))]) (σ' := σ) (pc2 := 15) (l2 := [some (.ref 56), some (.int (nI k)), some (.int (-1))]) (t := []) (fun f => rfl) (pi_M_inT ((z_B1_in (by omega)).mpr (Or.inl rfl))) ?_
  rintro _ _ ⟨rfl, rfl⟩
  refine pi_cf 1 (c := nI 1 = 0) (pc' := 18) (l' := [some (.ref 56), some (.int (nI k)), some (.int (-1))]) (st' := []) (σ' := σ) (pc2 := 27) (l2 := [some (.ref 56), some (.int (nI k)), some (.int (-1))]) (st2 := []) (σ2 := σ) (fun f => rfl) (by decide) ?_
  refine pi_ca 4 (m' := 141) (l' := [some (.ref 56), some (.int (nI k)), some (.int (-1)), none, none, none, none, none, none, none, none, none]) (σ' := σ) (pc2 := 24) (l2 := [some (.ref 56), some (.int (nI k)), some (.int (-1))]) (t := []) (fun f => rfl) (pi_M_leastOf0 (k := k) hm (by omega)) ?_
  rintro _ t1 ⟨rfl, gt1, rt1⟩
  refine pi_rt 2 (v := some (.int (z_lB W k))) (σ' := t1) (fun f => rfl) ?_
  exact ⟨rfl, gt1.mr, pi_fr_t2 rt1 (pi_fr_rf)⟩
set_option maxRecDepth 20000 in
theorem pi_P_least1 {xs : Nat → Int32} {L d : Nat} {W : zW} {σ : pi_S} (hm : z_MR W σ) {k i : Nat} (hk4 : k < 4) (hi : i < 3)  : pi_wp xs L (d + 9) 142 0 [some (.ref 56), some (.int (nI k)), some (.int (nI i))] [] σ (fun v s => v = some (.int (z_lS W k i)) ∧ z_MR W s ∧ pi_fr z_RC s σ) := by
  have hk := hm.wk
  have hnd8 := hk.wd.nd8
  have hns12 := hk.wd.ns12
  have hn60 := hk.nine
  have hnf := hk.nf
  have hnw := hk.nw
  have hnc := hk.nc
  have hn08 := hk.wd.n0
  have hn140 := hk.wd.n1
  refine pi_ca 4 (m' := 100) (l' := [some (.int (nI k)), some (.int (nI 0)), some (.int (nI 3))]) (σ' := σ) (pc2 := 6) (l2 := [some (.ref 56), some (.int (nI k)), some (.int (nI i))]) (t := []) (fun f => rfl) (pi_M_inT ((z_B_in (by omega)).mpr (⟨_, by omega, rfl⟩))) ?_
  rintro _ _ ⟨rfl, rfl⟩
  refine pi_cf 1 (c := nI 1 = 0) (pc' := 9) (l' := [some (.ref 56), some (.int (nI k)), some (.int (nI i))]) (st' := []) (σ' := σ) (pc2 := 27) (l2 := [some (.ref 56), some (.int (nI k)), some (.int (nI i))]) (st2 := []) (σ2 := σ) (fun f => rfl) (by decide) ?_
  refine pi_ca 4 (m' := 100) (l' := [some (.int (nI i)), some (.int (-1)), some (.int (nI 2))]) (σ' := σ) (pc2 := 15) (l2 := [some (.ref 56), some (.int (nI k)), some (.int (nI i))]) (t := []) (fun f => rfl) (pi_M_inT ((z_B1_in (by omega)).mpr (Or.inr ⟨_, by omega, rfl⟩))) ?_
  rintro _ _ ⟨rfl, rfl⟩
  refine pi_cf 1 (c := nI 1 = 0) (pc' := 18) (l' := [some (.ref 56), some (.int (nI k)), some (.int (nI i))]) (st' := []) (σ' := σ) (pc2 := 27) (l2 := [some (.ref 56), some (.int (nI k)), some (.int (nI i))]) (st2 := []) (σ2 := σ) (fun f => rfl) (by decide) ?_
  refine pi_ca 4 (m' := 141) (l' := [some (.ref 56), some (.int (nI k)), some (.int (nI i)), none, none, none, none, none, none, none, none, none]) (σ' := σ) (pc2 := 24) (l2 := [some (.ref 56), some (.int (nI k)), some (.int (nI i))]) (t := []) (fun f => rfl) (pi_M_leastOf1 (k := k) (ii := i) hm (by omega) (by omega)) ?_
  rintro _ t1 ⟨rfl, gt1, rt1⟩
  refine pi_rt 2 (v := some (.int (z_lS W k i))) (σ' := t1) (fun f => rfl) ?_
  exact ⟨rfl, gt1.mr, pi_fr_t2 rt1 (pi_fr_rf)⟩
def z_brw (W : zW) (k w : Nat) : Int32 := match w with
  | 0 => z_more W k
  | 1 => z_less W k
  | _ => z_br W k
theorem pi_P_countN {xs : Nat → Int32} {L d : Nat} {W : zW} {σ : pi_S} (hm : z_MR W σ) {i : Nat} (hi : i < 8) : pi_wp xs L (d + 9) 173 0 [some (.ref 56), some (.int (nI i))] [] σ (fun v s => v = some (.int (z_cnt W i)) ∧ z_MR W s ∧ pi_fr z_RC s σ) :=
  match i, hi with
  | 0, _ => pi_P_count0 hm
  | 1, _ => pi_P_count1 hm
  | 2, _ => pi_P_count2 hm
  | 3, _ => pi_P_count3 hm
  | 4, _ => pi_P_count4 hm
  | 5, _ => pi_P_count5 hm
  | 6, _ => pi_P_count6 hm
  | 7, _ => pi_P_count7 hm
  | n + 8, h => absurd h (by omega)
theorem pi_M_bribeOfN {xs : Nat → Int32} {L d : Nat} {W : zW} {σ : pi_S} (hm : z_MR W σ) {st w : Nat} (hs : st < W.ns) (hw : w < 3) : pi_wp xs L (d + 6) 148 0 [some (.ref 56), some (.int (nI st)), some (.int (nI w)), none, none, none] [] σ (fun v s => v = some (.int (z_brw W st w)) ∧ z_MT W s ∧ pi_fr z_RC s σ) :=
  match w, hw with
  | 0, _ => pi_M_bribeOf0 hm hs
  | 1, _ => pi_M_bribeOf1 hm hs
  | 2, _ => pi_M_bribeOf2 hm hs
  | n + 3, h => absurd h (by omega)
def z_dcut (W : zW) (w : Nat) : Int32 := if 1 < W.nd then (if w = 0 then z_ones (z_ct W.up W.lo W.ns 0 (nI 1) (2 ^ W.ns)) else z_ct W.up W.lo W.ns 0 (nI 1) (2 ^ W.ns)) else -2
theorem z_nB {n k : Nat} (h : z_B n (nI k)) (hn : n < 2 ^ 31) (hk : k < 2 ^ 31) : k < n := by
  obtain ⟨j, hj, e⟩ := h
  rw [(nI_eq hk (by omega)).mp e]
  exact hj
theorem pi_P_dcut0 {xs : Nat → Int32} {L d : Nat} {W : zW} {σ : pi_S} (hm : z_MR W σ) : pi_wp xs L (d + 9) 147 0 [some (.ref 56), some (.int (nI 0)), some (.int (nI 1)), some (.int (nI 0))] [] σ (fun v s => v = some (.int (z_dcut W 0)) ∧ z_MR W s ∧ pi_fr z_RC s σ) := by
  have h8 := hm.wk.wd.nd8
  unfold z_dcut
  by_cases h : 1 < W.nd
  · rw [if_pos h, if_pos rfl]
    exact pi_P_cut0 hm (by omega) h (by omega)
  · rw [if_neg h]
    exact pi_P_cut_bad hm (fun q => h (z_nB q.2.1 (by omega) (by omega)))
theorem pi_P_dcut1 {xs : Nat → Int32} {L d : Nat} {W : zW} {σ : pi_S} (hm : z_MR W σ) : pi_wp xs L (d + 9) 147 0 [some (.ref 56), some (.int (nI 0)), some (.int (nI 1)), some (.int (nI 1))] [] σ (fun v s => v = some (.int (z_dcut W 1)) ∧ z_MR W s ∧ pi_fr z_RC s σ) := by
  have h8 := hm.wk.wd.nd8
  unfold z_dcut
  by_cases h : 1 < W.nd
  · rw [if_pos h, if_neg (by omega)]
    exact pi_P_cut1 hm (by omega) h (by omega)
  · rw [if_neg h]
    exact pi_P_cut_bad hm (fun q => h (z_nB q.2.1 (by omega) (by omega)))
def z_dwho (W : zW) : Int32 := if 0 < W.nd then z_who W (nI 0) 0 0 W.nd else -2
theorem pi_P_dwho {xs : Nat → Int32} {L d : Nat} {W : zW} {σ : pi_S} (hm : z_MR W σ) (hnf20 : W.nf ≤ 20) : pi_wp xs L (d + 9) 157 0 [some (.ref 56), some (.int (nI 0)), some (.int (nI 0)), some (.int (nI 0))] [] σ (fun v s => v = some (.int (z_dwho W)) ∧ z_MR W s ∧ pi_fr z_RC s σ) := by
  have h8 := hm.wk.wd.nd8
  unfold z_dwho
  by_cases h : 0 < W.nd
  · rw [if_pos h]
    exact pi_P_who hm hnf20 (by omega) (by omega) h
  · rw [if_neg h]
    exact pi_P_who_bad hm (fun q => h (z_nB q.2.2 (by omega) (by omega)))
/-! the digest -/
def z_h (h x : Int64) : Int64 := Int64.ofNat 31 * h + x
def z_h1 (W : zW) (n : Nat) : Int64 := pi_lp (fun i h => z_h h (Int32.toInt64 (z_cnt W i))) n (Int64.ofNat 17)
def z_h2 (W : zW) : Int64 := z_h (z_h (z_h1 W 8) (Int32.toInt64 W.f0)) (Int32.toInt64 W.f1)
def z_hd0 (W : zW) (d : Nat) (h : Int64) : Int64 := z_h (z_h (z_h (z_h h (Int32.toInt64 (W.hh d))) (Int32.toInt64 (z_fine W.rt (z_A W).1.1.1 d))) (Int32.toInt64 (z_net W.up W.lo W.ns d W.nd))) (Int32.toInt64 (z_rc W.up W.lo W.ns d (nI 0)))
def z_hd1 (W : zW) (d : Nat) (n : Nat) (h : Int64) : Int64 := pi_lp (fun k h => z_h h (Int32.toInt64 ((z_A W).1.1.2 (5 * d + k)))) n (z_hd0 W d h)
def z_hd (W : zW) (d : Nat) (h : Int64) : Int64 := z_h (z_hd1 W d 5 h) (Int32.toInt64 (z_all (z_R W (-1) (-1) 0 (fun _ => 0) (0 + 1)).1.1.1 d))
def z_h3 (W : zW) (n : Nat) : Int64 := pi_lp (z_hd W) n (z_h2 W)
def z_hs1 (W : zW) (k : Nat) (n : Nat) (h : Int64) : Int64 := pi_lp (fun w h => z_h h (Int32.toInt64 (z_brw W k w))) n (z_h (z_h h (Int32.toInt64 (nI (W.up k)))) (Int32.toInt64 (nI (W.lo k))))
def z_hs (W : zW) (k : Nat) (h : Int64) : Int64 := z_hs1 W k 3 h
def z_h4 (W : zW) (n : Nat) : Int64 := pi_lp (z_hs W) n (z_h3 W W.nd)
theorem pi_lp_z {α : Type} (f : Nat → α → α) (s : α) : pi_lp f 0 s = s := rfl
theorem pi_lp_n {α : Type} (f : Nat → α → α) (n : Nat) (s : α) : pi_lp f (n + 1) s = f n (pi_lp f n s) := rfl
theorem z_h1_0 (W : zW) : Int64.ofNat 17 = z_h1 W 0 := (pi_lp_z _ _).symm
theorem z_h1_s (W : zW) (n : Nat) : z_h (z_h1 W n) (Int32.toInt64 (z_cnt W n)) = z_h1 W (n + 1) := rfl
theorem z_h3_0 (W : zW) : z_h (z_h (z_h1 W 8) (Int32.toInt64 W.f0)) (Int32.toInt64 W.f1) = z_h3 W 0 := (pi_lp_z (z_hd W) (z_h2 W)).symm
theorem z_h3_s (W : zW) (n : Nat) : z_h (z_hd1 W n 5 (z_h3 W n)) (Int32.toInt64 (z_all (z_R W (-1) (-1) 0 (fun _ => 0) (0 + 1)).1.1.1 n)) = z_h3 W (n + 1) := (pi_lp_n (z_hd W) n (z_h2 W)).symm
theorem z_hd1_0 (W : zW) (d : Nat) (h : Int64) : z_h (z_h (z_h (z_h h (Int32.toInt64 (W.hh d))) (Int32.toInt64 (z_fine W.rt (z_A W).1.1.1 d))) (Int32.toInt64 (z_net W.up W.lo W.ns d W.nd))) (Int32.toInt64 (z_rc W.up W.lo W.ns d (nI 0))) = z_hd1 W d 0 h := (pi_lp_z _ (z_hd0 W d h)).symm
theorem z_hd1_s (W : zW) (d k : Nat) (h : Int64) : z_h (z_hd1 W d k h) (Int32.toInt64 ((z_A W).1.1.2 (5 * d + k))) = z_hd1 W d (k + 1) h := rfl
theorem z_h4_0 (W : zW) : z_h3 W W.nd = z_h4 W 0 := (pi_lp_z (z_hs W) (z_h3 W W.nd)).symm
theorem z_h4_s (W : zW) (k : Nat) : z_hs1 W k 3 (z_h4 W k) = z_h4 W (k + 1) := (pi_lp_n (z_hs W) k (z_h3 W W.nd)).symm
theorem z_hs1_0 (W : zW) (k : Nat) (h : Int64) : z_h (z_h h (Int32.toInt64 (nI (W.up k)))) (Int32.toInt64 (nI (W.lo k))) = z_hs1 W k 0 h := (pi_lp_z _ _).symm
theorem z_hs1_s (W : zW) (k w : Nat) (h : Int64) : z_h (z_hs1 W k w h) (Int32.toInt64 (z_brw W k w)) = z_hs1 W k (w + 1) h := rfl
def z_dig (W : zW) (t : Nat) : Int64 := z_h (z_h (z_h (z_h (z_h (z_h (z_h (z_h (z_h (z_h (z_h (z_h (z_h4 W W.ns) (Int32.toInt64 (z_fines W.rt (z_A W).1.1.1 W.nd))) (Int32.toInt64 (z_A W).1.2)) (Int32.toInt64 (z_lB W 1))) (Int32.toInt64 (z_lS W 1 0))) (Int32.toInt64 (z_lB W 2))) (Int32.toInt64 (z_dcut W 0))) (Int32.toInt64 (z_dcut W 1))) (Int32.toInt64 (z_rests W W.ns))) (nL (t / Nat.gcd t 16))) (nL (16 / Nat.gcd t 16))) (Int32.toInt64 (z_dwho W))) (Int32.toInt64 (z_bv (z_fine W.rt (z_A W).1.1.1) W.nd))
set_option maxRecDepth 20000 in
theorem pi_P_digest {xs : Nat → Int32} {L d : Nat} {W : zW} {σ : pi_S} (hm : z_MR W σ) (hnf20 : W.nf ≤ 20) {t : Nat} (hmean : z_mean W (nI 4) (-1) = nI t) (ht30 : t < 2 ^ 30)  : pi_wp xs L (d + 10) 174 0 [some (.ref 56), none, none, none, none] [] σ (fun v s => v = some (.long (z_dig W t)) ∧ z_MR W s ∧ pi_fr z_RC s σ) := by
  have hk := hm.wk
  have hnd8 := hk.wd.nd8
  have hns12 := hk.wd.ns12
  have hn60 := hk.nine
  have hnf := hk.nf
  have hnw := hk.nw
  have hnc := hk.nc
  have hn08 := hk.wd.n0
  have hn140 := hk.wd.n1
  refine pi_go 4 (pc' := 6) (l' := [some (.ref 56), some (.long (Int64.ofNat 17)), none, some (.int (nI 0)), none]) (st' := []) (σ' := σ) (fun f => rfl) ?_
  rw [show some (Value.long (Int64.ofNat 17)) = some (Value.long (z_h1 W 0)) from congrArg (fun z => some (Value.long z)) (z_h1_0 W)]
  suffices hl1 : ∀ i, i ≤ 8 → ∀ (j4 : Option Value), ∀ (z1 : pi_S), pi_fr z_RC z1 σ → z_MR W z1 → pi_wp xs L (d + 10) 174 6 [some (.ref 56), some (.long (z_h1 W i)), none, some (.int (nI i)), j4] [] z1 (fun v s => v = some (.long (z_dig W t)) ∧ z_MR W s ∧ pi_fr z_RC s σ) from hl1 0 (by omega) _ _ (pi_fr_rf) (hm)
  refine pi_lp0 ?_ ?_
  · intro j4 z1 hrz1 hx1
    refine pi_ct 3 (c := nI 8 ≤ nI 8) (pc' := 31) (l' := [some (.ref 56), some (.long (z_h1 W 8)), none, some (.int (nI 8)), j4]) (st' := []) (σ' := z1) (pc2 := 12) (l2 := [some (.ref 56), some (.long (z_h1 W 8)), none, some (.int (nI 8)), j4]) (st2 := []) (σ2 := z1) (fun f => rfl) (by decide) ?_
    refine pi_ca 6 (m' := 110) (l' := [some (.ref 56), some (.int (nI 0)), none, none]) (σ' := z1) (pc2 := 41) (l2 := [some (.ref 56), some (.long (z_h1 W 8)), none, some (.int (nI 8)), j4]) (t := [.long ((Int64.ofNat 31) * (z_h1 W 8))]) (fun f => rfl) (pi_M_faultOf hx1 (nI 0)) ?_
    rintro _ t2 ⟨rfl, gt2, rt2⟩
    refine pi_tp (y := W.f0) (if_pos rfl) ?_
    refine pi_ca 9 (m' := 110) (l' := [some (.ref 56), some (.int (nI 1)), none, none]) (σ' := t2) (pc2 := 54) (l2 := [some (.ref 56), some (.long (z_h (z_h1 W 8) (Int32.toInt64 W.f0))), none, some (.int (nI 8)), j4]) (t := [.long ((Int64.ofNat 31) * (z_h (z_h1 W 8) (Int32.toInt64 W.f0)))]) (fun f => rfl) (pi_M_faultOf gt2.mr (nI 1)) ?_
    rintro _ t3 ⟨rfl, gt3, rt3⟩
    refine pi_tp (y := W.f1) (if_neg (by decide)) ?_
    refine pi_go 5 (pc' := 59) (l' := [some (.ref 56), some (.long (z_h (z_h (z_h1 W 8) (Int32.toInt64 W.f0)) (Int32.toInt64 W.f1))), none, some (.int (nI 0)), j4]) (st' := []) (σ' := t3) (fun f => rfl) ?_
    rw [show some (Value.long (z_h (z_h (z_h1 W 8) (Int32.toInt64 W.f0)) (Int32.toInt64 W.f1))) = some (Value.long (z_h3 W 0)) from congrArg (fun z => some (Value.long z)) (z_h3_0 W)]
    suffices hl4 : ∀ dd, dd ≤ W.nd → ∀ (j4 : Option Value), ∀ (z4 : pi_S), pi_fr z_RC z4 σ → z_MT W z4 → pi_wp xs L (d + 10) 174 59 [some (.ref 56), some (.long (z_h3 W dd)), none, some (.int (nI dd)), j4] [] z4 (fun v s => v = some (.long (z_dig W t)) ∧ z_MR W s ∧ pi_fr z_RC s σ) from hl4 0 (by omega) _ _ (pi_fr_t2 rt3 (pi_fr_t2 rt2 (pi_fr_t2 hrz1 (pi_fr_rf)))) (gt3)
    refine pi_lp0 ?_ ?_
    · intro j4 z4 hrz4 hx4
      refine pi_go 3 (pc' := 64) (l' := [some (.ref 56), some (.long (z_h3 W W.nd)), none, some (.int (nI W.nd)), j4]) (st' := [.int (z4 56 2), .int (nI W.nd)]) (σ' := z4) (fun f => rfl) ?_
      refine pi_tp (y := nI W.nd) (hx4.d2) ?_
      refine pi_ct 1 (c := nI W.nd ≤ nI W.nd) (pc' := 173) (l' := [some (.ref 56), some (.long (z_h3 W W.nd)), none, some (.int (nI W.nd)), j4]) (st' := []) (σ' := z4) (pc2 := 67) (l2 := [some (.ref 56), some (.long (z_h3 W W.nd)), none, some (.int (nI W.nd)), j4]) (st2 := []) (σ2 := z4) (fun f => rfl) ((show nI W.nd ≤ nI W.nd ↔ _ from nI_leI (by omega) (by omega)).mpr (by omega)) ?_
      refine pi_go 2 (pc' := 175) (l' := [some (.ref 56), some (.long (z_h3 W W.nd)), none, some (.int (nI 0)), j4]) (st' := []) (σ' := z4) (fun f => rfl) ?_
      rw [show some (Value.long (z_h3 W W.nd)) = some (Value.long (z_h4 W 0)) from congrArg (fun z => some (Value.long z)) (z_h4_0 W)]
      suffices hl5 : ∀ k, k ≤ W.ns → ∀ (j4 : Option Value), ∀ (z5 : pi_S), pi_fr z_RC z5 σ → z_MT W z5 → pi_wp xs L (d + 10) 174 175 [some (.ref 56), some (.long (z_h4 W k)), none, some (.int (nI k)), j4] [] z5 (fun v s => v = some (.long (z_dig W t)) ∧ z_MR W s ∧ pi_fr z_RC s σ) from hl5 0 (by omega) _ _ (pi_fr_t2 hrz4 (pi_fr_rf)) (hx4)
      refine pi_lp0 ?_ ?_
      · intro j4 z5 hrz5 hx5
        refine pi_go 3 (pc' := 180) (l' := [some (.ref 56), some (.long (z_h4 W W.ns)), none, some (.int (nI W.ns)), j4]) (st' := [.int (z5 56 4), .int (nI W.ns)]) (σ' := z5) (fun f => rfl) ?_
        refine pi_tp (y := nI W.ns) (hx5.d4) ?_
        refine pi_ct 1 (c := nI W.ns ≤ nI W.ns) (pc' := 247) (l' := [some (.ref 56), some (.long (z_h4 W W.ns)), none, some (.int (nI W.ns)), j4]) (st' := []) (σ' := z5) (pc2 := 183) (l2 := [some (.ref 56), some (.long (z_h4 W W.ns)), none, some (.int (nI W.ns)), j4]) (st2 := []) (σ2 := z5) (fun f => rfl) ((show nI W.ns ≤ nI W.ns ↔ _ from nI_leI (by omega) (by omega)).mpr (by omega)) ?_
        refine pi_ca 6 (m' := 137) (l' := [some (.ref 56), some (.int (-1))]) (σ' := z5) (pc2 := 257) (l2 := [some (.ref 56), some (.long (z_h4 W W.ns)), none, some (.int (nI W.ns)), j4]) (t := [.long ((Int64.ofNat 31) * (z_h4 W W.ns))]) (fun f => rfl) (pi_M_fineOf0 hx5.mr ) ?_
        rintro _ t6 ⟨rfl, gt6, rt6⟩
        refine pi_ca 8 (m' := 139) (l' := [some (.ref 56)]) (σ' := t6) (pc2 := 269) (l2 := [some (.ref 56), some (.long (z_h (z_h4 W W.ns) (Int32.toInt64 (z_fines W.rt (z_A W).1.1.1 W.nd)))), none, some (.int (nI W.ns)), j4]) (t := [.long ((Int64.ofNat 31) * (z_h (z_h4 W W.ns) (Int32.toInt64 (z_fines W.rt (z_A W).1.1.1 W.nd))))]) (fun f => rfl) (pi_M_judgedNow gt6.mr ) ?_
        rintro _ t7 ⟨rfl, gt7, rt7⟩
        refine pi_ca 10 (m' := 141) (l' := [some (.ref 56), some (.int (nI 1)), some (.int (-1)), none, none, none, none, none, none, none, none, none]) (σ' := t7) (pc2 := 283) (l2 := [some (.ref 56), some (.long (z_h (z_h (z_h4 W W.ns) (Int32.toInt64 (z_fines W.rt (z_A W).1.1.1 W.nd))) (Int32.toInt64 ((z_A W).1.2)))), none, some (.int (nI W.ns)), j4]) (t := [.long ((Int64.ofNat 31) * (z_h (z_h (z_h4 W W.ns) (Int32.toInt64 (z_fines W.rt (z_A W).1.1.1 W.nd))) (Int32.toInt64 ((z_A W).1.2))))]) (fun f => rfl) (pi_M_leastOf0 (k := 1) gt7.mr (by omega)) ?_
        rintro _ t8 ⟨rfl, gt8, rt8⟩
        refine pi_ca 10 (m' := 141) (l' := [some (.ref 56), some (.int (nI 1)), some (.int (nI 0)), none, none, none, none, none, none, none, none, none]) (σ' := t8) (pc2 := 297) (l2 := [some (.ref 56), some (.long (z_h (z_h (z_h (z_h4 W W.ns) (Int32.toInt64 (z_fines W.rt (z_A W).1.1.1 W.nd))) (Int32.toInt64 ((z_A W).1.2))) (Int32.toInt64 (z_lB W 1)))), none, some (.int (nI W.ns)), j4]) (t := [.long ((Int64.ofNat 31) * (z_h (z_h (z_h (z_h4 W W.ns) (Int32.toInt64 (z_fines W.rt (z_A W).1.1.1 W.nd))) (Int32.toInt64 ((z_A W).1.2))) (Int32.toInt64 (z_lB W 1))))]) (fun f => rfl) (pi_M_leastOf1 (k := 1) (ii := 0) gt8.mr (by omega) (by omega)) ?_
        rintro _ t9 ⟨rfl, gt9, rt9⟩
        refine pi_ca 10 (m' := 141) (l' := [some (.ref 56), some (.int (nI 2)), some (.int (-1)), none, none, none, none, none, none, none, none, none]) (σ' := t9) (pc2 := 311) (l2 := [some (.ref 56), some (.long (z_h (z_h (z_h (z_h (z_h4 W W.ns) (Int32.toInt64 (z_fines W.rt (z_A W).1.1.1 W.nd))) (Int32.toInt64 ((z_A W).1.2))) (Int32.toInt64 (z_lB W 1))) (Int32.toInt64 (z_lS W 1 0)))), none, some (.int (nI W.ns)), j4]) (t := [.long ((Int64.ofNat 31) * (z_h (z_h (z_h (z_h (z_h4 W W.ns) (Int32.toInt64 (z_fines W.rt (z_A W).1.1.1 W.nd))) (Int32.toInt64 ((z_A W).1.2))) (Int32.toInt64 (z_lB W 1))) (Int32.toInt64 (z_lS W 1 0))))]) (fun f => rfl) (pi_M_leastOf0 (k := 2) gt9.mr (by omega)) ?_
        rintro _ t10 ⟨rfl, gt10, rt10⟩
        refine pi_ca 11 (m' := 147) (l' := [some (.ref 56), some (.int (nI 0)), some (.int (nI 1)), some (.int (nI 0))]) (σ' := t10) (pc2 := 326) (l2 := [some (.ref 56), some (.long (z_h (z_h (z_h (z_h (z_h (z_h4 W W.ns) (Int32.toInt64 (z_fines W.rt (z_A W).1.1.1 W.nd))) (Int32.toInt64 ((z_A W).1.2))) (Int32.toInt64 (z_lB W 1))) (Int32.toInt64 (z_lS W 1 0))) (Int32.toInt64 (z_lB W 2)))), none, some (.int (nI W.ns)), j4]) (t := [.long ((Int64.ofNat 31) * (z_h (z_h (z_h (z_h (z_h (z_h4 W W.ns) (Int32.toInt64 (z_fines W.rt (z_A W).1.1.1 W.nd))) (Int32.toInt64 ((z_A W).1.2))) (Int32.toInt64 (z_lB W 1))) (Int32.toInt64 (z_lS W 1 0))) (Int32.toInt64 (z_lB W 2))))]) (fun f => rfl) (pi_P_dcut0 gt10.mr ) ?_
        rintro _ t11 ⟨rfl, gt11, rt11⟩
        refine pi_ca 11 (m' := 147) (l' := [some (.ref 56), some (.int (nI 0)), some (.int (nI 1)), some (.int (nI 1))]) (σ' := t11) (pc2 := 341) (l2 := [some (.ref 56), some (.long (z_h (z_h (z_h (z_h (z_h (z_h (z_h4 W W.ns) (Int32.toInt64 (z_fines W.rt (z_A W).1.1.1 W.nd))) (Int32.toInt64 ((z_A W).1.2))) (Int32.toInt64 (z_lB W 1))) (Int32.toInt64 (z_lS W 1 0))) (Int32.toInt64 (z_lB W 2))) (Int32.toInt64 (z_dcut W 0)))), none, some (.int (nI W.ns)), j4]) (t := [.long ((Int64.ofNat 31) * (z_h (z_h (z_h (z_h (z_h (z_h (z_h4 W W.ns) (Int32.toInt64 (z_fines W.rt (z_A W).1.1.1 W.nd))) (Int32.toInt64 ((z_A W).1.2))) (Int32.toInt64 (z_lB W 1))) (Int32.toInt64 (z_lS W 1 0))) (Int32.toInt64 (z_lB W 2))) (Int32.toInt64 (z_dcut W 0))))]) (fun f => rfl) (pi_P_dcut1 gt11 ) ?_
        rintro _ t12 ⟨rfl, gt12, rt12⟩
        refine pi_ca 8 (m' := 150) (l' := [some (.ref 56), none, none]) (σ' := t12) (pc2 := 353) (l2 := [some (.ref 56), some (.long (z_h (z_h (z_h (z_h (z_h (z_h (z_h (z_h4 W W.ns) (Int32.toInt64 (z_fines W.rt (z_A W).1.1.1 W.nd))) (Int32.toInt64 ((z_A W).1.2))) (Int32.toInt64 (z_lB W 1))) (Int32.toInt64 (z_lS W 1 0))) (Int32.toInt64 (z_lB W 2))) (Int32.toInt64 (z_dcut W 0))) (Int32.toInt64 (z_dcut W 1)))), none, some (.int (nI W.ns)), j4]) (t := [.long ((Int64.ofNat 31) * (z_h (z_h (z_h (z_h (z_h (z_h (z_h (z_h4 W W.ns) (Int32.toInt64 (z_fines W.rt (z_A W).1.1.1 W.nd))) (Int32.toInt64 ((z_A W).1.2))) (Int32.toInt64 (z_lB W 1))) (Int32.toInt64 (z_lS W 1 0))) (Int32.toInt64 (z_lB W 2))) (Int32.toInt64 (z_dcut W 0))) (Int32.toInt64 (z_dcut W 1))))]) (fun f => rfl) (pi_M_restsNow gt12 ) ?_
        rintro _ t13 ⟨rfl, gt13, rt13⟩
        refine pi_ca 10 (m' := 153) (l' := [some (.ref 56), some (.int (nI 4)), some (.int (nI 0))]) (σ' := t13) (pc2 := 367) (l2 := [some (.ref 56), some (.long (z_h (z_h (z_h (z_h (z_h (z_h (z_h (z_h (z_h4 W W.ns) (Int32.toInt64 (z_fines W.rt (z_A W).1.1.1 W.nd))) (Int32.toInt64 ((z_A W).1.2))) (Int32.toInt64 (z_lB W 1))) (Int32.toInt64 (z_lS W 1 0))) (Int32.toInt64 (z_lB W 2))) (Int32.toInt64 (z_dcut W 0))) (Int32.toInt64 (z_dcut W 1))) (Int32.toInt64 (z_rests W W.ns)))), none, some (.int (nI W.ns)), j4]) (t := [.long ((Int64.ofNat 31) * (z_h (z_h (z_h (z_h (z_h (z_h (z_h (z_h (z_h4 W W.ns) (Int32.toInt64 (z_fines W.rt (z_A W).1.1.1 W.nd))) (Int32.toInt64 ((z_A W).1.2))) (Int32.toInt64 (z_lB W 1))) (Int32.toInt64 (z_lS W 1 0))) (Int32.toInt64 (z_lB W 2))) (Int32.toInt64 (z_dcut W 0))) (Int32.toInt64 (z_dcut W 1))) (Int32.toInt64 (z_rests W W.ns))))]) (fun f => rfl) (pi_M_oddsOf0 (x := 4) (t := t) gt13.mr hmean ht30) ?_
        rintro _ t14 ⟨rfl, gt14, rt14⟩
        refine pi_ca 9 (m' := 153) (l' := [some (.ref 56), some (.int (nI 4)), some (.int (nI 1))]) (σ' := t14) (pc2 := 380) (l2 := [some (.ref 56), some (.long (z_h (z_h (z_h (z_h (z_h (z_h (z_h (z_h (z_h (z_h4 W W.ns) (Int32.toInt64 (z_fines W.rt (z_A W).1.1.1 W.nd))) (Int32.toInt64 ((z_A W).1.2))) (Int32.toInt64 (z_lB W 1))) (Int32.toInt64 (z_lS W 1 0))) (Int32.toInt64 (z_lB W 2))) (Int32.toInt64 (z_dcut W 0))) (Int32.toInt64 (z_dcut W 1))) (Int32.toInt64 (z_rests W W.ns))) (nL (t / Nat.gcd t 16)))), none, some (.int (nI W.ns)), j4]) (t := [.long ((Int64.ofNat 31) * (z_h (z_h (z_h (z_h (z_h (z_h (z_h (z_h (z_h (z_h4 W W.ns) (Int32.toInt64 (z_fines W.rt (z_A W).1.1.1 W.nd))) (Int32.toInt64 ((z_A W).1.2))) (Int32.toInt64 (z_lB W 1))) (Int32.toInt64 (z_lS W 1 0))) (Int32.toInt64 (z_lB W 2))) (Int32.toInt64 (z_dcut W 0))) (Int32.toInt64 (z_dcut W 1))) (Int32.toInt64 (z_rests W W.ns))) (nL (t / Nat.gcd t 16))))]) (fun f => rfl) (pi_M_oddsOf1 (x := 4) (t := t) gt14.mr hmean ht30) ?_
        rintro _ t15 ⟨rfl, gt15, rt15⟩
        refine pi_ca 10 (m' := 157) (l' := [some (.ref 56), some (.int (nI 0)), some (.int (nI 0)), some (.int (nI 0))]) (σ' := t15) (pc2 := 394) (l2 := [some (.ref 56), some (.long (z_h (z_h (z_h (z_h (z_h (z_h (z_h (z_h (z_h (z_h (z_h4 W W.ns) (Int32.toInt64 (z_fines W.rt (z_A W).1.1.1 W.nd))) (Int32.toInt64 ((z_A W).1.2))) (Int32.toInt64 (z_lB W 1))) (Int32.toInt64 (z_lS W 1 0))) (Int32.toInt64 (z_lB W 2))) (Int32.toInt64 (z_dcut W 0))) (Int32.toInt64 (z_dcut W 1))) (Int32.toInt64 (z_rests W W.ns))) (nL (t / Nat.gcd t 16))) (nL (16 / Nat.gcd t 16)))), none, some (.int (nI W.ns)), j4]) (t := [.long ((Int64.ofNat 31) * (z_h (z_h (z_h (z_h (z_h (z_h (z_h (z_h (z_h (z_h (z_h4 W W.ns) (Int32.toInt64 (z_fines W.rt (z_A W).1.1.1 W.nd))) (Int32.toInt64 ((z_A W).1.2))) (Int32.toInt64 (z_lB W 1))) (Int32.toInt64 (z_lS W 1 0))) (Int32.toInt64 (z_lB W 2))) (Int32.toInt64 (z_dcut W 0))) (Int32.toInt64 (z_dcut W 1))) (Int32.toInt64 (z_rests W W.ns))) (nL (t / Nat.gcd t 16))) (nL (16 / Nat.gcd t 16))))]) (fun f => rfl) (pi_P_dwho gt15.mr hnf20) ?_
        rintro _ t16 ⟨rfl, gt16, rt16⟩
        refine pi_ca 8 (m' := 160) (l' := [some (.ref 56), none, none]) (σ' := t16) (pc2 := 406) (l2 := [some (.ref 56), some (.long (z_h (z_h (z_h (z_h (z_h (z_h (z_h (z_h (z_h (z_h (z_h (z_h4 W W.ns) (Int32.toInt64 (z_fines W.rt (z_A W).1.1.1 W.nd))) (Int32.toInt64 ((z_A W).1.2))) (Int32.toInt64 (z_lB W 1))) (Int32.toInt64 (z_lS W 1 0))) (Int32.toInt64 (z_lB W 2))) (Int32.toInt64 (z_dcut W 0))) (Int32.toInt64 (z_dcut W 1))) (Int32.toInt64 (z_rests W W.ns))) (nL (t / Nat.gcd t 16))) (nL (16 / Nat.gcd t 16))) (Int32.toInt64 (z_dwho W)))), none, some (.int (nI W.ns)), j4]) (t := [.long ((Int64.ofNat 31) * (z_h (z_h (z_h (z_h (z_h (z_h (z_h (z_h (z_h (z_h (z_h (z_h4 W W.ns) (Int32.toInt64 (z_fines W.rt (z_A W).1.1.1 W.nd))) (Int32.toInt64 ((z_A W).1.2))) (Int32.toInt64 (z_lB W 1))) (Int32.toInt64 (z_lS W 1 0))) (Int32.toInt64 (z_lB W 2))) (Int32.toInt64 (z_dcut W 0))) (Int32.toInt64 (z_dcut W 1))) (Int32.toInt64 (z_rests W W.ns))) (nL (t / Nat.gcd t 16))) (nL (16 / Nat.gcd t 16))) (Int32.toInt64 (z_dwho W))))]) (fun f => rfl) (pi_M_bestNow gt16 ) ?_
        rintro _ t17 ⟨rfl, gt17, rt17⟩
        refine pi_rt 3 (v := some (.long (z_h (z_h (z_h (z_h (z_h (z_h (z_h (z_h (z_h (z_h (z_h (z_h (z_h4 W W.ns) (Int32.toInt64 (z_fines W.rt (z_A W).1.1.1 W.nd))) (Int32.toInt64 ((z_A W).1.2))) (Int32.toInt64 (z_lB W 1))) (Int32.toInt64 (z_lS W 1 0))) (Int32.toInt64 (z_lB W 2))) (Int32.toInt64 (z_dcut W 0))) (Int32.toInt64 (z_dcut W 1))) (Int32.toInt64 (z_rests W W.ns))) (nL (t / Nat.gcd t 16))) (nL (16 / Nat.gcd t 16))) (Int32.toInt64 (z_dwho W))) (Int32.toInt64 (z_bv (z_fine W.rt (z_A W).1.1.1) W.nd))))) (σ' := t17) (fun f => rfl) ?_
        exact ⟨rfl, gt17.mr, pi_fr_t2 rt17 (pi_fr_t2 rt16 (pi_fr_t2 rt15 (pi_fr_t2 rt14 (pi_fr_t2 rt13 (pi_fr_t2 rt12 (pi_fr_t2 rt11 (pi_fr_t2 rt10 (pi_fr_t2 rt9 (pi_fr_t2 rt8 (pi_fr_t2 rt7 (pi_fr_t2 rt6 (pi_fr_t2 hrz5 (pi_fr_rf)))))))))))))⟩
      · intro k hi5 ih5 j4 z5 hrz5 hx5
        refine pi_go 3 (pc' := 180) (l' := [some (.ref 56), some (.long (z_h4 W k)), none, some (.int (nI k)), j4]) (st' := [.int (z5 56 4), .int (nI k)]) (σ' := z5) (fun f => rfl) ?_
        refine pi_tp (y := nI W.ns) (hx5.d4) ?_
        refine pi_cf 1 (c := nI W.ns ≤ nI k) (pc' := 183) (l' := [some (.ref 56), some (.long (z_h4 W k)), none, some (.int (nI k)), j4]) (st' := []) (σ' := z5) (pc2 := 247) (l2 := [some (.ref 56), some (.long (z_h4 W k)), none, some (.int (nI k)), j4]) (st2 := []) (σ2 := z5) (fun f => rfl) (fun zq => absurd ((show nI W.ns ≤ nI k ↔ _ from nI_leI (by omega) (by omega)).mp zq) (by omega)) ?_
        refine pi_ai 7 (u := k) (n := 12) (g := z5 60) (pc' := 194) (l' := [some (.ref 56), some (.long (z_h4 W k)), none, some (.int (nI k)), j4]) (t := [.long ((Int64.ofNat 31) * (z_h4 W k))]) (σ' := z5) (fun f => rfl) (by omega) (by omega) ?_
        refine pi_tp (y := nI (W.up k)) ((hx5.st k (by omega)).1) ?_
        refine pi_ai 10 (u := k) (n := 12) (g := z5 61) (pc' := 208) (l' := [some (.ref 56), some (.long (z_h (z_h4 W k) (Int32.toInt64 (nI (W.up k))))), none, some (.int (nI k)), j4]) (t := [.long ((Int64.ofNat 31) * (z_h (z_h4 W k) (Int32.toInt64 (nI (W.up k)))))]) (σ' := z5) (fun f => rfl) (by omega) (by omega) ?_
        refine pi_tp (y := nI (W.lo k)) ((hx5.st k (by omega)).2) ?_
        refine pi_go 5 (pc' := 214) (l' := [some (.ref 56), some (.long (z_h (z_h (z_h4 W k) (Int32.toInt64 (nI (W.up k)))) (Int32.toInt64 (nI (W.lo k))))), none, some (.int (nI k)), some (.int (nI 0))]) (st' := []) (σ' := z5) (fun f => rfl) ?_
        rw [show some (Value.long (z_h (z_h (z_h4 W k) (Int32.toInt64 (nI (W.up k)))) (Int32.toInt64 (nI (W.lo k))))) = some (Value.long (z_hs1 W k 0 (z_h4 W k))) from congrArg (fun z => some (Value.long z)) (z_hs1_0 W k _)]
        suffices hl18 : ∀ ww, ww ≤ 3 → ∀ (z18 : pi_S), pi_fr z_RC z18 σ → z_MT W z18 → pi_wp xs L (d + 10) 174 214 [some (.ref 56), some (.long (z_hs1 W k ww (z_h4 W k))), none, some (.int (nI k)), some (.int (nI ww))] [] z18 (fun v s => v = some (.long (z_dig W t)) ∧ z_MR W s ∧ pi_fr z_RC s σ) from hl18 0 (by omega) _ (pi_fr_t2 hrz5 (pi_fr_rf)) (hx5)
        refine pi_lp0 ?_ ?_
        · intro z18 hrz18 hx18
          refine pi_ct 3 (c := nI 3 ≤ nI 3) (pc' := 241) (l' := [some (.ref 56), some (.long (z_hs1 W k 3 (z_h4 W k))), none, some (.int (nI k)), some (.int (nI 3))]) (st' := []) (σ' := z18) (pc2 := 220) (l2 := [some (.ref 56), some (.long (z_hs1 W k 3 (z_h4 W k))), none, some (.int (nI k)), some (.int (nI 3))]) (st2 := []) (σ2 := z18) (fun f => rfl) (by decide) ?_
          refine pi_go 1 (pc' := 244) (l' := [some (.ref 56), some (.long (z_hs1 W k 3 (z_h4 W k))), none, some (.int (nI k + nI 1)), some (.int (nI 3))]) (st' := []) (σ' := z18) (fun f => rfl) ?_
          rw [show nI k + nI 1 = nI (k + 1) from nI_add _ 1]
          refine pi_go 1 (pc' := 175) (l' := [some (.ref 56), some (.long (z_hs1 W k 3 (z_h4 W k))), none, some (.int (nI (k + 1))), some (.int (nI 3))]) (st' := []) (σ' := z18) (fun f => rfl) ?_
          rw [show some (Value.long (z_hs1 W k 3 (z_h4 W k))) = some (Value.long (z_h4 W (k + 1))) from congrArg (fun z => some (Value.long z)) (z_h4_s W k)]
          exact ih5 _ _ (pi_fr_t2 hrz18 (pi_fr_rf)) (hx18)
        · intro ww hi18 ih18 z18 hrz18 hx18
          refine pi_cf 3 (c := nI 3 ≤ nI ww) (pc' := 220) (l' := [some (.ref 56), some (.long (z_hs1 W k ww (z_h4 W k))), none, some (.int (nI k)), some (.int (nI ww))]) (st' := []) (σ' := z18) (pc2 := 241) (l2 := [some (.ref 56), some (.long (z_hs1 W k ww (z_h4 W k))), none, some (.int (nI k)), some (.int (nI ww))]) (st2 := []) (σ2 := z18) (fun f => rfl) (fun zq => absurd ((show nI 3 ≤ nI ww ↔ _ from nI_leI (by omega) (by omega)).mp zq) (by omega)) ?_
          refine pi_ca 7 (m' := 148) (l' := [some (.ref 56), some (.int (nI k)), some (.int (nI ww)), none, none, none]) (σ' := z18) (pc2 := 232) (l2 := [some (.ref 56), some (.long (z_hs1 W k ww (z_h4 W k))), none, some (.int (nI k)), some (.int (nI ww))]) (t := [.long ((Int64.ofNat 31) * (z_hs1 W k ww (z_h4 W k)))]) (fun f => rfl) (pi_M_bribeOfN (st := k) (w := ww) hx18.mr (by omega) (by omega)) ?_
          rintro _ t19 ⟨rfl, gt19, rt19⟩
          refine pi_go 4 (pc' := 238) (l' := [some (.ref 56), some (.long (z_h (z_hs1 W k ww (z_h4 W k)) (Int32.toInt64 (z_brw W k ww)))), none, some (.int (nI k)), some (.int (nI ww + nI 1))]) (st' := []) (σ' := t19) (fun f => rfl) ?_
          rw [show nI ww + nI 1 = nI (ww + 1) from nI_add _ 1]
          refine pi_go 1 (pc' := 214) (l' := [some (.ref 56), some (.long (z_h (z_hs1 W k ww (z_h4 W k)) (Int32.toInt64 (z_brw W k ww)))), none, some (.int (nI k)), some (.int (nI (ww + 1)))]) (st' := []) (σ' := t19) (fun f => rfl) ?_
          rw [show some (Value.long (z_h (z_hs1 W k ww (z_h4 W k)) (Int32.toInt64 (z_brw W k ww)))) = some (Value.long (z_hs1 W k (ww + 1) (z_h4 W k))) from congrArg (fun z => some (Value.long z)) (z_hs1_s W k ww _)]
          exact ih18 _ (pi_fr_t2 rt19 (pi_fr_t2 hrz18 (pi_fr_rf))) (gt19)
    · intro dd hi4 ih4 j4 z4 hrz4 hx4
      refine pi_go 3 (pc' := 64) (l' := [some (.ref 56), some (.long (z_h3 W dd)), none, some (.int (nI dd)), j4]) (st' := [.int (z4 56 2), .int (nI dd)]) (σ' := z4) (fun f => rfl) ?_
      refine pi_tp (y := nI W.nd) (hx4.d2) ?_
      refine pi_cf 1 (c := nI W.nd ≤ nI dd) (pc' := 67) (l' := [some (.ref 56), some (.long (z_h3 W dd)), none, some (.int (nI dd)), j4]) (st' := []) (σ' := z4) (pc2 := 173) (l2 := [some (.ref 56), some (.long (z_h3 W dd)), none, some (.int (nI dd)), j4]) (st2 := []) (σ2 := z4) (fun f => rfl) (fun zq => absurd ((show nI W.nd ≤ nI dd ↔ _ from nI_leI (by omega) (by omega)).mp zq) (by omega)) ?_
      refine pi_ai 7 (u := dd) (n := 8) (g := z4 59) (pc' := 78) (l' := [some (.ref 56), some (.long (z_h3 W dd)), none, some (.int (nI dd)), j4]) (t := [.long ((Int64.ofNat 31) * (z_h3 W dd))]) (σ' := z4) (fun f => rfl) (by omega) (by omega) ?_
      refine pi_tp (y := W.hh dd) ((hx4.h dd (by omega))) ?_
      refine pi_ca 9 (m' := 137) (l' := [some (.ref 56), some (.int (nI dd))]) (σ' := z4) (pc2 := 91) (l2 := [some (.ref 56), some (.long (z_h (z_h3 W dd) (Int32.toInt64 (W.hh dd)))), none, some (.int (nI dd)), j4]) (t := [.long ((Int64.ofNat 31) * (z_h (z_h3 W dd) (Int32.toInt64 (W.hh dd))))]) (fun f => rfl) (pi_M_fineOf1 (dr := dd) hx4.mr (by omega)) ?_
      rintro _ t20 ⟨rfl, gt20, rt20⟩
      refine pi_ca 10 (m' := 144) (l' := [some (.ref 56), some (.int (nI dd)), some (.int (nI 0)), none, none]) (σ' := t20) (pc2 := 105) (l2 := [some (.ref 56), some (.long (z_h (z_h (z_h3 W dd) (Int32.toInt64 (W.hh dd))) (Int32.toInt64 (z_fine W.rt (z_A W).1.1.1 dd)))), none, some (.int (nI dd)), j4]) (t := [.long ((Int64.ofNat 31) * (z_h (z_h (z_h3 W dd) (Int32.toInt64 (W.hh dd))) (Int32.toInt64 (z_fine W.rt (z_A W).1.1.1 dd))))]) (fun f => rfl) (pi_M_netsOf0 (dr := dd) gt20.mr (by omega)) ?_
      rintro _ t21 ⟨rfl, gt21, rt21⟩
      refine pi_ca 10 (m' := 144) (l' := [some (.ref 56), some (.int (nI dd)), some (.int (nI 1)), none, none]) (σ' := t21) (pc2 := 119) (l2 := [some (.ref 56), some (.long (z_h (z_h (z_h (z_h3 W dd) (Int32.toInt64 (W.hh dd))) (Int32.toInt64 (z_fine W.rt (z_A W).1.1.1 dd))) (Int32.toInt64 (z_net W.up W.lo W.ns dd W.nd)))), none, some (.int (nI dd)), j4]) (t := [.long ((Int64.ofNat 31) * (z_h (z_h (z_h (z_h3 W dd) (Int32.toInt64 (W.hh dd))) (Int32.toInt64 (z_fine W.rt (z_A W).1.1.1 dd))) (Int32.toInt64 (z_net W.up W.lo W.ns dd W.nd))))]) (fun f => rfl) (pi_M_netsOf1 (dr := dd) gt21.mr (by omega)) ?_
      rintro _ t22 ⟨rfl, gt22, rt22⟩
      refine pi_go 5 (pc' := 125) (l' := [some (.ref 56), some (.long (z_h (z_h (z_h (z_h (z_h3 W dd) (Int32.toInt64 (W.hh dd))) (Int32.toInt64 (z_fine W.rt (z_A W).1.1.1 dd))) (Int32.toInt64 (z_net W.up W.lo W.ns dd W.nd))) (Int32.toInt64 (z_rc W.up W.lo W.ns dd (nI 0))))), none, some (.int (nI dd)), some (.int (nI 0))]) (st' := []) (σ' := t22) (fun f => rfl) ?_
      rw [show some (Value.long (z_h (z_h (z_h (z_h (z_h3 W dd) (Int32.toInt64 (W.hh dd))) (Int32.toInt64 (z_fine W.rt (z_A W).1.1.1 dd))) (Int32.toInt64 (z_net W.up W.lo W.ns dd W.nd))) (Int32.toInt64 (z_rc W.up W.lo W.ns dd (nI 0))))) = some (Value.long (z_hd1 W dd 0 (z_h3 W dd))) from congrArg (fun z => some (Value.long z)) (z_hd1_0 W dd _)]
      suffices hl23 : ∀ kk, kk ≤ 5 → ∀ (z23 : pi_S), pi_fr z_RC z23 σ → z_MT W z23 → pi_wp xs L (d + 10) 174 125 [some (.ref 56), some (.long (z_hd1 W dd kk (z_h3 W dd))), none, some (.int (nI dd)), some (.int (nI kk))] [] z23 (fun v s => v = some (.long (z_dig W t)) ∧ z_MR W s ∧ pi_fr z_RC s σ) from hl23 0 (by omega) _ (pi_fr_t2 rt22 (pi_fr_t2 rt21 (pi_fr_t2 rt20 (pi_fr_t2 hrz4 (pi_fr_rf))))) (gt22)
      refine pi_lp0 ?_ ?_
      · intro z23 hrz23 hx23
        refine pi_ct 3 (c := nI 5 ≤ nI 5) (pc' := 152) (l' := [some (.ref 56), some (.long (z_hd1 W dd 5 (z_h3 W dd))), none, some (.int (nI dd)), some (.int (nI 5))]) (st' := []) (σ' := z23) (pc2 := 131) (l2 := [some (.ref 56), some (.long (z_hd1 W dd 5 (z_h3 W dd))), none, some (.int (nI dd)), some (.int (nI 5))]) (st2 := []) (σ2 := z23) (fun f => rfl) (by decide) ?_
        refine pi_ca 8 (m' := 133) (l' := [some (.ref 56), some (.int (nI dd)), some (.int (nI 0)), some (.int (-1))]) (σ' := z23) (pc2 := 164) (l2 := [some (.ref 56), some (.long (z_hd1 W dd 5 (z_h3 W dd))), none, some (.int (nI dd)), some (.int (nI 5))]) (t := [.long ((Int64.ofNat 31) * (z_hd1 W dd 5 (z_h3 W dd)))]) (fun f => rfl) (pi_M_liesOf0 (dr := dd) (mi := 0) hx23.mr (by omega) (by omega)) ?_
        rintro _ t24 ⟨rfl, gt24, rt24⟩
        refine pi_go 4 (pc' := 170) (l' := [some (.ref 56), some (.long (z_h (z_hd1 W dd 5 (z_h3 W dd)) (Int32.toInt64 (z_all (z_R W (-1) (-1) 0 (fun _ => 0) (0 + 1)).1.1.1 dd)))), none, some (.int (nI dd + nI 1)), some (.int (nI 5))]) (st' := []) (σ' := t24) (fun f => rfl) ?_
        rw [show nI dd + nI 1 = nI (dd + 1) from nI_add _ 1]
        refine pi_go 1 (pc' := 59) (l' := [some (.ref 56), some (.long (z_h (z_hd1 W dd 5 (z_h3 W dd)) (Int32.toInt64 (z_all (z_R W (-1) (-1) 0 (fun _ => 0) (0 + 1)).1.1.1 dd)))), none, some (.int (nI (dd + 1))), some (.int (nI 5))]) (st' := []) (σ' := t24) (fun f => rfl) ?_
        rw [show some (Value.long (z_h (z_hd1 W dd 5 (z_h3 W dd)) (Int32.toInt64 (z_all (z_R W (-1) (-1) 0 (fun _ => 0) (0 + 1)).1.1.1 dd)))) = some (Value.long (z_h3 W (dd + 1))) from congrArg (fun z => some (Value.long z)) (z_h3_s W dd)]
        exact ih4 _ _ (pi_fr_t2 rt24 (pi_fr_t2 hrz23 (pi_fr_rf))) (gt24)
      · intro kk hi23 ih23 z23 hrz23 hx23
        refine pi_cf 3 (c := nI 5 ≤ nI kk) (pc' := 131) (l' := [some (.ref 56), some (.long (z_hd1 W dd kk (z_h3 W dd))), none, some (.int (nI dd)), some (.int (nI kk))]) (st' := []) (σ' := z23) (pc2 := 152) (l2 := [some (.ref 56), some (.long (z_hd1 W dd kk (z_h3 W dd))), none, some (.int (nI dd)), some (.int (nI kk))]) (st2 := []) (σ2 := z23) (fun f => rfl) (fun zq => absurd ((show nI 5 ≤ nI kk ↔ _ from nI_leI (by omega) (by omega)).mp zq) (by omega)) ?_
        refine pi_ca 7 (m' := 158) (l' := [some (.ref 56), some (.int (nI dd)), some (.int (nI kk))]) (σ' := z23) (pc2 := 143) (l2 := [some (.ref 56), some (.long (z_hd1 W dd kk (z_h3 W dd))), none, some (.int (nI dd)), some (.int (nI kk))]) (t := [.long ((Int64.ofNat 31) * (z_hd1 W dd kk (z_h3 W dd)))]) (fun f => rfl) (pi_M_originOf (dr := dd) (kd := kk) hx23.mr (by omega) (by omega)) ?_
        rintro _ t25 ⟨rfl, gt25, rt25⟩
        refine pi_go 4 (pc' := 149) (l' := [some (.ref 56), some (.long (z_h (z_hd1 W dd kk (z_h3 W dd)) (Int32.toInt64 ((z_A W).1.1.2 (5 * dd + kk))))), none, some (.int (nI dd)), some (.int (nI kk + nI 1))]) (st' := []) (σ' := t25) (fun f => rfl) ?_
        rw [show nI kk + nI 1 = nI (kk + 1) from nI_add _ 1]
        refine pi_go 1 (pc' := 125) (l' := [some (.ref 56), some (.long (z_h (z_hd1 W dd kk (z_h3 W dd)) (Int32.toInt64 ((z_A W).1.1.2 (5 * dd + kk))))), none, some (.int (nI dd)), some (.int (nI (kk + 1)))]) (st' := []) (σ' := t25) (fun f => rfl) ?_
        rw [show some (Value.long (z_h (z_hd1 W dd kk (z_h3 W dd)) (Int32.toInt64 ((z_A W).1.1.2 (5 * dd + kk))))) = some (Value.long (z_hd1 W dd (kk + 1) (z_h3 W dd))) from congrArg (fun z => some (Value.long z)) (z_hd1_s W dd kk _)]
        exact ih23 _ (pi_fr_t2 rt25 (pi_fr_t2 hrz23 (pi_fr_rf))) (gt25)
  · intro i hi1 ih1 j4 z1 hrz1 hx1
    refine pi_cf 3 (c := nI 8 ≤ nI i) (pc' := 12) (l' := [some (.ref 56), some (.long (z_h1 W i)), none, some (.int (nI i)), j4]) (st' := []) (σ' := z1) (pc2 := 31) (l2 := [some (.ref 56), some (.long (z_h1 W i)), none, some (.int (nI i)), j4]) (st2 := []) (σ2 := z1) (fun f => rfl) (fun zq => absurd ((show nI 8 ≤ nI i ↔ _ from nI_leI (by omega) (by omega)).mp zq) (by omega)) ?_
    refine pi_ca 6 (m' := 173) (l' := [some (.ref 56), some (.int (nI i))]) (σ' := z1) (pc2 := 22) (l2 := [some (.ref 56), some (.long (z_h1 W i)), none, some (.int (nI i)), j4]) (t := [.long ((Int64.ofNat 31) * (z_h1 W i))]) (fun f => rfl) (pi_P_countN hx1 (by omega)) ?_
    rintro _ t26 ⟨rfl, gt26, rt26⟩
    refine pi_go 4 (pc' := 28) (l' := [some (.ref 56), some (.long (z_h (z_h1 W i) (Int32.toInt64 (z_cnt W i)))), none, some (.int (nI i + nI 1)), j4]) (st' := []) (σ' := t26) (fun f => rfl) ?_
    rw [show nI i + nI 1 = nI (i + 1) from nI_add _ 1]
    refine pi_go 1 (pc' := 6) (l' := [some (.ref 56), some (.long (z_h (z_h1 W i) (Int32.toInt64 (z_cnt W i)))), none, some (.int (nI (i + 1))), j4]) (st' := []) (σ' := t26) (fun f => rfl) ?_
    rw [show some (Value.long (z_h (z_h1 W i) (Int32.toInt64 (z_cnt W i)))) = some (Value.long (z_h1 W (i + 1))) from congrArg (fun z => some (Value.long z)) (z_h1_s W i)]
    exact ih1 _ _ (pi_fr_t2 rt26 (pi_fr_t2 hrz1 (pi_fr_rf))) (gt26)
