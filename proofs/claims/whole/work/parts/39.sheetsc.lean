theorem z_put_at {f g : Nat → Int32} {k i j : Nat} {x : Int32} (h : f j = g (48 * k + j)) : upd f i x j = upd g (48 * k + i) x (48 * k + j) := by
  by_cases q : j = i
  · rw [q, z_upd_s, z_upd_s]
  · rw [z_upd_n _ _ q, z_upd_n _ _ (by omega), h]
theorem z_min_N {a b N : Nat} (ha : a < 2 ^ 30) (hb : b < 2 ^ 30) (h : N ≤ a ∧ N ≤ b ∧ (N = a ∨ N = b)) : (if nI b < nI a then nI b else nI a) = nI N := by
  by_cases q : b < a
  · rw [if_pos ((nI_ltI (by omega) (by omega)).mpr q), show N = b by omega]
  · rw [if_neg (fun z => q ((nI_ltI (by omega) (by omega)).mp z)), show N = a by omega]
set_option maxRecDepth 20000 in
theorem pi_C_found {xs : Nat → Int32} {L d : Nat} {σ : pi_S} (x : Int32)  : pi_wp xs L d 96 0 [some (.ref 0), some (.int x)] [] σ (fun v s => v = some (.int ((-10) - x)) ∧ s 0 7 = x ∧ pi_fs 0 [7] s σ ∧ pi_fr [0] s σ) := by
  refine pi_go 3 (pc' := 5) (l' := [some (.ref 0), some (.int x)]) (st' := []) (σ' := (pi_up σ 0 7 x)) (fun f => rfl) ?_
  generalize es1 : pi_up σ 0 7 x = s1
  refine pi_rt 4 (v := some (.int ((-10) - x))) (σ' := s1) (fun f => rfl) ?_
  exact ⟨rfl, (congrFun (congrFun es1 0) 7).symm.trans (pi_up_ss _ _ _ _), pi_fs_up es1 (by decide) (pi_fs_rf), pi_fr_of es1 (by decide) (pi_fr_rf)⟩
set_option maxRecDepth 20000 in
theorem pi_C_lost0_t {xs : Nat → Int32} {L d : Nat} {W : zW} {σ : pi_S} (hc : z_CK W σ) (hq0 : W.th 0 = 0)  : pi_wp xs L d 36 0 [some (.ref 48)] [] σ (fun v s => v = some (.int (nI 1)) ∧ σ = s) := by
  have hk := hc.p.wk
  have hnd8 := hk.wd.nd8
  have hns12 := hk.wd.ns12
  have hn60 := hk.nine
  have hnf := hk.nf
  have hnw := hk.nw
  have hnc := hk.nc
  have hn08 := hk.wd.n0
  have hn140 := hk.wd.n1
  refine pi_go 2 (pc' := 4) (l' := [some (.ref 48)]) (st' := [.int (σ 48 2)]) (σ' := σ) (fun f => rfl) ?_
  refine pi_tp (y := (-1)) (hc.p.ss0.trans (z_sz_t hq0)) ?_
  refine pi_ct 2 (c := (-1) = (-1)) (pc' := 8) (l' := [some (.ref 48)]) (st' := []) (σ' := σ) (pc2 := 12) (l2 := [some (.ref 48)]) (st2 := []) (σ2 := σ) (fun f => rfl) (by decide) ?_
  refine pi_rb 3 (c := (nI 1) &&& 1 = nI 1) (v := some (.int (nI 1))) (σ' := σ) (fun f => rfl) (by decide) ?_
  exact ⟨rfl, rfl⟩
set_option maxRecDepth 20000 in
theorem pi_C_lost0_f {xs : Nat → Int32} {L d : Nat} {W : zW} {σ : pi_S} (hc : z_CK W σ) (hq1 : ¬ W.th 0 = 0)  : pi_wp xs L d 36 0 [some (.ref 48)] [] σ (fun v s => v = some (.int (nI 0)) ∧ σ = s) := by
  have hk := hc.p.wk
  have hnd8 := hk.wd.nd8
  have hns12 := hk.wd.ns12
  have hn60 := hk.nine
  have hnf := hk.nf
  have hnw := hk.nw
  have hnc := hk.nc
  have hn08 := hk.wd.n0
  have hn140 := hk.wd.n1
  have hsi := hk.si 0 (by omega)
  refine pi_go 2 (pc' := 4) (l' := [some (.ref 48)]) (st' := [.int (σ 48 2)]) (σ' := σ) (fun f => rfl) ?_
  refine pi_tp (y := nI (W.si 0)) (hc.p.ss0.trans (z_sz_f hq1)) ?_
  refine pi_cf 2 (c := nI (W.si 0) = (-1)) (pc' := 12) (l' := [some (.ref 48)]) (st' := []) (σ' := σ) (pc2 := 8) (l2 := [some (.ref 48)]) (st2 := []) (σ2 := σ) (fun f => rfl) (z_nIm _ (by omega)) ?_
  refine pi_rb 2 (c := (nI 0) &&& 1 = nI 0) (v := some (.int (nI 0))) (σ' := σ) (fun f => rfl) (by decide) ?_
  exact ⟨rfl, rfl⟩
set_option maxRecDepth 20000 in
theorem pi_C_renew0 {xs : Nat → Int32} {L d : Nat} {W : zW} {σ : pi_S} (hc : z_CK W σ) {f n : Nat} (hf : f < 3) (hn : n ≤ 48)  : pi_wp xs L d 37 0 [some (.ref 48), some (.int (nI f)), some (.int (nI n)), none] [] σ (fun v s => v = none ∧ s 48 1 = nI f ∧ s 48 2 = nI n ∧ (∀ j, j < 48 → s 49 j = nI 0) ∧ pi_fr [48, 49] s σ) := by
  have hk := hc.p.wk
  have hnd8 := hk.wd.nd8
  have hns12 := hk.wd.ns12
  have hn60 := hk.nine
  have hnf := hk.nf
  have hnw := hk.nw
  have hnc := hk.nc
  have hn08 := hk.wd.n0
  have hn140 := hk.wd.n1
  refine pi_go 3 (pc' := 5) (l' := [some (.ref 48), some (.int (nI f)), some (.int (nI n)), none]) (st' := []) (σ' := (pi_up σ 48 1 (nI f))) (fun f => rfl) ?_
  generalize es1 : pi_up σ 48 1 (nI f) = s1
  refine pi_go 4 (pc' := 12) (l' := [some (.ref 48), some (.int (nI f)), some (.int (nI n)), none]) (st' := [.int (if nI 48 < nI n then nI 48 else nI n), .ref 48]) (σ' := s1) (fun f => rfl) ?_
  refine pi_tp (y := nI n) (if_neg (fun q => absurd ((nI_ltI (by omega) (by omega)).mp q) (by omega))) ?_
  refine pi_go 1 (pc' := 15) (l' := [some (.ref 48), some (.int (nI f)), some (.int (nI n)), none]) (st' := []) (σ' := (pi_up s1 48 2 (nI n))) (fun f => rfl) ?_
  generalize es2 : pi_up s1 48 2 (nI n) = s2
  refine pi_go 2 (pc' := 17) (l' := [some (.ref 48), some (.int (nI f)), some (.int (nI n)), some (.int (nI 0))]) (st' := []) (σ' := s2) (fun f => rfl) ?_
  suffices hl3 : ∀ i, i ≤ 48 → ∀ (z3 : pi_S), pi_fr [48, 49] z3 σ → (z3 48 1 = nI f ∧ z3 48 2 = nI n ∧ ∀ j, j < i → z3 49 j = nI 0) → pi_wp xs L d 37 17 [some (.ref 48), some (.int (nI f)), some (.int (nI n)), some (.int (nI i))] [] z3 (fun v s => v = none ∧ s 48 1 = nI f ∧ s 48 2 = nI n ∧ (∀ j, j < 48 → s 49 j = nI 0) ∧ pi_fr [48, 49] s σ) from hl3 0 (by omega) _ (pi_fr_of es2 (by decide) (pi_fr_of es1 (by decide) (pi_fr_rf))) (⟨(congrFun (congrFun es2 48) 1).symm.trans ((pi_up_sn _ _ _ (by decide)).trans ((congrFun (congrFun es1 48) 1).symm.trans (pi_up_ss _ _ _ _))), (congrFun (congrFun es2 48) 2).symm.trans (pi_up_ss _ _ _ _), fun q hq => absurd hq (Nat.not_lt_zero q)⟩)
  refine pi_lp0 ?_ ?_
  · intro z3 hrz3 hx3
    refine pi_ct 3 (c := nI 48 ≤ nI 48) (pc' := 36) (l' := [some (.ref 48), some (.int (nI f)), some (.int (nI n)), some (.int (nI 48))]) (st' := []) (σ' := z3) (pc2 := 23) (l2 := [some (.ref 48), some (.int (nI f)), some (.int (nI n)), some (.int (nI 48))]) (st2 := []) (σ2 := z3) (fun f => rfl) (by decide) ?_
    refine pi_rt 1 (v := none) (σ' := z3) (fun f => rfl) ?_
    exact ⟨rfl, hx3.1, hx3.2.1, hx3.2.2, pi_fr_tr hrz3 (by decide) (pi_fr_rf)⟩
  · intro i hi3 ih3 z3 hrz3 hx3
    refine pi_cf 3 (c := nI 48 ≤ nI i) (pc' := 23) (l' := [some (.ref 48), some (.int (nI f)), some (.int (nI n)), some (.int (nI i))]) (st' := []) (σ' := z3) (pc2 := 36) (l2 := [some (.ref 48), some (.int (nI f)), some (.int (nI n)), some (.int (nI i))]) (st2 := []) (σ2 := z3) (fun f => rfl) (fun zq => absurd ((show nI 48 ≤ nI i ↔ _ from nI_leI (by omega) (by omega)).mp zq) (by omega)) ?_
    refine pi_au 5 (u := i) (n := 48) (a := 49) (x := nI 0) (pc' := 30) (l' := [some (.ref 48), some (.int (nI f)), some (.int (nI n)), some (.int (nI i))]) (t := []) (σ' := z3) (fun f => rfl) (by omega) (by omega) ?_
    generalize es4 : pi_up z3 49 i (nI 0) = s4
    refine pi_go 1 (pc' := 33) (l' := [some (.ref 48), some (.int (nI f)), some (.int (nI n)), some (.int (nI i + nI 1))]) (st' := []) (σ' := s4) (fun f => rfl) ?_
    rw [show nI i + nI 1 = nI (i + 1) from nI_add _ 1]
    refine pi_go 1 (pc' := 17) (l' := [some (.ref 48), some (.int (nI f)), some (.int (nI n)), some (.int (nI (i + 1)))]) (st' := []) (σ' := s4) (fun f => rfl) ?_
    exact ih3 _ (pi_fr_of es4 (by decide) (pi_fr_tr hrz3 (by decide) (pi_fr_rf))) (⟨(congrFun ((congrFun es4 48).symm.trans (pi_up_ne _ _ _ (by decide))) 1).trans (hx3.1), (congrFun ((congrFun es4 48).symm.trans (pi_up_ne _ _ _ (by decide))) 2).trans (hx3.2.1), lt_s (fun q hq => (congrFun ((congrFun es4 49).symm.trans ((pi_up_self _ _ _ _))) q).trans ((if_neg (by omega)).trans (hx3.2.2 q hq))) ((congrFun ((congrFun es4 49).symm.trans ((pi_up_self _ _ _ _))) i).trans (if_pos rfl))⟩)
set_option maxRecDepth 20000 in
theorem pi_C_why0_1 {xs : Nat → Int32} {L d : Nat} {W : zW} {σ : pi_S} (hc : z_CK W σ) {f : Nat} {i : Int32} (hf3 : f < 3) (hq0 : W.th 0 = 0)  : pi_wp xs L (d + 1) 38 0 [some (.ref 48), some (.int (nI f)), some (.int i)] [] σ (fun v s => v = some (.int (nI 1)) ∧ σ = s) := by
  have hk := hc.p.wk
  have hnd8 := hk.wd.nd8
  have hns12 := hk.wd.ns12
  have hn60 := hk.nine
  have hnf := hk.nf
  have hnw := hk.nw
  have hnc := hk.nc
  have hn08 := hk.wd.n0
  have hn140 := hk.wd.n1
  have hsi := hk.si 0 (by omega)
  refine pi_ca 2 (m' := 36) (l' := [some (.ref 48)]) (σ' := σ) (pc2 := 4) (l2 := [some (.ref 48), some (.int (nI f)), some (.int i)]) (t := []) (fun f => rfl) (pi_C_lost0_t hc hq0) ?_
  rintro _ _ ⟨rfl, rfl⟩
  refine pi_cf 1 (c := nI 1 = 0) (pc' := 7) (l' := [some (.ref 48), some (.int (nI f)), some (.int i)]) (st' := []) (σ' := σ) (pc2 := 9) (l2 := [some (.ref 48), some (.int (nI f)), some (.int i)]) (st2 := []) (σ2 := σ) (fun f => rfl) (by decide) ?_
  refine pi_rt 2 (v := some (.int (nI 1))) (σ' := σ) (fun f => rfl) ?_
  exact ⟨rfl, rfl⟩
set_option maxRecDepth 20000 in
theorem pi_C_why0_3 {xs : Nat → Int32} {L d : Nat} {W : zW} {σ : pi_S} (hc : z_CK W σ) {f : Nat} {i : Int32} (hf3 : f < 3) (hq1 : ¬ W.th 0 = 0) (h3 : ¬ W.fo 0 = f)  : pi_wp xs L (d + 1) 38 0 [some (.ref 48), some (.int (nI f)), some (.int i)] [] σ (fun v s => v = some (.int (nI 3)) ∧ σ = s) := by
  have hk := hc.p.wk
  have hnd8 := hk.wd.nd8
  have hns12 := hk.wd.ns12
  have hn60 := hk.nine
  have hnf := hk.nf
  have hnw := hk.nw
  have hnc := hk.nc
  have hn08 := hk.wd.n0
  have hn140 := hk.wd.n1
  have hsi := hk.si 0 (by omega)
  refine pi_ca 2 (m' := 36) (l' := [some (.ref 48)]) (σ' := σ) (pc2 := 4) (l2 := [some (.ref 48), some (.int (nI f)), some (.int i)]) (t := []) (fun f => rfl) (pi_C_lost0_f hc hq1) ?_
  rintro _ _ ⟨rfl, rfl⟩
  refine pi_ct 1 (c := nI 0 = 0) (pc' := 9) (l' := [some (.ref 48), some (.int (nI f)), some (.int i)]) (st' := []) (σ' := σ) (pc2 := 7) (l2 := [some (.ref 48), some (.int (nI f)), some (.int i)]) (st2 := []) (σ2 := σ) (fun f => rfl) (by decide) ?_
  refine pi_go 3 (pc' := 14) (l' := [some (.ref 48), some (.int (nI f)), some (.int i)]) (st' := [.int (σ 48 1), .int (nI f)]) (σ' := σ) (fun f => rfl) ?_
  refine pi_tp (y := nI (W.fo 0)) (hc.p.sf0) ?_
  refine pi_cf 1 (c := nI f = nI (W.fo 0)) (pc' := 17) (l' := [some (.ref 48), some (.int (nI f)), some (.int i)]) (st' := []) (σ' := σ) (pc2 := 19) (l2 := [some (.ref 48), some (.int (nI f)), some (.int i)]) (st2 := []) (σ2 := σ) (fun f => rfl) (fun q => h3 ((nI_eq (by omega) (by omega)).mp q.symm)) ?_
  refine pi_rt 2 (v := some (.int (nI 3))) (σ' := σ) (fun f => rfl) ?_
  exact ⟨rfl, rfl⟩
set_option maxRecDepth 20000 in
theorem pi_C_why0_2 {xs : Nat → Int32} {L d : Nat} {W : zW} {σ : pi_S} (hc : z_CK W σ) {f : Nat} {i : Int32} (hf3 : f < 3) (hq1 : ¬ W.th 0 = 0) (h3 : W.fo 0 = f) (h2 : ¬ z_B (W.si 0) i)  : pi_wp xs L (d + 1) 38 0 [some (.ref 48), some (.int (nI f)), some (.int i)] [] σ (fun v s => v = some (.int (nI 2)) ∧ σ = s) := by
  have hk := hc.p.wk
  have hnd8 := hk.wd.nd8
  have hns12 := hk.wd.ns12
  have hn60 := hk.nine
  have hnf := hk.nf
  have hnw := hk.nw
  have hnc := hk.nc
  have hn08 := hk.wd.n0
  have hn140 := hk.wd.n1
  have hsi := hk.si 0 (by omega)
  refine pi_ca 2 (m' := 36) (l' := [some (.ref 48)]) (σ' := σ) (pc2 := 4) (l2 := [some (.ref 48), some (.int (nI f)), some (.int i)]) (t := []) (fun f => rfl) (pi_C_lost0_f hc hq1) ?_
  rintro _ _ ⟨rfl, rfl⟩
  refine pi_ct 1 (c := nI 0 = 0) (pc' := 9) (l' := [some (.ref 48), some (.int (nI f)), some (.int i)]) (st' := []) (σ' := σ) (pc2 := 7) (l2 := [some (.ref 48), some (.int (nI f)), some (.int i)]) (st2 := []) (σ2 := σ) (fun f => rfl) (by decide) ?_
  refine pi_go 3 (pc' := 14) (l' := [some (.ref 48), some (.int (nI f)), some (.int i)]) (st' := [.int (σ 48 1), .int (nI f)]) (σ' := σ) (fun f => rfl) ?_
  refine pi_tp (y := nI (W.fo 0)) (hc.p.sf0) ?_
  refine pi_ct 1 (c := nI f = nI (W.fo 0)) (pc' := 19) (l' := [some (.ref 48), some (.int (nI f)), some (.int i)]) (st' := []) (σ' := σ) (pc2 := 17) (l2 := [some (.ref 48), some (.int (nI f)), some (.int i)]) (st2 := []) (σ2 := σ) (fun f => rfl) (congrArg nI h3.symm) ?_
  refine pi_go 3 (pc' := 24) (l' := [some (.ref 48), some (.int (nI f)), some (.int i)]) (st' := [.int (σ 48 2), .int i]) (σ' := σ) (fun f => rfl) ?_
  refine pi_tp (y := nI (W.si 0)) (hc.p.ss0.trans (z_sz_f hq1)) ?_
  refine pi_ca 1 (m' := 94) (l' := [some (.int i), some (.int (nI (W.si 0)))]) (σ' := σ) (pc2 := 27) (l2 := [some (.ref 48), some (.int (nI f)), some (.int i)]) (t := []) (fun f => rfl) (pi_C_belowB (a := i) (n := W.si 0) (by omega)) ?_
  rintro _ _ (⟨b1, rfl, rfl⟩ | ⟨b1, rfl, rfl⟩)
  · refine pi_cf 1 (c := nI 1 = 0) (pc' := 30) (l' := [some (.ref 48), some (.int (nI f)), some (.int i)]) (st' := []) (σ' := σ) (pc2 := 34) (l2 := [some (.ref 48), some (.int (nI f)), some (.int i)]) (st2 := []) (σ2 := σ) (fun f => rfl) (by decide) ?_
    exact absurd b1 h2
  · refine pi_ct 1 (c := nI 0 = 0) (pc' := 34) (l' := [some (.ref 48), some (.int (nI f)), some (.int i)]) (st' := []) (σ' := σ) (pc2 := 30) (l2 := [some (.ref 48), some (.int (nI f)), some (.int i)]) (st2 := []) (σ2 := σ) (fun f => rfl) (by decide) ?_
    refine pi_rt 2 (v := some (.int (nI 2))) (σ' := σ) (fun f => rfl) ?_
    exact ⟨rfl, rfl⟩
set_option maxRecDepth 20000 in
theorem pi_C_why0_0 {xs : Nat → Int32} {L d : Nat} {W : zW} {σ : pi_S} (hc : z_CK W σ) {f i : Nat} (hf3 : f < 3) (hq1 : ¬ W.th 0 = 0) (h3 : W.fo 0 = f) (h2 : i < W.si 0)  : pi_wp xs L (d + 1) 38 0 [some (.ref 48), some (.int (nI f)), some (.int (nI i))] [] σ (fun v s => v = some (.int (nI 0)) ∧ σ = s) := by
  have hk := hc.p.wk
  have hnd8 := hk.wd.nd8
  have hns12 := hk.wd.ns12
  have hn60 := hk.nine
  have hnf := hk.nf
  have hnw := hk.nw
  have hnc := hk.nc
  have hn08 := hk.wd.n0
  have hn140 := hk.wd.n1
  have hsi := hk.si 0 (by omega)
  refine pi_ca 2 (m' := 36) (l' := [some (.ref 48)]) (σ' := σ) (pc2 := 4) (l2 := [some (.ref 48), some (.int (nI f)), some (.int (nI i))]) (t := []) (fun f => rfl) (pi_C_lost0_f hc hq1) ?_
  rintro _ _ ⟨rfl, rfl⟩
  refine pi_ct 1 (c := nI 0 = 0) (pc' := 9) (l' := [some (.ref 48), some (.int (nI f)), some (.int (nI i))]) (st' := []) (σ' := σ) (pc2 := 7) (l2 := [some (.ref 48), some (.int (nI f)), some (.int (nI i))]) (st2 := []) (σ2 := σ) (fun f => rfl) (by decide) ?_
  refine pi_go 3 (pc' := 14) (l' := [some (.ref 48), some (.int (nI f)), some (.int (nI i))]) (st' := [.int (σ 48 1), .int (nI f)]) (σ' := σ) (fun f => rfl) ?_
  refine pi_tp (y := nI (W.fo 0)) (hc.p.sf0) ?_
  refine pi_ct 1 (c := nI f = nI (W.fo 0)) (pc' := 19) (l' := [some (.ref 48), some (.int (nI f)), some (.int (nI i))]) (st' := []) (σ' := σ) (pc2 := 17) (l2 := [some (.ref 48), some (.int (nI f)), some (.int (nI i))]) (st2 := []) (σ2 := σ) (fun f => rfl) (congrArg nI h3.symm) ?_
  refine pi_go 3 (pc' := 24) (l' := [some (.ref 48), some (.int (nI f)), some (.int (nI i))]) (st' := [.int (σ 48 2), .int (nI i)]) (σ' := σ) (fun f => rfl) ?_
  refine pi_tp (y := nI (W.si 0)) (hc.p.ss0.trans (z_sz_f hq1)) ?_
  refine pi_ca 1 (m' := 94) (l' := [some (.int (nI i)), some (.int (nI (W.si 0)))]) (σ' := σ) (pc2 := 27) (l2 := [some (.ref 48), some (.int (nI f)), some (.int (nI i))]) (t := []) (fun f => rfl) (pi_below1 _ _ (z_BL (by omega) (by omega))) ?_
  rintro _ _ ⟨rfl, rfl⟩
  refine pi_cf 1 (c := nI 1 = 0) (pc' := 30) (l' := [some (.ref 48), some (.int (nI f)), some (.int (nI i))]) (st' := []) (σ' := σ) (pc2 := 34) (l2 := [some (.ref 48), some (.int (nI f)), some (.int (nI i))]) (st2 := []) (σ2 := σ) (fun f => rfl) (by decide) ?_
  refine pi_rt 3 (v := some (.int (nI 0))) (σ' := σ) (fun f => rfl) ?_
  exact ⟨rfl, rfl⟩
set_option maxRecDepth 20000 in
theorem pi_C_itemAt0 {xs : Nat → Int32} {L d : Nat} {W : zW} {σ : pi_S} {i : Nat} (hsz : σ 48 2 = nI (W.si 0)) (hs48 : W.si 0 ≤ 48) (hit : σ 49 i = W.it (48 * 0 + i)) (h2 : i < W.si 0)  : pi_wp xs L (d + 1) 40 0 [some (.ref 48), some (.int (nI i))] [] σ (fun v s => v = some (.int (W.it (48 * 0 + i))) ∧ σ = s) := by
  refine pi_go 3 (pc' := 5) (l' := [some (.ref 48), some (.int (nI i))]) (st' := [.int (σ 48 2), .int (nI i)]) (σ' := σ) (fun f => rfl) ?_
  refine pi_tp (y := nI (W.si 0)) (hsz) ?_
  refine pi_ca 1 (m' := 94) (l' := [some (.int (nI i)), some (.int (nI (W.si 0)))]) (σ' := σ) (pc2 := 8) (l2 := [some (.ref 48), some (.int (nI i))]) (t := []) (fun f => rfl) (pi_below1 _ _ (z_BL (by omega) (by omega))) ?_
  rintro _ _ ⟨rfl, rfl⟩
  refine pi_cf 1 (c := nI 1 = 0) (pc' := 11) (l' := [some (.ref 48), some (.int (nI i))]) (st' := []) (σ' := σ) (pc2 := 20) (l2 := [some (.ref 48), some (.int (nI i))]) (st2 := []) (σ2 := σ) (fun f => rfl) (by decide) ?_
  refine pi_ai 4 (u := i) (n := 48) (g := σ 49) (pc' := 17) (l' := [some (.ref 48), some (.int (nI i))]) (t := []) (σ' := σ) (fun f => rfl) (by omega) (by omega) ?_
  refine pi_tp (y := W.it (48 * 0 + i)) (hit) ?_
  refine pi_rt 2 (v := some (.int (W.it (48 * 0 + i)))) (σ' := σ) (fun f => rfl) ?_
  exact ⟨rfl, rfl⟩
set_option maxRecDepth 20000 in
theorem pi_C_narrow0 {xs : Nat → Int32} {L d : Nat} {W : zW} {σ : pi_S} (hfo : σ 48 1 = nI (W.fo 0)) (hf3 : W.fo 0 < 3) (x : Int32)  : pi_wp xs L d 42 0 [some (.ref 48), some (.int x)] [] σ (fun v s => v = some (.int (z_nar (W.fo 0) x)) ∧ σ = s) := by
  refine pi_go 2 (pc' := 4) (l' := [some (.ref 48), some (.int x)]) (st' := [.int (σ 48 1)]) (σ' := σ) (fun f => rfl) ?_
  refine pi_tp (y := nI (W.fo 0)) (hfo) ?_
  refine pi_if 1 (c := nI (W.fo 0) = 0) (pc' := 7) (l' := [some (.ref 48), some (.int x)]) (st' := []) (σ' := σ) (pc2 := 10) (l2 := [some (.ref 48), some (.int x)]) (st2 := []) (σ2 := σ) (fun f => rfl) (fun h1 => ?_) (fun h1 => ?_)
  · replace h1 : (W.fo 0) = 0 := (show nI (W.fo 0) = nI 0 ↔ _ from nI_eq (by omega) (by omega)).mp h1
    refine pi_rt 3 (v := some (.int ((Int32.toInt8 x).toInt32))) (σ' := σ) (fun f => rfl) ?_
    exact ⟨congrArg (fun z => some (Value.int z)) (show _ = z_nar (W.fo 0) x from (if_pos h1).symm), rfl⟩
  · replace h1 : ¬ ((W.fo 0) = 0) := fun zq => h1 ((show nI (W.fo 0) = nI 0 ↔ _ from nI_eq (by omega) (by omega)).mpr zq)
    refine pi_go 2 (pc' := 14) (l' := [some (.ref 48), some (.int x)]) (st' := [.int (σ 48 1)]) (σ' := σ) (fun f => rfl) ?_
    refine pi_tp (y := nI (W.fo 0)) (hfo) ?_
    refine pi_if 2 (c := nI (W.fo 0) = nI 1) (pc' := 18) (l' := [some (.ref 48), some (.int x)]) (st' := []) (σ' := σ) (pc2 := 23) (l2 := [some (.ref 48), some (.int x)]) (st2 := []) (σ2 := σ) (fun f => rfl) (fun h2 => ?_) (fun h2 => ?_)
    · replace h2 : (W.fo 0) = 1 := (nI_eq (by omega) (by omega)).mp h2
      refine pi_rt 4 (v := some (.int ((Int32.toInt16 x).toInt32))) (σ' := σ) (fun f => rfl) ?_
      exact ⟨congrArg (fun z => some (Value.int z)) (show _ = z_nar (W.fo 0) x from ((if_neg h1).trans (if_pos h2)).symm), rfl⟩
    · replace h2 : ¬ ((W.fo 0) = 1) := fun zq => h2 ((nI_eq (by omega) (by omega)).mpr zq)
      refine pi_rt 2 (v := some (.int x)) (σ' := σ) (fun f => rfl) ?_
      exact ⟨congrArg (fun z => some (Value.int z)) (show _ = z_nar (W.fo 0) x from ((if_neg h1).trans (if_neg h2)).symm), rfl⟩
set_option maxRecDepth 20000 in
theorem pi_C_store0 {xs : Nat → Int32} {L d : Nat} {W : zW} {σ : pi_S} (hfo : σ 48 1 = nI (W.fo 0)) (hf3 : W.fo 0 < 3) (hsz : σ 48 2 = nI (W.si 0)) (hs48 : W.si 0 ≤ 48) {i : Nat} (h2 : i < W.si 0) (x : Int32)  : pi_wp xs L (d + 1) 41 0 [some (.ref 48), some (.int (nI i)), some (.int x)] [] σ (fun v s => v = none ∧ s 49 = upd (σ 49) i (z_nar (W.fo 0) x) ∧ pi_fr [49] s σ) := by
  refine pi_go 3 (pc' := 5) (l' := [some (.ref 48), some (.int (nI i)), some (.int x)]) (st' := [.int (σ 48 2), .int (nI i)]) (σ' := σ) (fun f => rfl) ?_
  refine pi_tp (y := nI (W.si 0)) (hsz) ?_
  refine pi_ca 1 (m' := 94) (l' := [some (.int (nI i)), some (.int (nI (W.si 0)))]) (σ' := σ) (pc2 := 8) (l2 := [some (.ref 48), some (.int (nI i)), some (.int x)]) (t := []) (fun f => rfl) (pi_below1 _ _ (z_BL (by omega) (by omega))) ?_
  rintro _ _ ⟨rfl, rfl⟩
  refine pi_cf 1 (c := nI 1 = 0) (pc' := 11) (l' := [some (.ref 48), some (.int (nI i)), some (.int x)]) (st' := []) (σ' := σ) (pc2 := 22) (l2 := [some (.ref 48), some (.int (nI i)), some (.int x)]) (st2 := []) (σ2 := σ) (fun f => rfl) (by decide) ?_
  refine pi_ca 6 (m' := 42) (l' := [some (.ref 48), some (.int x)]) (σ' := σ) (pc2 := 21) (l2 := [some (.ref 48), some (.int (nI i)), some (.int x)]) (t := [.int (nI i), .ref 49]) (fun f => rfl) (pi_C_narrow0 (W := W) hfo hf3 x) ?_
  rintro _ _ ⟨rfl, rfl⟩
  refine pi_au 1 (u := i) (n := 48) (a := 49) (x := z_nar (W.fo 0) x) (pc' := 22) (l' := [some (.ref 48), some (.int (nI i)), some (.int x)]) (t := []) (σ' := σ) (fun f => rfl) (by omega) (by omega) ?_
  generalize es1 : pi_up σ 49 i (z_nar (W.fo 0) x) = s1
  refine pi_rt 1 (v := none) (σ' := s1) (fun f => rfl) ?_
  exact ⟨rfl, (congrFun es1 49).symm.trans ((pi_up_self _ _ _ _)), pi_fr_of es1 (by decide) (pi_fr_rf)⟩
set_option maxRecDepth 20000 in
theorem pi_C_hasRun0 {xs : Nat → Int32} {L d : Nat} {W : zW} {σ : pi_S} (hc : z_CK W σ) (hq1 : ¬ W.th 0 = 0) (i n : Int32)  : pi_wp xs L d 39 0 [some (.ref 48), some (.int i), some (.int n)] [] σ (fun v s => (z_hr (W.si 0) i n ∧ v = some (.int (nI 1)) ∧ σ = s) ∨ (¬ z_hr (W.si 0) i n ∧ v = some (.int (nI 0)) ∧ σ = s)) := by
  have hk := hc.p.wk
  have hnd8 := hk.wd.nd8
  have hns12 := hk.wd.ns12
  have hn60 := hk.nine
  have hnf := hk.nf
  have hnw := hk.nw
  have hnc := hk.nc
  have hn08 := hk.wd.n0
  have hn140 := hk.wd.n1
  have hsi := hk.si 0 (by omega)
  refine pi_if 2 (c := i < 0) (pc' := 30) (l' := [some (.ref 48), some (.int i), some (.int n)]) (st' := []) (σ' := σ) (pc2 := 4) (l2 := [some (.ref 48), some (.int i), some (.int n)]) (st2 := []) (σ2 := σ) (fun f => rfl) (fun h1 => ?_) (fun h1 => ?_)
  · refine pi_rb 2 (c := (nI 0) &&& 1 = nI 0) (v := some (.int (nI 0))) (σ' := σ) (fun f => rfl) (by decide) ?_
    exact Or.inr ⟨z_hr_1 hsi.1 h1, rfl, rfl⟩
  · refine pi_if 2 (c := n < 0) (pc' := 30) (l' := [some (.ref 48), some (.int i), some (.int n)]) (st' := []) (σ' := σ) (pc2 := 8) (l2 := [some (.ref 48), some (.int i), some (.int n)]) (st2 := []) (σ2 := σ) (fun f => rfl) (fun h2 => ?_) (fun h2 => ?_)
    · refine pi_rb 2 (c := (nI 0) &&& 1 = nI 0) (v := some (.int (nI 0))) (σ' := σ) (fun f => rfl) (by decide) ?_
      exact Or.inr ⟨z_hr_2 hsi.1 h2, rfl, rfl⟩
    · refine pi_go 3 (pc' := 13) (l' := [some (.ref 48), some (.int i), some (.int n)]) (st' := [.int (σ 48 2), .int n]) (σ' := σ) (fun f => rfl) ?_
      refine pi_tp (y := nI (W.si 0)) (hc.p.ss0.trans (z_sz_f hq1)) ?_
      refine pi_if 1 (c := nI (W.si 0) < n) (pc' := 30) (l' := [some (.ref 48), some (.int i), some (.int n)]) (st' := []) (σ' := σ) (pc2 := 16) (l2 := [some (.ref 48), some (.int i), some (.int n)]) (st2 := []) (σ2 := σ) (fun f => rfl) (fun h3 => ?_) (fun h3 => ?_)
      · refine pi_rb 2 (c := (nI 0) &&& 1 = nI 0) (v := some (.int (nI 0))) (σ' := σ) (fun f => rfl) (by decide) ?_
        exact Or.inr ⟨z_hr_3 hsi.1 h3, rfl, rfl⟩
      · refine pi_go 3 (pc' := 21) (l' := [some (.ref 48), some (.int i), some (.int n)]) (st' := [.int (σ 48 2), .int i]) (σ' := σ) (fun f => rfl) ?_
        refine pi_tp (y := nI (W.si 0)) (hc.p.ss0.trans (z_sz_f hq1)) ?_
        refine pi_if 3 (c := (nI (W.si 0)) - n < i) (pc' := 30) (l' := [some (.ref 48), some (.int i), some (.int n)]) (st' := []) (σ' := σ) (pc2 := 26) (l2 := [some (.ref 48), some (.int i), some (.int n)]) (st2 := []) (σ2 := σ) (fun f => rfl) (fun h4 => ?_) (fun h4 => ?_)
        · refine pi_rb 2 (c := (nI 0) &&& 1 = nI 0) (v := some (.int (nI 0))) (σ' := σ) (fun f => rfl) (by decide) ?_
          exact Or.inr ⟨z_hr_4 hsi.1 h4, rfl, rfl⟩
        · refine pi_rb 3 (c := (nI 1) &&& 1 = nI 1) (v := some (.int (nI 1))) (σ' := σ) (fun f => rfl) (by decide) ?_
          exact Or.inl ⟨z_hr_t hsi.1 h1 h2 (Int32.not_lt.mp h3) (Int32.not_lt.mp h4), rfl, rfl⟩
theorem pi_C_hasRun0T {xs : Nat → Int32} {L d : Nat} {W : zW} {σ : pi_S} (hc : z_CK W σ) (hq1 : ¬ W.th 0 = 0) {i n : Int32} (h : z_hr (W.si 0) i n) : pi_wp xs L d 39 0 [some (.ref 48), some (.int i), some (.int n)] [] σ (fun v s => v = some (.int (nI 1)) ∧ σ = s) :=
  pi_mo (fun v s q => q.elim (fun q => q.2) (fun q => absurd h q.1)) (pi_C_hasRun0 hc hq1 i n)
set_option maxRecDepth 20000 in
theorem pi_C_lost1_t {xs : Nat → Int32} {L d : Nat} {W : zW} {σ : pi_S} (hc : z_CK W σ) (hq0 : W.th 1 = 0)  : pi_wp xs L d 36 0 [some (.ref 50)] [] σ (fun v s => v = some (.int (nI 1)) ∧ σ = s) := by
  have hk := hc.p.wk
  have hnd8 := hk.wd.nd8
  have hns12 := hk.wd.ns12
  have hn60 := hk.nine
  have hnf := hk.nf
  have hnw := hk.nw
  have hnc := hk.nc
  have hn08 := hk.wd.n0
  have hn140 := hk.wd.n1
  refine pi_go 2 (pc' := 4) (l' := [some (.ref 50)]) (st' := [.int (σ 50 2)]) (σ' := σ) (fun f => rfl) ?_
  refine pi_tp (y := (-1)) (hc.p.ss1.trans (z_sz_t hq0)) ?_
  refine pi_ct 2 (c := (-1) = (-1)) (pc' := 8) (l' := [some (.ref 50)]) (st' := []) (σ' := σ) (pc2 := 12) (l2 := [some (.ref 50)]) (st2 := []) (σ2 := σ) (fun f => rfl) (by decide) ?_
  refine pi_rb 3 (c := (nI 1) &&& 1 = nI 1) (v := some (.int (nI 1))) (σ' := σ) (fun f => rfl) (by decide) ?_
  exact ⟨rfl, rfl⟩
set_option maxRecDepth 20000 in
theorem pi_C_lost1_f {xs : Nat → Int32} {L d : Nat} {W : zW} {σ : pi_S} (hc : z_CK W σ) (hq1 : ¬ W.th 1 = 0)  : pi_wp xs L d 36 0 [some (.ref 50)] [] σ (fun v s => v = some (.int (nI 0)) ∧ σ = s) := by
  have hk := hc.p.wk
  have hnd8 := hk.wd.nd8
  have hns12 := hk.wd.ns12
  have hn60 := hk.nine
  have hnf := hk.nf
  have hnw := hk.nw
  have hnc := hk.nc
  have hn08 := hk.wd.n0
  have hn140 := hk.wd.n1
  have hsi := hk.si 1 (by omega)
  refine pi_go 2 (pc' := 4) (l' := [some (.ref 50)]) (st' := [.int (σ 50 2)]) (σ' := σ) (fun f => rfl) ?_
  refine pi_tp (y := nI (W.si 1)) (hc.p.ss1.trans (z_sz_f hq1)) ?_
  refine pi_cf 2 (c := nI (W.si 1) = (-1)) (pc' := 12) (l' := [some (.ref 50)]) (st' := []) (σ' := σ) (pc2 := 8) (l2 := [some (.ref 50)]) (st2 := []) (σ2 := σ) (fun f => rfl) (z_nIm _ (by omega)) ?_
  refine pi_rb 2 (c := (nI 0) &&& 1 = nI 0) (v := some (.int (nI 0))) (σ' := σ) (fun f => rfl) (by decide) ?_
  exact ⟨rfl, rfl⟩
set_option maxRecDepth 20000 in
theorem pi_C_renew1 {xs : Nat → Int32} {L d : Nat} {W : zW} {σ : pi_S} (hc : z_CK W σ) {f n : Nat} (hf : f < 3) (hn : n ≤ 48)  : pi_wp xs L d 37 0 [some (.ref 50), some (.int (nI f)), some (.int (nI n)), none] [] σ (fun v s => v = none ∧ s 50 1 = nI f ∧ s 50 2 = nI n ∧ (∀ j, j < 48 → s 51 j = nI 0) ∧ pi_fr [50, 51] s σ) := by
  have hk := hc.p.wk
  have hnd8 := hk.wd.nd8
  have hns12 := hk.wd.ns12
  have hn60 := hk.nine
  have hnf := hk.nf
  have hnw := hk.nw
  have hnc := hk.nc
  have hn08 := hk.wd.n0
  have hn140 := hk.wd.n1
  refine pi_go 3 (pc' := 5) (l' := [some (.ref 50), some (.int (nI f)), some (.int (nI n)), none]) (st' := []) (σ' := (pi_up σ 50 1 (nI f))) (fun f => rfl) ?_
  generalize es1 : pi_up σ 50 1 (nI f) = s1
  refine pi_go 4 (pc' := 12) (l' := [some (.ref 50), some (.int (nI f)), some (.int (nI n)), none]) (st' := [.int (if nI 48 < nI n then nI 48 else nI n), .ref 50]) (σ' := s1) (fun f => rfl) ?_
  refine pi_tp (y := nI n) (if_neg (fun q => absurd ((nI_ltI (by omega) (by omega)).mp q) (by omega))) ?_
  refine pi_go 1 (pc' := 15) (l' := [some (.ref 50), some (.int (nI f)), some (.int (nI n)), none]) (st' := []) (σ' := (pi_up s1 50 2 (nI n))) (fun f => rfl) ?_
  generalize es2 : pi_up s1 50 2 (nI n) = s2
  refine pi_go 2 (pc' := 17) (l' := [some (.ref 50), some (.int (nI f)), some (.int (nI n)), some (.int (nI 0))]) (st' := []) (σ' := s2) (fun f => rfl) ?_
  suffices hl3 : ∀ i, i ≤ 48 → ∀ (z3 : pi_S), pi_fr [50, 51] z3 σ → (z3 50 1 = nI f ∧ z3 50 2 = nI n ∧ ∀ j, j < i → z3 51 j = nI 0) → pi_wp xs L d 37 17 [some (.ref 50), some (.int (nI f)), some (.int (nI n)), some (.int (nI i))] [] z3 (fun v s => v = none ∧ s 50 1 = nI f ∧ s 50 2 = nI n ∧ (∀ j, j < 48 → s 51 j = nI 0) ∧ pi_fr [50, 51] s σ) from hl3 0 (by omega) _ (pi_fr_of es2 (by decide) (pi_fr_of es1 (by decide) (pi_fr_rf))) (⟨(congrFun (congrFun es2 50) 1).symm.trans ((pi_up_sn _ _ _ (by decide)).trans ((congrFun (congrFun es1 50) 1).symm.trans (pi_up_ss _ _ _ _))), (congrFun (congrFun es2 50) 2).symm.trans (pi_up_ss _ _ _ _), fun q hq => absurd hq (Nat.not_lt_zero q)⟩)
  refine pi_lp0 ?_ ?_
  · intro z3 hrz3 hx3
    refine pi_ct 3 (c := nI 48 ≤ nI 48) (pc' := 36) (l' := [some (.ref 50), some (.int (nI f)), some (.int (nI n)), some (.int (nI 48))]) (st' := []) (σ' := z3) (pc2 := 23) (l2 := [some (.ref 50), some (.int (nI f)), some (.int (nI n)), some (.int (nI 48))]) (st2 := []) (σ2 := z3) (fun f => rfl) (by decide) ?_
    refine pi_rt 1 (v := none) (σ' := z3) (fun f => rfl) ?_
    exact ⟨rfl, hx3.1, hx3.2.1, hx3.2.2, pi_fr_tr hrz3 (by decide) (pi_fr_rf)⟩
  · intro i hi3 ih3 z3 hrz3 hx3
    refine pi_cf 3 (c := nI 48 ≤ nI i) (pc' := 23) (l' := [some (.ref 50), some (.int (nI f)), some (.int (nI n)), some (.int (nI i))]) (st' := []) (σ' := z3) (pc2 := 36) (l2 := [some (.ref 50), some (.int (nI f)), some (.int (nI n)), some (.int (nI i))]) (st2 := []) (σ2 := z3) (fun f => rfl) (fun zq => absurd ((show nI 48 ≤ nI i ↔ _ from nI_leI (by omega) (by omega)).mp zq) (by omega)) ?_
    refine pi_au 5 (u := i) (n := 48) (a := 51) (x := nI 0) (pc' := 30) (l' := [some (.ref 50), some (.int (nI f)), some (.int (nI n)), some (.int (nI i))]) (t := []) (σ' := z3) (fun f => rfl) (by omega) (by omega) ?_
    generalize es4 : pi_up z3 51 i (nI 0) = s4
    refine pi_go 1 (pc' := 33) (l' := [some (.ref 50), some (.int (nI f)), some (.int (nI n)), some (.int (nI i + nI 1))]) (st' := []) (σ' := s4) (fun f => rfl) ?_
    rw [show nI i + nI 1 = nI (i + 1) from nI_add _ 1]
    refine pi_go 1 (pc' := 17) (l' := [some (.ref 50), some (.int (nI f)), some (.int (nI n)), some (.int (nI (i + 1)))]) (st' := []) (σ' := s4) (fun f => rfl) ?_
    exact ih3 _ (pi_fr_of es4 (by decide) (pi_fr_tr hrz3 (by decide) (pi_fr_rf))) (⟨(congrFun ((congrFun es4 50).symm.trans (pi_up_ne _ _ _ (by decide))) 1).trans (hx3.1), (congrFun ((congrFun es4 50).symm.trans (pi_up_ne _ _ _ (by decide))) 2).trans (hx3.2.1), lt_s (fun q hq => (congrFun ((congrFun es4 51).symm.trans ((pi_up_self _ _ _ _))) q).trans ((if_neg (by omega)).trans (hx3.2.2 q hq))) ((congrFun ((congrFun es4 51).symm.trans ((pi_up_self _ _ _ _))) i).trans (if_pos rfl))⟩)
set_option maxRecDepth 20000 in
theorem pi_C_why1_1 {xs : Nat → Int32} {L d : Nat} {W : zW} {σ : pi_S} (hc : z_CK W σ) {f : Nat} {i : Int32} (hf3 : f < 3) (hq0 : W.th 1 = 0)  : pi_wp xs L (d + 1) 38 0 [some (.ref 50), some (.int (nI f)), some (.int i)] [] σ (fun v s => v = some (.int (nI 1)) ∧ σ = s) := by
  have hk := hc.p.wk
  have hnd8 := hk.wd.nd8
  have hns12 := hk.wd.ns12
  have hn60 := hk.nine
  have hnf := hk.nf
  have hnw := hk.nw
  have hnc := hk.nc
  have hn08 := hk.wd.n0
  have hn140 := hk.wd.n1
  have hsi := hk.si 1 (by omega)
  refine pi_ca 2 (m' := 36) (l' := [some (.ref 50)]) (σ' := σ) (pc2 := 4) (l2 := [some (.ref 50), some (.int (nI f)), some (.int i)]) (t := []) (fun f => rfl) (pi_C_lost1_t hc hq0) ?_
  rintro _ _ ⟨rfl, rfl⟩
  refine pi_cf 1 (c := nI 1 = 0) (pc' := 7) (l' := [some (.ref 50), some (.int (nI f)), some (.int i)]) (st' := []) (σ' := σ) (pc2 := 9) (l2 := [some (.ref 50), some (.int (nI f)), some (.int i)]) (st2 := []) (σ2 := σ) (fun f => rfl) (by decide) ?_
  refine pi_rt 2 (v := some (.int (nI 1))) (σ' := σ) (fun f => rfl) ?_
  exact ⟨rfl, rfl⟩
set_option maxRecDepth 20000 in
theorem pi_C_why1_3 {xs : Nat → Int32} {L d : Nat} {W : zW} {σ : pi_S} (hc : z_CK W σ) {f : Nat} {i : Int32} (hf3 : f < 3) (hq1 : ¬ W.th 1 = 0) (h3 : ¬ W.fo 1 = f)  : pi_wp xs L (d + 1) 38 0 [some (.ref 50), some (.int (nI f)), some (.int i)] [] σ (fun v s => v = some (.int (nI 3)) ∧ σ = s) := by
  have hk := hc.p.wk
  have hnd8 := hk.wd.nd8
  have hns12 := hk.wd.ns12
  have hn60 := hk.nine
  have hnf := hk.nf
  have hnw := hk.nw
  have hnc := hk.nc
  have hn08 := hk.wd.n0
  have hn140 := hk.wd.n1
  have hsi := hk.si 1 (by omega)
  refine pi_ca 2 (m' := 36) (l' := [some (.ref 50)]) (σ' := σ) (pc2 := 4) (l2 := [some (.ref 50), some (.int (nI f)), some (.int i)]) (t := []) (fun f => rfl) (pi_C_lost1_f hc hq1) ?_
  rintro _ _ ⟨rfl, rfl⟩
  refine pi_ct 1 (c := nI 0 = 0) (pc' := 9) (l' := [some (.ref 50), some (.int (nI f)), some (.int i)]) (st' := []) (σ' := σ) (pc2 := 7) (l2 := [some (.ref 50), some (.int (nI f)), some (.int i)]) (st2 := []) (σ2 := σ) (fun f => rfl) (by decide) ?_
  refine pi_go 3 (pc' := 14) (l' := [some (.ref 50), some (.int (nI f)), some (.int i)]) (st' := [.int (σ 50 1), .int (nI f)]) (σ' := σ) (fun f => rfl) ?_
  refine pi_tp (y := nI (W.fo 1)) (hc.p.sf1) ?_
  refine pi_cf 1 (c := nI f = nI (W.fo 1)) (pc' := 17) (l' := [some (.ref 50), some (.int (nI f)), some (.int i)]) (st' := []) (σ' := σ) (pc2 := 19) (l2 := [some (.ref 50), some (.int (nI f)), some (.int i)]) (st2 := []) (σ2 := σ) (fun f => rfl) (fun q => h3 ((nI_eq (by omega) (by omega)).mp q.symm)) ?_
  refine pi_rt 2 (v := some (.int (nI 3))) (σ' := σ) (fun f => rfl) ?_
  exact ⟨rfl, rfl⟩
set_option maxRecDepth 20000 in
theorem pi_C_why1_2 {xs : Nat → Int32} {L d : Nat} {W : zW} {σ : pi_S} (hc : z_CK W σ) {f : Nat} {i : Int32} (hf3 : f < 3) (hq1 : ¬ W.th 1 = 0) (h3 : W.fo 1 = f) (h2 : ¬ z_B (W.si 1) i)  : pi_wp xs L (d + 1) 38 0 [some (.ref 50), some (.int (nI f)), some (.int i)] [] σ (fun v s => v = some (.int (nI 2)) ∧ σ = s) := by
  have hk := hc.p.wk
  have hnd8 := hk.wd.nd8
  have hns12 := hk.wd.ns12
  have hn60 := hk.nine
  have hnf := hk.nf
  have hnw := hk.nw
  have hnc := hk.nc
  have hn08 := hk.wd.n0
  have hn140 := hk.wd.n1
  have hsi := hk.si 1 (by omega)
  refine pi_ca 2 (m' := 36) (l' := [some (.ref 50)]) (σ' := σ) (pc2 := 4) (l2 := [some (.ref 50), some (.int (nI f)), some (.int i)]) (t := []) (fun f => rfl) (pi_C_lost1_f hc hq1) ?_
  rintro _ _ ⟨rfl, rfl⟩
  refine pi_ct 1 (c := nI 0 = 0) (pc' := 9) (l' := [some (.ref 50), some (.int (nI f)), some (.int i)]) (st' := []) (σ' := σ) (pc2 := 7) (l2 := [some (.ref 50), some (.int (nI f)), some (.int i)]) (st2 := []) (σ2 := σ) (fun f => rfl) (by decide) ?_
  refine pi_go 3 (pc' := 14) (l' := [some (.ref 50), some (.int (nI f)), some (.int i)]) (st' := [.int (σ 50 1), .int (nI f)]) (σ' := σ) (fun f => rfl) ?_
  refine pi_tp (y := nI (W.fo 1)) (hc.p.sf1) ?_
  refine pi_ct 1 (c := nI f = nI (W.fo 1)) (pc' := 19) (l' := [some (.ref 50), some (.int (nI f)), some (.int i)]) (st' := []) (σ' := σ) (pc2 := 17) (l2 := [some (.ref 50), some (.int (nI f)), some (.int i)]) (st2 := []) (σ2 := σ) (fun f => rfl) (congrArg nI h3.symm) ?_
  refine pi_go 3 (pc' := 24) (l' := [some (.ref 50), some (.int (nI f)), some (.int i)]) (st' := [.int (σ 50 2), .int i]) (σ' := σ) (fun f => rfl) ?_
  refine pi_tp (y := nI (W.si 1)) (hc.p.ss1.trans (z_sz_f hq1)) ?_
  refine pi_ca 1 (m' := 94) (l' := [some (.int i), some (.int (nI (W.si 1)))]) (σ' := σ) (pc2 := 27) (l2 := [some (.ref 50), some (.int (nI f)), some (.int i)]) (t := []) (fun f => rfl) (pi_C_belowB (a := i) (n := W.si 1) (by omega)) ?_
  rintro _ _ (⟨b1, rfl, rfl⟩ | ⟨b1, rfl, rfl⟩)
  · refine pi_cf 1 (c := nI 1 = 0) (pc' := 30) (l' := [some (.ref 50), some (.int (nI f)), some (.int i)]) (st' := []) (σ' := σ) (pc2 := 34) (l2 := [some (.ref 50), some (.int (nI f)), some (.int i)]) (st2 := []) (σ2 := σ) (fun f => rfl) (by decide) ?_
    exact absurd b1 h2
  · refine pi_ct 1 (c := nI 0 = 0) (pc' := 34) (l' := [some (.ref 50), some (.int (nI f)), some (.int i)]) (st' := []) (σ' := σ) (pc2 := 30) (l2 := [some (.ref 50), some (.int (nI f)), some (.int i)]) (st2 := []) (σ2 := σ) (fun f => rfl) (by decide) ?_
    refine pi_rt 2 (v := some (.int (nI 2))) (σ' := σ) (fun f => rfl) ?_
    exact ⟨rfl, rfl⟩
set_option maxRecDepth 20000 in
theorem pi_C_why1_0 {xs : Nat → Int32} {L d : Nat} {W : zW} {σ : pi_S} (hc : z_CK W σ) {f i : Nat} (hf3 : f < 3) (hq1 : ¬ W.th 1 = 0) (h3 : W.fo 1 = f) (h2 : i < W.si 1)  : pi_wp xs L (d + 1) 38 0 [some (.ref 50), some (.int (nI f)), some (.int (nI i))] [] σ (fun v s => v = some (.int (nI 0)) ∧ σ = s) := by
  have hk := hc.p.wk
  have hnd8 := hk.wd.nd8
  have hns12 := hk.wd.ns12
  have hn60 := hk.nine
  have hnf := hk.nf
  have hnw := hk.nw
  have hnc := hk.nc
  have hn08 := hk.wd.n0
  have hn140 := hk.wd.n1
  have hsi := hk.si 1 (by omega)
  refine pi_ca 2 (m' := 36) (l' := [some (.ref 50)]) (σ' := σ) (pc2 := 4) (l2 := [some (.ref 50), some (.int (nI f)), some (.int (nI i))]) (t := []) (fun f => rfl) (pi_C_lost1_f hc hq1) ?_
  rintro _ _ ⟨rfl, rfl⟩
  refine pi_ct 1 (c := nI 0 = 0) (pc' := 9) (l' := [some (.ref 50), some (.int (nI f)), some (.int (nI i))]) (st' := []) (σ' := σ) (pc2 := 7) (l2 := [some (.ref 50), some (.int (nI f)), some (.int (nI i))]) (st2 := []) (σ2 := σ) (fun f => rfl) (by decide) ?_
  refine pi_go 3 (pc' := 14) (l' := [some (.ref 50), some (.int (nI f)), some (.int (nI i))]) (st' := [.int (σ 50 1), .int (nI f)]) (σ' := σ) (fun f => rfl) ?_
  refine pi_tp (y := nI (W.fo 1)) (hc.p.sf1) ?_
  refine pi_ct 1 (c := nI f = nI (W.fo 1)) (pc' := 19) (l' := [some (.ref 50), some (.int (nI f)), some (.int (nI i))]) (st' := []) (σ' := σ) (pc2 := 17) (l2 := [some (.ref 50), some (.int (nI f)), some (.int (nI i))]) (st2 := []) (σ2 := σ) (fun f => rfl) (congrArg nI h3.symm) ?_
  refine pi_go 3 (pc' := 24) (l' := [some (.ref 50), some (.int (nI f)), some (.int (nI i))]) (st' := [.int (σ 50 2), .int (nI i)]) (σ' := σ) (fun f => rfl) ?_
  refine pi_tp (y := nI (W.si 1)) (hc.p.ss1.trans (z_sz_f hq1)) ?_
  refine pi_ca 1 (m' := 94) (l' := [some (.int (nI i)), some (.int (nI (W.si 1)))]) (σ' := σ) (pc2 := 27) (l2 := [some (.ref 50), some (.int (nI f)), some (.int (nI i))]) (t := []) (fun f => rfl) (pi_below1 _ _ (z_BL (by omega) (by omega))) ?_
  rintro _ _ ⟨rfl, rfl⟩
  refine pi_cf 1 (c := nI 1 = 0) (pc' := 30) (l' := [some (.ref 50), some (.int (nI f)), some (.int (nI i))]) (st' := []) (σ' := σ) (pc2 := 34) (l2 := [some (.ref 50), some (.int (nI f)), some (.int (nI i))]) (st2 := []) (σ2 := σ) (fun f => rfl) (by decide) ?_
  refine pi_rt 3 (v := some (.int (nI 0))) (σ' := σ) (fun f => rfl) ?_
  exact ⟨rfl, rfl⟩
set_option maxRecDepth 20000 in
theorem pi_C_itemAt1 {xs : Nat → Int32} {L d : Nat} {W : zW} {σ : pi_S} {i : Nat} (hsz : σ 50 2 = nI (W.si 1)) (hs48 : W.si 1 ≤ 48) (hit : σ 51 i = W.it (48 * 1 + i)) (h2 : i < W.si 1)  : pi_wp xs L (d + 1) 40 0 [some (.ref 50), some (.int (nI i))] [] σ (fun v s => v = some (.int (W.it (48 * 1 + i))) ∧ σ = s) := by
  refine pi_go 3 (pc' := 5) (l' := [some (.ref 50), some (.int (nI i))]) (st' := [.int (σ 50 2), .int (nI i)]) (σ' := σ) (fun f => rfl) ?_
  refine pi_tp (y := nI (W.si 1)) (hsz) ?_
  refine pi_ca 1 (m' := 94) (l' := [some (.int (nI i)), some (.int (nI (W.si 1)))]) (σ' := σ) (pc2 := 8) (l2 := [some (.ref 50), some (.int (nI i))]) (t := []) (fun f => rfl) (pi_below1 _ _ (z_BL (by omega) (by omega))) ?_
  rintro _ _ ⟨rfl, rfl⟩
  refine pi_cf 1 (c := nI 1 = 0) (pc' := 11) (l' := [some (.ref 50), some (.int (nI i))]) (st' := []) (σ' := σ) (pc2 := 20) (l2 := [some (.ref 50), some (.int (nI i))]) (st2 := []) (σ2 := σ) (fun f => rfl) (by decide) ?_
  refine pi_ai 4 (u := i) (n := 48) (g := σ 51) (pc' := 17) (l' := [some (.ref 50), some (.int (nI i))]) (t := []) (σ' := σ) (fun f => rfl) (by omega) (by omega) ?_
  refine pi_tp (y := W.it (48 * 1 + i)) (hit) ?_
  refine pi_rt 2 (v := some (.int (W.it (48 * 1 + i)))) (σ' := σ) (fun f => rfl) ?_
  exact ⟨rfl, rfl⟩
set_option maxRecDepth 20000 in
theorem pi_C_narrow1 {xs : Nat → Int32} {L d : Nat} {W : zW} {σ : pi_S} (hfo : σ 50 1 = nI (W.fo 1)) (hf3 : W.fo 1 < 3) (x : Int32)  : pi_wp xs L d 42 0 [some (.ref 50), some (.int x)] [] σ (fun v s => v = some (.int (z_nar (W.fo 1) x)) ∧ σ = s) := by
  refine pi_go 2 (pc' := 4) (l' := [some (.ref 50), some (.int x)]) (st' := [.int (σ 50 1)]) (σ' := σ) (fun f => rfl) ?_
  refine pi_tp (y := nI (W.fo 1)) (hfo) ?_
  refine pi_if 1 (c := nI (W.fo 1) = 0) (pc' := 7) (l' := [some (.ref 50), some (.int x)]) (st' := []) (σ' := σ) (pc2 := 10) (l2 := [some (.ref 50), some (.int x)]) (st2 := []) (σ2 := σ) (fun f => rfl) (fun h1 => ?_) (fun h1 => ?_)
  · replace h1 : (W.fo 1) = 0 := (show nI (W.fo 1) = nI 0 ↔ _ from nI_eq (by omega) (by omega)).mp h1
    refine pi_rt 3 (v := some (.int ((Int32.toInt8 x).toInt32))) (σ' := σ) (fun f => rfl) ?_
    exact ⟨congrArg (fun z => some (Value.int z)) (show _ = z_nar (W.fo 1) x from (if_pos h1).symm), rfl⟩
  · replace h1 : ¬ ((W.fo 1) = 0) := fun zq => h1 ((show nI (W.fo 1) = nI 0 ↔ _ from nI_eq (by omega) (by omega)).mpr zq)
    refine pi_go 2 (pc' := 14) (l' := [some (.ref 50), some (.int x)]) (st' := [.int (σ 50 1)]) (σ' := σ) (fun f => rfl) ?_
    refine pi_tp (y := nI (W.fo 1)) (hfo) ?_
    refine pi_if 2 (c := nI (W.fo 1) = nI 1) (pc' := 18) (l' := [some (.ref 50), some (.int x)]) (st' := []) (σ' := σ) (pc2 := 23) (l2 := [some (.ref 50), some (.int x)]) (st2 := []) (σ2 := σ) (fun f => rfl) (fun h2 => ?_) (fun h2 => ?_)
    · replace h2 : (W.fo 1) = 1 := (nI_eq (by omega) (by omega)).mp h2
      refine pi_rt 4 (v := some (.int ((Int32.toInt16 x).toInt32))) (σ' := σ) (fun f => rfl) ?_
      exact ⟨congrArg (fun z => some (Value.int z)) (show _ = z_nar (W.fo 1) x from ((if_neg h1).trans (if_pos h2)).symm), rfl⟩
    · replace h2 : ¬ ((W.fo 1) = 1) := fun zq => h2 ((nI_eq (by omega) (by omega)).mpr zq)
      refine pi_rt 2 (v := some (.int x)) (σ' := σ) (fun f => rfl) ?_
      exact ⟨congrArg (fun z => some (Value.int z)) (show _ = z_nar (W.fo 1) x from ((if_neg h1).trans (if_neg h2)).symm), rfl⟩
set_option maxRecDepth 20000 in
theorem pi_C_store1 {xs : Nat → Int32} {L d : Nat} {W : zW} {σ : pi_S} (hfo : σ 50 1 = nI (W.fo 1)) (hf3 : W.fo 1 < 3) (hsz : σ 50 2 = nI (W.si 1)) (hs48 : W.si 1 ≤ 48) {i : Nat} (h2 : i < W.si 1) (x : Int32)  : pi_wp xs L (d + 1) 41 0 [some (.ref 50), some (.int (nI i)), some (.int x)] [] σ (fun v s => v = none ∧ s 51 = upd (σ 51) i (z_nar (W.fo 1) x) ∧ pi_fr [51] s σ) := by
  refine pi_go 3 (pc' := 5) (l' := [some (.ref 50), some (.int (nI i)), some (.int x)]) (st' := [.int (σ 50 2), .int (nI i)]) (σ' := σ) (fun f => rfl) ?_
  refine pi_tp (y := nI (W.si 1)) (hsz) ?_
  refine pi_ca 1 (m' := 94) (l' := [some (.int (nI i)), some (.int (nI (W.si 1)))]) (σ' := σ) (pc2 := 8) (l2 := [some (.ref 50), some (.int (nI i)), some (.int x)]) (t := []) (fun f => rfl) (pi_below1 _ _ (z_BL (by omega) (by omega))) ?_
  rintro _ _ ⟨rfl, rfl⟩
  refine pi_cf 1 (c := nI 1 = 0) (pc' := 11) (l' := [some (.ref 50), some (.int (nI i)), some (.int x)]) (st' := []) (σ' := σ) (pc2 := 22) (l2 := [some (.ref 50), some (.int (nI i)), some (.int x)]) (st2 := []) (σ2 := σ) (fun f => rfl) (by decide) ?_
  refine pi_ca 6 (m' := 42) (l' := [some (.ref 50), some (.int x)]) (σ' := σ) (pc2 := 21) (l2 := [some (.ref 50), some (.int (nI i)), some (.int x)]) (t := [.int (nI i), .ref 51]) (fun f => rfl) (pi_C_narrow1 (W := W) hfo hf3 x) ?_
  rintro _ _ ⟨rfl, rfl⟩
  refine pi_au 1 (u := i) (n := 48) (a := 51) (x := z_nar (W.fo 1) x) (pc' := 22) (l' := [some (.ref 50), some (.int (nI i)), some (.int x)]) (t := []) (σ' := σ) (fun f => rfl) (by omega) (by omega) ?_
  generalize es1 : pi_up σ 51 i (z_nar (W.fo 1) x) = s1
  refine pi_rt 1 (v := none) (σ' := s1) (fun f => rfl) ?_
  exact ⟨rfl, (congrFun es1 51).symm.trans ((pi_up_self _ _ _ _)), pi_fr_of es1 (by decide) (pi_fr_rf)⟩
set_option maxRecDepth 20000 in
theorem pi_C_hasRun1 {xs : Nat → Int32} {L d : Nat} {W : zW} {σ : pi_S} (hc : z_CK W σ) (hq1 : ¬ W.th 1 = 0) (i n : Int32)  : pi_wp xs L d 39 0 [some (.ref 50), some (.int i), some (.int n)] [] σ (fun v s => (z_hr (W.si 1) i n ∧ v = some (.int (nI 1)) ∧ σ = s) ∨ (¬ z_hr (W.si 1) i n ∧ v = some (.int (nI 0)) ∧ σ = s)) := by
  have hk := hc.p.wk
  have hnd8 := hk.wd.nd8
  have hns12 := hk.wd.ns12
  have hn60 := hk.nine
  have hnf := hk.nf
  have hnw := hk.nw
  have hnc := hk.nc
  have hn08 := hk.wd.n0
  have hn140 := hk.wd.n1
  have hsi := hk.si 1 (by omega)
  refine pi_if 2 (c := i < 0) (pc' := 30) (l' := [some (.ref 50), some (.int i), some (.int n)]) (st' := []) (σ' := σ) (pc2 := 4) (l2 := [some (.ref 50), some (.int i), some (.int n)]) (st2 := []) (σ2 := σ) (fun f => rfl) (fun h1 => ?_) (fun h1 => ?_)
  · refine pi_rb 2 (c := (nI 0) &&& 1 = nI 0) (v := some (.int (nI 0))) (σ' := σ) (fun f => rfl) (by decide) ?_
    exact Or.inr ⟨z_hr_1 hsi.1 h1, rfl, rfl⟩
  · refine pi_if 2 (c := n < 0) (pc' := 30) (l' := [some (.ref 50), some (.int i), some (.int n)]) (st' := []) (σ' := σ) (pc2 := 8) (l2 := [some (.ref 50), some (.int i), some (.int n)]) (st2 := []) (σ2 := σ) (fun f => rfl) (fun h2 => ?_) (fun h2 => ?_)
    · refine pi_rb 2 (c := (nI 0) &&& 1 = nI 0) (v := some (.int (nI 0))) (σ' := σ) (fun f => rfl) (by decide) ?_
      exact Or.inr ⟨z_hr_2 hsi.1 h2, rfl, rfl⟩
    · refine pi_go 3 (pc' := 13) (l' := [some (.ref 50), some (.int i), some (.int n)]) (st' := [.int (σ 50 2), .int n]) (σ' := σ) (fun f => rfl) ?_
      refine pi_tp (y := nI (W.si 1)) (hc.p.ss1.trans (z_sz_f hq1)) ?_
      refine pi_if 1 (c := nI (W.si 1) < n) (pc' := 30) (l' := [some (.ref 50), some (.int i), some (.int n)]) (st' := []) (σ' := σ) (pc2 := 16) (l2 := [some (.ref 50), some (.int i), some (.int n)]) (st2 := []) (σ2 := σ) (fun f => rfl) (fun h3 => ?_) (fun h3 => ?_)
      · refine pi_rb 2 (c := (nI 0) &&& 1 = nI 0) (v := some (.int (nI 0))) (σ' := σ) (fun f => rfl) (by decide) ?_
        exact Or.inr ⟨z_hr_3 hsi.1 h3, rfl, rfl⟩
      · refine pi_go 3 (pc' := 21) (l' := [some (.ref 50), some (.int i), some (.int n)]) (st' := [.int (σ 50 2), .int i]) (σ' := σ) (fun f => rfl) ?_
        refine pi_tp (y := nI (W.si 1)) (hc.p.ss1.trans (z_sz_f hq1)) ?_
        refine pi_if 3 (c := (nI (W.si 1)) - n < i) (pc' := 30) (l' := [some (.ref 50), some (.int i), some (.int n)]) (st' := []) (σ' := σ) (pc2 := 26) (l2 := [some (.ref 50), some (.int i), some (.int n)]) (st2 := []) (σ2 := σ) (fun f => rfl) (fun h4 => ?_) (fun h4 => ?_)
        · refine pi_rb 2 (c := (nI 0) &&& 1 = nI 0) (v := some (.int (nI 0))) (σ' := σ) (fun f => rfl) (by decide) ?_
          exact Or.inr ⟨z_hr_4 hsi.1 h4, rfl, rfl⟩
        · refine pi_rb 3 (c := (nI 1) &&& 1 = nI 1) (v := some (.int (nI 1))) (σ' := σ) (fun f => rfl) (by decide) ?_
          exact Or.inl ⟨z_hr_t hsi.1 h1 h2 (Int32.not_lt.mp h3) (Int32.not_lt.mp h4), rfl, rfl⟩
theorem pi_C_hasRun1T {xs : Nat → Int32} {L d : Nat} {W : zW} {σ : pi_S} (hc : z_CK W σ) (hq1 : ¬ W.th 1 = 0) {i n : Int32} (h : z_hr (W.si 1) i n) : pi_wp xs L d 39 0 [some (.ref 50), some (.int i), some (.int n)] [] σ (fun v s => v = some (.int (nI 1)) ∧ σ = s) :=
  pi_mo (fun v s q => q.elim (fun q => q.2) (fun q => absurd h q.1)) (pi_C_hasRun1 hc hq1 i n)
set_option maxRecDepth 20000 in
theorem pi_C_lost2_t {xs : Nat → Int32} {L d : Nat} {W : zW} {σ : pi_S} (hc : z_CK W σ) (hq0 : W.th 2 = 0)  : pi_wp xs L d 36 0 [some (.ref 52)] [] σ (fun v s => v = some (.int (nI 1)) ∧ σ = s) := by
  have hk := hc.p.wk
  have hnd8 := hk.wd.nd8
  have hns12 := hk.wd.ns12
  have hn60 := hk.nine
  have hnf := hk.nf
  have hnw := hk.nw
  have hnc := hk.nc
  have hn08 := hk.wd.n0
  have hn140 := hk.wd.n1
  refine pi_go 2 (pc' := 4) (l' := [some (.ref 52)]) (st' := [.int (σ 52 2)]) (σ' := σ) (fun f => rfl) ?_
  refine pi_tp (y := (-1)) (hc.p.ss2.trans (z_sz_t hq0)) ?_
  refine pi_ct 2 (c := (-1) = (-1)) (pc' := 8) (l' := [some (.ref 52)]) (st' := []) (σ' := σ) (pc2 := 12) (l2 := [some (.ref 52)]) (st2 := []) (σ2 := σ) (fun f => rfl) (by decide) ?_
  refine pi_rb 3 (c := (nI 1) &&& 1 = nI 1) (v := some (.int (nI 1))) (σ' := σ) (fun f => rfl) (by decide) ?_
  exact ⟨rfl, rfl⟩
set_option maxRecDepth 20000 in
theorem pi_C_lost2_f {xs : Nat → Int32} {L d : Nat} {W : zW} {σ : pi_S} (hc : z_CK W σ) (hq1 : ¬ W.th 2 = 0)  : pi_wp xs L d 36 0 [some (.ref 52)] [] σ (fun v s => v = some (.int (nI 0)) ∧ σ = s) := by
  have hk := hc.p.wk
  have hnd8 := hk.wd.nd8
  have hns12 := hk.wd.ns12
  have hn60 := hk.nine
  have hnf := hk.nf
  have hnw := hk.nw
  have hnc := hk.nc
  have hn08 := hk.wd.n0
  have hn140 := hk.wd.n1
  have hsi := hk.si 2 (by omega)
  refine pi_go 2 (pc' := 4) (l' := [some (.ref 52)]) (st' := [.int (σ 52 2)]) (σ' := σ) (fun f => rfl) ?_
  refine pi_tp (y := nI (W.si 2)) (hc.p.ss2.trans (z_sz_f hq1)) ?_
  refine pi_cf 2 (c := nI (W.si 2) = (-1)) (pc' := 12) (l' := [some (.ref 52)]) (st' := []) (σ' := σ) (pc2 := 8) (l2 := [some (.ref 52)]) (st2 := []) (σ2 := σ) (fun f => rfl) (z_nIm _ (by omega)) ?_
  refine pi_rb 2 (c := (nI 0) &&& 1 = nI 0) (v := some (.int (nI 0))) (σ' := σ) (fun f => rfl) (by decide) ?_
  exact ⟨rfl, rfl⟩
set_option maxRecDepth 20000 in
theorem pi_C_renew2 {xs : Nat → Int32} {L d : Nat} {W : zW} {σ : pi_S} (hc : z_CK W σ) {f n : Nat} (hf : f < 3) (hn : n ≤ 48)  : pi_wp xs L d 37 0 [some (.ref 52), some (.int (nI f)), some (.int (nI n)), none] [] σ (fun v s => v = none ∧ s 52 1 = nI f ∧ s 52 2 = nI n ∧ (∀ j, j < 48 → s 53 j = nI 0) ∧ pi_fr [52, 53] s σ) := by
  have hk := hc.p.wk
  have hnd8 := hk.wd.nd8
  have hns12 := hk.wd.ns12
  have hn60 := hk.nine
  have hnf := hk.nf
  have hnw := hk.nw
  have hnc := hk.nc
  have hn08 := hk.wd.n0
  have hn140 := hk.wd.n1
  refine pi_go 3 (pc' := 5) (l' := [some (.ref 52), some (.int (nI f)), some (.int (nI n)), none]) (st' := []) (σ' := (pi_up σ 52 1 (nI f))) (fun f => rfl) ?_
  generalize es1 : pi_up σ 52 1 (nI f) = s1
  refine pi_go 4 (pc' := 12) (l' := [some (.ref 52), some (.int (nI f)), some (.int (nI n)), none]) (st' := [.int (if nI 48 < nI n then nI 48 else nI n), .ref 52]) (σ' := s1) (fun f => rfl) ?_
  refine pi_tp (y := nI n) (if_neg (fun q => absurd ((nI_ltI (by omega) (by omega)).mp q) (by omega))) ?_
  refine pi_go 1 (pc' := 15) (l' := [some (.ref 52), some (.int (nI f)), some (.int (nI n)), none]) (st' := []) (σ' := (pi_up s1 52 2 (nI n))) (fun f => rfl) ?_
  generalize es2 : pi_up s1 52 2 (nI n) = s2
  refine pi_go 2 (pc' := 17) (l' := [some (.ref 52), some (.int (nI f)), some (.int (nI n)), some (.int (nI 0))]) (st' := []) (σ' := s2) (fun f => rfl) ?_
  suffices hl3 : ∀ i, i ≤ 48 → ∀ (z3 : pi_S), pi_fr [52, 53] z3 σ → (z3 52 1 = nI f ∧ z3 52 2 = nI n ∧ ∀ j, j < i → z3 53 j = nI 0) → pi_wp xs L d 37 17 [some (.ref 52), some (.int (nI f)), some (.int (nI n)), some (.int (nI i))] [] z3 (fun v s => v = none ∧ s 52 1 = nI f ∧ s 52 2 = nI n ∧ (∀ j, j < 48 → s 53 j = nI 0) ∧ pi_fr [52, 53] s σ) from hl3 0 (by omega) _ (pi_fr_of es2 (by decide) (pi_fr_of es1 (by decide) (pi_fr_rf))) (⟨(congrFun (congrFun es2 52) 1).symm.trans ((pi_up_sn _ _ _ (by decide)).trans ((congrFun (congrFun es1 52) 1).symm.trans (pi_up_ss _ _ _ _))), (congrFun (congrFun es2 52) 2).symm.trans (pi_up_ss _ _ _ _), fun q hq => absurd hq (Nat.not_lt_zero q)⟩)
  refine pi_lp0 ?_ ?_
  · intro z3 hrz3 hx3
    refine pi_ct 3 (c := nI 48 ≤ nI 48) (pc' := 36) (l' := [some (.ref 52), some (.int (nI f)), some (.int (nI n)), some (.int (nI 48))]) (st' := []) (σ' := z3) (pc2 := 23) (l2 := [some (.ref 52), some (.int (nI f)), some (.int (nI n)), some (.int (nI 48))]) (st2 := []) (σ2 := z3) (fun f => rfl) (by decide) ?_
    refine pi_rt 1 (v := none) (σ' := z3) (fun f => rfl) ?_
    exact ⟨rfl, hx3.1, hx3.2.1, hx3.2.2, pi_fr_tr hrz3 (by decide) (pi_fr_rf)⟩
  · intro i hi3 ih3 z3 hrz3 hx3
    refine pi_cf 3 (c := nI 48 ≤ nI i) (pc' := 23) (l' := [some (.ref 52), some (.int (nI f)), some (.int (nI n)), some (.int (nI i))]) (st' := []) (σ' := z3) (pc2 := 36) (l2 := [some (.ref 52), some (.int (nI f)), some (.int (nI n)), some (.int (nI i))]) (st2 := []) (σ2 := z3) (fun f => rfl) (fun zq => absurd ((show nI 48 ≤ nI i ↔ _ from nI_leI (by omega) (by omega)).mp zq) (by omega)) ?_
    refine pi_au 5 (u := i) (n := 48) (a := 53) (x := nI 0) (pc' := 30) (l' := [some (.ref 52), some (.int (nI f)), some (.int (nI n)), some (.int (nI i))]) (t := []) (σ' := z3) (fun f => rfl) (by omega) (by omega) ?_
    generalize es4 : pi_up z3 53 i (nI 0) = s4
    refine pi_go 1 (pc' := 33) (l' := [some (.ref 52), some (.int (nI f)), some (.int (nI n)), some (.int (nI i + nI 1))]) (st' := []) (σ' := s4) (fun f => rfl) ?_
    rw [show nI i + nI 1 = nI (i + 1) from nI_add _ 1]
    refine pi_go 1 (pc' := 17) (l' := [some (.ref 52), some (.int (nI f)), some (.int (nI n)), some (.int (nI (i + 1)))]) (st' := []) (σ' := s4) (fun f => rfl) ?_
    exact ih3 _ (pi_fr_of es4 (by decide) (pi_fr_tr hrz3 (by decide) (pi_fr_rf))) (⟨(congrFun ((congrFun es4 52).symm.trans (pi_up_ne _ _ _ (by decide))) 1).trans (hx3.1), (congrFun ((congrFun es4 52).symm.trans (pi_up_ne _ _ _ (by decide))) 2).trans (hx3.2.1), lt_s (fun q hq => (congrFun ((congrFun es4 53).symm.trans ((pi_up_self _ _ _ _))) q).trans ((if_neg (by omega)).trans (hx3.2.2 q hq))) ((congrFun ((congrFun es4 53).symm.trans ((pi_up_self _ _ _ _))) i).trans (if_pos rfl))⟩)
set_option maxRecDepth 20000 in
theorem pi_C_why2_1 {xs : Nat → Int32} {L d : Nat} {W : zW} {σ : pi_S} (hc : z_CK W σ) {f : Nat} {i : Int32} (hf3 : f < 3) (hq0 : W.th 2 = 0)  : pi_wp xs L (d + 1) 38 0 [some (.ref 52), some (.int (nI f)), some (.int i)] [] σ (fun v s => v = some (.int (nI 1)) ∧ σ = s) := by
  have hk := hc.p.wk
  have hnd8 := hk.wd.nd8
  have hns12 := hk.wd.ns12
  have hn60 := hk.nine
  have hnf := hk.nf
  have hnw := hk.nw
  have hnc := hk.nc
  have hn08 := hk.wd.n0
  have hn140 := hk.wd.n1
  have hsi := hk.si 2 (by omega)
  refine pi_ca 2 (m' := 36) (l' := [some (.ref 52)]) (σ' := σ) (pc2 := 4) (l2 := [some (.ref 52), some (.int (nI f)), some (.int i)]) (t := []) (fun f => rfl) (pi_C_lost2_t hc hq0) ?_
  rintro _ _ ⟨rfl, rfl⟩
  refine pi_cf 1 (c := nI 1 = 0) (pc' := 7) (l' := [some (.ref 52), some (.int (nI f)), some (.int i)]) (st' := []) (σ' := σ) (pc2 := 9) (l2 := [some (.ref 52), some (.int (nI f)), some (.int i)]) (st2 := []) (σ2 := σ) (fun f => rfl) (by decide) ?_
  refine pi_rt 2 (v := some (.int (nI 1))) (σ' := σ) (fun f => rfl) ?_
  exact ⟨rfl, rfl⟩
set_option maxRecDepth 20000 in
theorem pi_C_why2_3 {xs : Nat → Int32} {L d : Nat} {W : zW} {σ : pi_S} (hc : z_CK W σ) {f : Nat} {i : Int32} (hf3 : f < 3) (hq1 : ¬ W.th 2 = 0) (h3 : ¬ W.fo 2 = f)  : pi_wp xs L (d + 1) 38 0 [some (.ref 52), some (.int (nI f)), some (.int i)] [] σ (fun v s => v = some (.int (nI 3)) ∧ σ = s) := by
  have hk := hc.p.wk
  have hnd8 := hk.wd.nd8
  have hns12 := hk.wd.ns12
  have hn60 := hk.nine
  have hnf := hk.nf
  have hnw := hk.nw
  have hnc := hk.nc
  have hn08 := hk.wd.n0
  have hn140 := hk.wd.n1
  have hsi := hk.si 2 (by omega)
  refine pi_ca 2 (m' := 36) (l' := [some (.ref 52)]) (σ' := σ) (pc2 := 4) (l2 := [some (.ref 52), some (.int (nI f)), some (.int i)]) (t := []) (fun f => rfl) (pi_C_lost2_f hc hq1) ?_
  rintro _ _ ⟨rfl, rfl⟩
  refine pi_ct 1 (c := nI 0 = 0) (pc' := 9) (l' := [some (.ref 52), some (.int (nI f)), some (.int i)]) (st' := []) (σ' := σ) (pc2 := 7) (l2 := [some (.ref 52), some (.int (nI f)), some (.int i)]) (st2 := []) (σ2 := σ) (fun f => rfl) (by decide) ?_
  refine pi_go 3 (pc' := 14) (l' := [some (.ref 52), some (.int (nI f)), some (.int i)]) (st' := [.int (σ 52 1), .int (nI f)]) (σ' := σ) (fun f => rfl) ?_
  refine pi_tp (y := nI (W.fo 2)) (hc.p.sf2) ?_
  refine pi_cf 1 (c := nI f = nI (W.fo 2)) (pc' := 17) (l' := [some (.ref 52), some (.int (nI f)), some (.int i)]) (st' := []) (σ' := σ) (pc2 := 19) (l2 := [some (.ref 52), some (.int (nI f)), some (.int i)]) (st2 := []) (σ2 := σ) (fun f => rfl) (fun q => h3 ((nI_eq (by omega) (by omega)).mp q.symm)) ?_
  refine pi_rt 2 (v := some (.int (nI 3))) (σ' := σ) (fun f => rfl) ?_
  exact ⟨rfl, rfl⟩
set_option maxRecDepth 20000 in
theorem pi_C_why2_2 {xs : Nat → Int32} {L d : Nat} {W : zW} {σ : pi_S} (hc : z_CK W σ) {f : Nat} {i : Int32} (hf3 : f < 3) (hq1 : ¬ W.th 2 = 0) (h3 : W.fo 2 = f) (h2 : ¬ z_B (W.si 2) i)  : pi_wp xs L (d + 1) 38 0 [some (.ref 52), some (.int (nI f)), some (.int i)] [] σ (fun v s => v = some (.int (nI 2)) ∧ σ = s) := by
  have hk := hc.p.wk
  have hnd8 := hk.wd.nd8
  have hns12 := hk.wd.ns12
  have hn60 := hk.nine
  have hnf := hk.nf
  have hnw := hk.nw
  have hnc := hk.nc
  have hn08 := hk.wd.n0
  have hn140 := hk.wd.n1
  have hsi := hk.si 2 (by omega)
  refine pi_ca 2 (m' := 36) (l' := [some (.ref 52)]) (σ' := σ) (pc2 := 4) (l2 := [some (.ref 52), some (.int (nI f)), some (.int i)]) (t := []) (fun f => rfl) (pi_C_lost2_f hc hq1) ?_
  rintro _ _ ⟨rfl, rfl⟩
  refine pi_ct 1 (c := nI 0 = 0) (pc' := 9) (l' := [some (.ref 52), some (.int (nI f)), some (.int i)]) (st' := []) (σ' := σ) (pc2 := 7) (l2 := [some (.ref 52), some (.int (nI f)), some (.int i)]) (st2 := []) (σ2 := σ) (fun f => rfl) (by decide) ?_
  refine pi_go 3 (pc' := 14) (l' := [some (.ref 52), some (.int (nI f)), some (.int i)]) (st' := [.int (σ 52 1), .int (nI f)]) (σ' := σ) (fun f => rfl) ?_
  refine pi_tp (y := nI (W.fo 2)) (hc.p.sf2) ?_
  refine pi_ct 1 (c := nI f = nI (W.fo 2)) (pc' := 19) (l' := [some (.ref 52), some (.int (nI f)), some (.int i)]) (st' := []) (σ' := σ) (pc2 := 17) (l2 := [some (.ref 52), some (.int (nI f)), some (.int i)]) (st2 := []) (σ2 := σ) (fun f => rfl) (congrArg nI h3.symm) ?_
  refine pi_go 3 (pc' := 24) (l' := [some (.ref 52), some (.int (nI f)), some (.int i)]) (st' := [.int (σ 52 2), .int i]) (σ' := σ) (fun f => rfl) ?_
  refine pi_tp (y := nI (W.si 2)) (hc.p.ss2.trans (z_sz_f hq1)) ?_
  refine pi_ca 1 (m' := 94) (l' := [some (.int i), some (.int (nI (W.si 2)))]) (σ' := σ) (pc2 := 27) (l2 := [some (.ref 52), some (.int (nI f)), some (.int i)]) (t := []) (fun f => rfl) (pi_C_belowB (a := i) (n := W.si 2) (by omega)) ?_
  rintro _ _ (⟨b1, rfl, rfl⟩ | ⟨b1, rfl, rfl⟩)
  · refine pi_cf 1 (c := nI 1 = 0) (pc' := 30) (l' := [some (.ref 52), some (.int (nI f)), some (.int i)]) (st' := []) (σ' := σ) (pc2 := 34) (l2 := [some (.ref 52), some (.int (nI f)), some (.int i)]) (st2 := []) (σ2 := σ) (fun f => rfl) (by decide) ?_
    exact absurd b1 h2
  · refine pi_ct 1 (c := nI 0 = 0) (pc' := 34) (l' := [some (.ref 52), some (.int (nI f)), some (.int i)]) (st' := []) (σ' := σ) (pc2 := 30) (l2 := [some (.ref 52), some (.int (nI f)), some (.int i)]) (st2 := []) (σ2 := σ) (fun f => rfl) (by decide) ?_
    refine pi_rt 2 (v := some (.int (nI 2))) (σ' := σ) (fun f => rfl) ?_
    exact ⟨rfl, rfl⟩
set_option maxRecDepth 20000 in
theorem pi_C_why2_0 {xs : Nat → Int32} {L d : Nat} {W : zW} {σ : pi_S} (hc : z_CK W σ) {f i : Nat} (hf3 : f < 3) (hq1 : ¬ W.th 2 = 0) (h3 : W.fo 2 = f) (h2 : i < W.si 2)  : pi_wp xs L (d + 1) 38 0 [some (.ref 52), some (.int (nI f)), some (.int (nI i))] [] σ (fun v s => v = some (.int (nI 0)) ∧ σ = s) := by
  have hk := hc.p.wk
  have hnd8 := hk.wd.nd8
  have hns12 := hk.wd.ns12
  have hn60 := hk.nine
  have hnf := hk.nf
  have hnw := hk.nw
  have hnc := hk.nc
  have hn08 := hk.wd.n0
  have hn140 := hk.wd.n1
  have hsi := hk.si 2 (by omega)
  refine pi_ca 2 (m' := 36) (l' := [some (.ref 52)]) (σ' := σ) (pc2 := 4) (l2 := [some (.ref 52), some (.int (nI f)), some (.int (nI i))]) (t := []) (fun f => rfl) (pi_C_lost2_f hc hq1) ?_
  rintro _ _ ⟨rfl, rfl⟩
  refine pi_ct 1 (c := nI 0 = 0) (pc' := 9) (l' := [some (.ref 52), some (.int (nI f)), some (.int (nI i))]) (st' := []) (σ' := σ) (pc2 := 7) (l2 := [some (.ref 52), some (.int (nI f)), some (.int (nI i))]) (st2 := []) (σ2 := σ) (fun f => rfl) (by decide) ?_
  refine pi_go 3 (pc' := 14) (l' := [some (.ref 52), some (.int (nI f)), some (.int (nI i))]) (st' := [.int (σ 52 1), .int (nI f)]) (σ' := σ) (fun f => rfl) ?_
  refine pi_tp (y := nI (W.fo 2)) (hc.p.sf2) ?_
  refine pi_ct 1 (c := nI f = nI (W.fo 2)) (pc' := 19) (l' := [some (.ref 52), some (.int (nI f)), some (.int (nI i))]) (st' := []) (σ' := σ) (pc2 := 17) (l2 := [some (.ref 52), some (.int (nI f)), some (.int (nI i))]) (st2 := []) (σ2 := σ) (fun f => rfl) (congrArg nI h3.symm) ?_
  refine pi_go 3 (pc' := 24) (l' := [some (.ref 52), some (.int (nI f)), some (.int (nI i))]) (st' := [.int (σ 52 2), .int (nI i)]) (σ' := σ) (fun f => rfl) ?_
  refine pi_tp (y := nI (W.si 2)) (hc.p.ss2.trans (z_sz_f hq1)) ?_
  refine pi_ca 1 (m' := 94) (l' := [some (.int (nI i)), some (.int (nI (W.si 2)))]) (σ' := σ) (pc2 := 27) (l2 := [some (.ref 52), some (.int (nI f)), some (.int (nI i))]) (t := []) (fun f => rfl) (pi_below1 _ _ (z_BL (by omega) (by omega))) ?_
  rintro _ _ ⟨rfl, rfl⟩
  refine pi_cf 1 (c := nI 1 = 0) (pc' := 30) (l' := [some (.ref 52), some (.int (nI f)), some (.int (nI i))]) (st' := []) (σ' := σ) (pc2 := 34) (l2 := [some (.ref 52), some (.int (nI f)), some (.int (nI i))]) (st2 := []) (σ2 := σ) (fun f => rfl) (by decide) ?_
  refine pi_rt 3 (v := some (.int (nI 0))) (σ' := σ) (fun f => rfl) ?_
  exact ⟨rfl, rfl⟩
set_option maxRecDepth 20000 in
theorem pi_C_itemAt2 {xs : Nat → Int32} {L d : Nat} {W : zW} {σ : pi_S} {i : Nat} (hsz : σ 52 2 = nI (W.si 2)) (hs48 : W.si 2 ≤ 48) (hit : σ 53 i = W.it (48 * 2 + i)) (h2 : i < W.si 2)  : pi_wp xs L (d + 1) 40 0 [some (.ref 52), some (.int (nI i))] [] σ (fun v s => v = some (.int (W.it (48 * 2 + i))) ∧ σ = s) := by
  refine pi_go 3 (pc' := 5) (l' := [some (.ref 52), some (.int (nI i))]) (st' := [.int (σ 52 2), .int (nI i)]) (σ' := σ) (fun f => rfl) ?_
  refine pi_tp (y := nI (W.si 2)) (hsz) ?_
  refine pi_ca 1 (m' := 94) (l' := [some (.int (nI i)), some (.int (nI (W.si 2)))]) (σ' := σ) (pc2 := 8) (l2 := [some (.ref 52), some (.int (nI i))]) (t := []) (fun f => rfl) (pi_below1 _ _ (z_BL (by omega) (by omega))) ?_
  rintro _ _ ⟨rfl, rfl⟩
  refine pi_cf 1 (c := nI 1 = 0) (pc' := 11) (l' := [some (.ref 52), some (.int (nI i))]) (st' := []) (σ' := σ) (pc2 := 20) (l2 := [some (.ref 52), some (.int (nI i))]) (st2 := []) (σ2 := σ) (fun f => rfl) (by decide) ?_
  refine pi_ai 4 (u := i) (n := 48) (g := σ 53) (pc' := 17) (l' := [some (.ref 52), some (.int (nI i))]) (t := []) (σ' := σ) (fun f => rfl) (by omega) (by omega) ?_
  refine pi_tp (y := W.it (48 * 2 + i)) (hit) ?_
  refine pi_rt 2 (v := some (.int (W.it (48 * 2 + i)))) (σ' := σ) (fun f => rfl) ?_
  exact ⟨rfl, rfl⟩
set_option maxRecDepth 20000 in
theorem pi_C_narrow2 {xs : Nat → Int32} {L d : Nat} {W : zW} {σ : pi_S} (hfo : σ 52 1 = nI (W.fo 2)) (hf3 : W.fo 2 < 3) (x : Int32)  : pi_wp xs L d 42 0 [some (.ref 52), some (.int x)] [] σ (fun v s => v = some (.int (z_nar (W.fo 2) x)) ∧ σ = s) := by
  refine pi_go 2 (pc' := 4) (l' := [some (.ref 52), some (.int x)]) (st' := [.int (σ 52 1)]) (σ' := σ) (fun f => rfl) ?_
  refine pi_tp (y := nI (W.fo 2)) (hfo) ?_
  refine pi_if 1 (c := nI (W.fo 2) = 0) (pc' := 7) (l' := [some (.ref 52), some (.int x)]) (st' := []) (σ' := σ) (pc2 := 10) (l2 := [some (.ref 52), some (.int x)]) (st2 := []) (σ2 := σ) (fun f => rfl) (fun h1 => ?_) (fun h1 => ?_)
  · replace h1 : (W.fo 2) = 0 := (show nI (W.fo 2) = nI 0 ↔ _ from nI_eq (by omega) (by omega)).mp h1
    refine pi_rt 3 (v := some (.int ((Int32.toInt8 x).toInt32))) (σ' := σ) (fun f => rfl) ?_
    exact ⟨congrArg (fun z => some (Value.int z)) (show _ = z_nar (W.fo 2) x from (if_pos h1).symm), rfl⟩
  · replace h1 : ¬ ((W.fo 2) = 0) := fun zq => h1 ((show nI (W.fo 2) = nI 0 ↔ _ from nI_eq (by omega) (by omega)).mpr zq)
    refine pi_go 2 (pc' := 14) (l' := [some (.ref 52), some (.int x)]) (st' := [.int (σ 52 1)]) (σ' := σ) (fun f => rfl) ?_
    refine pi_tp (y := nI (W.fo 2)) (hfo) ?_
    refine pi_if 2 (c := nI (W.fo 2) = nI 1) (pc' := 18) (l' := [some (.ref 52), some (.int x)]) (st' := []) (σ' := σ) (pc2 := 23) (l2 := [some (.ref 52), some (.int x)]) (st2 := []) (σ2 := σ) (fun f => rfl) (fun h2 => ?_) (fun h2 => ?_)
    · replace h2 : (W.fo 2) = 1 := (nI_eq (by omega) (by omega)).mp h2
      refine pi_rt 4 (v := some (.int ((Int32.toInt16 x).toInt32))) (σ' := σ) (fun f => rfl) ?_
      exact ⟨congrArg (fun z => some (Value.int z)) (show _ = z_nar (W.fo 2) x from ((if_neg h1).trans (if_pos h2)).symm), rfl⟩
    · replace h2 : ¬ ((W.fo 2) = 1) := fun zq => h2 ((nI_eq (by omega) (by omega)).mpr zq)
      refine pi_rt 2 (v := some (.int x)) (σ' := σ) (fun f => rfl) ?_
      exact ⟨congrArg (fun z => some (Value.int z)) (show _ = z_nar (W.fo 2) x from ((if_neg h1).trans (if_neg h2)).symm), rfl⟩
set_option maxRecDepth 20000 in
theorem pi_C_store2 {xs : Nat → Int32} {L d : Nat} {W : zW} {σ : pi_S} (hfo : σ 52 1 = nI (W.fo 2)) (hf3 : W.fo 2 < 3) (hsz : σ 52 2 = nI (W.si 2)) (hs48 : W.si 2 ≤ 48) {i : Nat} (h2 : i < W.si 2) (x : Int32)  : pi_wp xs L (d + 1) 41 0 [some (.ref 52), some (.int (nI i)), some (.int x)] [] σ (fun v s => v = none ∧ s 53 = upd (σ 53) i (z_nar (W.fo 2) x) ∧ pi_fr [53] s σ) := by
  refine pi_go 3 (pc' := 5) (l' := [some (.ref 52), some (.int (nI i)), some (.int x)]) (st' := [.int (σ 52 2), .int (nI i)]) (σ' := σ) (fun f => rfl) ?_
  refine pi_tp (y := nI (W.si 2)) (hsz) ?_
  refine pi_ca 1 (m' := 94) (l' := [some (.int (nI i)), some (.int (nI (W.si 2)))]) (σ' := σ) (pc2 := 8) (l2 := [some (.ref 52), some (.int (nI i)), some (.int x)]) (t := []) (fun f => rfl) (pi_below1 _ _ (z_BL (by omega) (by omega))) ?_
  rintro _ _ ⟨rfl, rfl⟩
  refine pi_cf 1 (c := nI 1 = 0) (pc' := 11) (l' := [some (.ref 52), some (.int (nI i)), some (.int x)]) (st' := []) (σ' := σ) (pc2 := 22) (l2 := [some (.ref 52), some (.int (nI i)), some (.int x)]) (st2 := []) (σ2 := σ) (fun f => rfl) (by decide) ?_
  refine pi_ca 6 (m' := 42) (l' := [some (.ref 52), some (.int x)]) (σ' := σ) (pc2 := 21) (l2 := [some (.ref 52), some (.int (nI i)), some (.int x)]) (t := [.int (nI i), .ref 53]) (fun f => rfl) (pi_C_narrow2 (W := W) hfo hf3 x) ?_
  rintro _ _ ⟨rfl, rfl⟩
  refine pi_au 1 (u := i) (n := 48) (a := 53) (x := z_nar (W.fo 2) x) (pc' := 22) (l' := [some (.ref 52), some (.int (nI i)), some (.int x)]) (t := []) (σ' := σ) (fun f => rfl) (by omega) (by omega) ?_
  generalize es1 : pi_up σ 53 i (z_nar (W.fo 2) x) = s1
  refine pi_rt 1 (v := none) (σ' := s1) (fun f => rfl) ?_
  exact ⟨rfl, (congrFun es1 53).symm.trans ((pi_up_self _ _ _ _)), pi_fr_of es1 (by decide) (pi_fr_rf)⟩
set_option maxRecDepth 20000 in
theorem pi_C_hasRun2 {xs : Nat → Int32} {L d : Nat} {W : zW} {σ : pi_S} (hc : z_CK W σ) (hq1 : ¬ W.th 2 = 0) (i n : Int32)  : pi_wp xs L d 39 0 [some (.ref 52), some (.int i), some (.int n)] [] σ (fun v s => (z_hr (W.si 2) i n ∧ v = some (.int (nI 1)) ∧ σ = s) ∨ (¬ z_hr (W.si 2) i n ∧ v = some (.int (nI 0)) ∧ σ = s)) := by
  have hk := hc.p.wk
  have hnd8 := hk.wd.nd8
  have hns12 := hk.wd.ns12
  have hn60 := hk.nine
  have hnf := hk.nf
  have hnw := hk.nw
  have hnc := hk.nc
  have hn08 := hk.wd.n0
  have hn140 := hk.wd.n1
  have hsi := hk.si 2 (by omega)
  refine pi_if 2 (c := i < 0) (pc' := 30) (l' := [some (.ref 52), some (.int i), some (.int n)]) (st' := []) (σ' := σ) (pc2 := 4) (l2 := [some (.ref 52), some (.int i), some (.int n)]) (st2 := []) (σ2 := σ) (fun f => rfl) (fun h1 => ?_) (fun h1 => ?_)
  · refine pi_rb 2 (c := (nI 0) &&& 1 = nI 0) (v := some (.int (nI 0))) (σ' := σ) (fun f => rfl) (by decide) ?_
    exact Or.inr ⟨z_hr_1 hsi.1 h1, rfl, rfl⟩
  · refine pi_if 2 (c := n < 0) (pc' := 30) (l' := [some (.ref 52), some (.int i), some (.int n)]) (st' := []) (σ' := σ) (pc2 := 8) (l2 := [some (.ref 52), some (.int i), some (.int n)]) (st2 := []) (σ2 := σ) (fun f => rfl) (fun h2 => ?_) (fun h2 => ?_)
    · refine pi_rb 2 (c := (nI 0) &&& 1 = nI 0) (v := some (.int (nI 0))) (σ' := σ) (fun f => rfl) (by decide) ?_
      exact Or.inr ⟨z_hr_2 hsi.1 h2, rfl, rfl⟩
    · refine pi_go 3 (pc' := 13) (l' := [some (.ref 52), some (.int i), some (.int n)]) (st' := [.int (σ 52 2), .int n]) (σ' := σ) (fun f => rfl) ?_
      refine pi_tp (y := nI (W.si 2)) (hc.p.ss2.trans (z_sz_f hq1)) ?_
      refine pi_if 1 (c := nI (W.si 2) < n) (pc' := 30) (l' := [some (.ref 52), some (.int i), some (.int n)]) (st' := []) (σ' := σ) (pc2 := 16) (l2 := [some (.ref 52), some (.int i), some (.int n)]) (st2 := []) (σ2 := σ) (fun f => rfl) (fun h3 => ?_) (fun h3 => ?_)
      · refine pi_rb 2 (c := (nI 0) &&& 1 = nI 0) (v := some (.int (nI 0))) (σ' := σ) (fun f => rfl) (by decide) ?_
        exact Or.inr ⟨z_hr_3 hsi.1 h3, rfl, rfl⟩
      · refine pi_go 3 (pc' := 21) (l' := [some (.ref 52), some (.int i), some (.int n)]) (st' := [.int (σ 52 2), .int i]) (σ' := σ) (fun f => rfl) ?_
        refine pi_tp (y := nI (W.si 2)) (hc.p.ss2.trans (z_sz_f hq1)) ?_
        refine pi_if 3 (c := (nI (W.si 2)) - n < i) (pc' := 30) (l' := [some (.ref 52), some (.int i), some (.int n)]) (st' := []) (σ' := σ) (pc2 := 26) (l2 := [some (.ref 52), some (.int i), some (.int n)]) (st2 := []) (σ2 := σ) (fun f => rfl) (fun h4 => ?_) (fun h4 => ?_)
        · refine pi_rb 2 (c := (nI 0) &&& 1 = nI 0) (v := some (.int (nI 0))) (σ' := σ) (fun f => rfl) (by decide) ?_
          exact Or.inr ⟨z_hr_4 hsi.1 h4, rfl, rfl⟩
        · refine pi_rb 3 (c := (nI 1) &&& 1 = nI 1) (v := some (.int (nI 1))) (σ' := σ) (fun f => rfl) (by decide) ?_
          exact Or.inl ⟨z_hr_t hsi.1 h1 h2 (Int32.not_lt.mp h3) (Int32.not_lt.mp h4), rfl, rfl⟩
theorem pi_C_hasRun2T {xs : Nat → Int32} {L d : Nat} {W : zW} {σ : pi_S} (hc : z_CK W σ) (hq1 : ¬ W.th 2 = 0) {i n : Int32} (h : z_hr (W.si 2) i n) : pi_wp xs L d 39 0 [some (.ref 52), some (.int i), some (.int n)] [] σ (fun v s => v = some (.int (nI 1)) ∧ σ = s) :=
  pi_mo (fun v s q => q.elim (fun q => q.2) (fun q => absurd h q.1)) (pi_C_hasRun2 hc hq1 i n)
set_option maxRecDepth 20000 in
theorem pi_C_lost3_t {xs : Nat → Int32} {L d : Nat} {W : zW} {σ : pi_S} (hc : z_CK W σ) (hq0 : W.th 3 = 0)  : pi_wp xs L d 36 0 [some (.ref 54)] [] σ (fun v s => v = some (.int (nI 1)) ∧ σ = s) := by
  have hk := hc.p.wk
  have hnd8 := hk.wd.nd8
  have hns12 := hk.wd.ns12
  have hn60 := hk.nine
  have hnf := hk.nf
  have hnw := hk.nw
  have hnc := hk.nc
  have hn08 := hk.wd.n0
  have hn140 := hk.wd.n1
  refine pi_go 2 (pc' := 4) (l' := [some (.ref 54)]) (st' := [.int (σ 54 2)]) (σ' := σ) (fun f => rfl) ?_
  refine pi_tp (y := (-1)) (hc.p.ss3.trans (z_sz_t hq0)) ?_
  refine pi_ct 2 (c := (-1) = (-1)) (pc' := 8) (l' := [some (.ref 54)]) (st' := []) (σ' := σ) (pc2 := 12) (l2 := [some (.ref 54)]) (st2 := []) (σ2 := σ) (fun f => rfl) (by decide) ?_
  refine pi_rb 3 (c := (nI 1) &&& 1 = nI 1) (v := some (.int (nI 1))) (σ' := σ) (fun f => rfl) (by decide) ?_
  exact ⟨rfl, rfl⟩
set_option maxRecDepth 20000 in
theorem pi_C_lost3_f {xs : Nat → Int32} {L d : Nat} {W : zW} {σ : pi_S} (hc : z_CK W σ) (hq1 : ¬ W.th 3 = 0)  : pi_wp xs L d 36 0 [some (.ref 54)] [] σ (fun v s => v = some (.int (nI 0)) ∧ σ = s) := by
  have hk := hc.p.wk
  have hnd8 := hk.wd.nd8
  have hns12 := hk.wd.ns12
  have hn60 := hk.nine
  have hnf := hk.nf
  have hnw := hk.nw
  have hnc := hk.nc
  have hn08 := hk.wd.n0
  have hn140 := hk.wd.n1
  have hsi := hk.si 3 (by omega)
  refine pi_go 2 (pc' := 4) (l' := [some (.ref 54)]) (st' := [.int (σ 54 2)]) (σ' := σ) (fun f => rfl) ?_
  refine pi_tp (y := nI (W.si 3)) (hc.p.ss3.trans (z_sz_f hq1)) ?_
  refine pi_cf 2 (c := nI (W.si 3) = (-1)) (pc' := 12) (l' := [some (.ref 54)]) (st' := []) (σ' := σ) (pc2 := 8) (l2 := [some (.ref 54)]) (st2 := []) (σ2 := σ) (fun f => rfl) (z_nIm _ (by omega)) ?_
  refine pi_rb 2 (c := (nI 0) &&& 1 = nI 0) (v := some (.int (nI 0))) (σ' := σ) (fun f => rfl) (by decide) ?_
  exact ⟨rfl, rfl⟩
set_option maxRecDepth 20000 in
theorem pi_C_renew3 {xs : Nat → Int32} {L d : Nat} {W : zW} {σ : pi_S} (hc : z_CK W σ) {f n : Nat} (hf : f < 3) (hn : n ≤ 48)  : pi_wp xs L d 37 0 [some (.ref 54), some (.int (nI f)), some (.int (nI n)), none] [] σ (fun v s => v = none ∧ s 54 1 = nI f ∧ s 54 2 = nI n ∧ (∀ j, j < 48 → s 55 j = nI 0) ∧ pi_fr [54, 55] s σ) := by
  have hk := hc.p.wk
  have hnd8 := hk.wd.nd8
  have hns12 := hk.wd.ns12
  have hn60 := hk.nine
  have hnf := hk.nf
  have hnw := hk.nw
  have hnc := hk.nc
  have hn08 := hk.wd.n0
  have hn140 := hk.wd.n1
  refine pi_go 3 (pc' := 5) (l' := [some (.ref 54), some (.int (nI f)), some (.int (nI n)), none]) (st' := []) (σ' := (pi_up σ 54 1 (nI f))) (fun f => rfl) ?_
  generalize es1 : pi_up σ 54 1 (nI f) = s1
  refine pi_go 4 (pc' := 12) (l' := [some (.ref 54), some (.int (nI f)), some (.int (nI n)), none]) (st' := [.int (if nI 48 < nI n then nI 48 else nI n), .ref 54]) (σ' := s1) (fun f => rfl) ?_
  refine pi_tp (y := nI n) (if_neg (fun q => absurd ((nI_ltI (by omega) (by omega)).mp q) (by omega))) ?_
  refine pi_go 1 (pc' := 15) (l' := [some (.ref 54), some (.int (nI f)), some (.int (nI n)), none]) (st' := []) (σ' := (pi_up s1 54 2 (nI n))) (fun f => rfl) ?_
  generalize es2 : pi_up s1 54 2 (nI n) = s2
  refine pi_go 2 (pc' := 17) (l' := [some (.ref 54), some (.int (nI f)), some (.int (nI n)), some (.int (nI 0))]) (st' := []) (σ' := s2) (fun f => rfl) ?_
  suffices hl3 : ∀ i, i ≤ 48 → ∀ (z3 : pi_S), pi_fr [54, 55] z3 σ → (z3 54 1 = nI f ∧ z3 54 2 = nI n ∧ ∀ j, j < i → z3 55 j = nI 0) → pi_wp xs L d 37 17 [some (.ref 54), some (.int (nI f)), some (.int (nI n)), some (.int (nI i))] [] z3 (fun v s => v = none ∧ s 54 1 = nI f ∧ s 54 2 = nI n ∧ (∀ j, j < 48 → s 55 j = nI 0) ∧ pi_fr [54, 55] s σ) from hl3 0 (by omega) _ (pi_fr_of es2 (by decide) (pi_fr_of es1 (by decide) (pi_fr_rf))) (⟨(congrFun (congrFun es2 54) 1).symm.trans ((pi_up_sn _ _ _ (by decide)).trans ((congrFun (congrFun es1 54) 1).symm.trans (pi_up_ss _ _ _ _))), (congrFun (congrFun es2 54) 2).symm.trans (pi_up_ss _ _ _ _), fun q hq => absurd hq (Nat.not_lt_zero q)⟩)
  refine pi_lp0 ?_ ?_
  · intro z3 hrz3 hx3
    refine pi_ct 3 (c := nI 48 ≤ nI 48) (pc' := 36) (l' := [some (.ref 54), some (.int (nI f)), some (.int (nI n)), some (.int (nI 48))]) (st' := []) (σ' := z3) (pc2 := 23) (l2 := [some (.ref 54), some (.int (nI f)), some (.int (nI n)), some (.int (nI 48))]) (st2 := []) (σ2 := z3) (fun f => rfl) (by decide) ?_
    refine pi_rt 1 (v := none) (σ' := z3) (fun f => rfl) ?_
    exact ⟨rfl, hx3.1, hx3.2.1, hx3.2.2, pi_fr_tr hrz3 (by decide) (pi_fr_rf)⟩
  · intro i hi3 ih3 z3 hrz3 hx3
    refine pi_cf 3 (c := nI 48 ≤ nI i) (pc' := 23) (l' := [some (.ref 54), some (.int (nI f)), some (.int (nI n)), some (.int (nI i))]) (st' := []) (σ' := z3) (pc2 := 36) (l2 := [some (.ref 54), some (.int (nI f)), some (.int (nI n)), some (.int (nI i))]) (st2 := []) (σ2 := z3) (fun f => rfl) (fun zq => absurd ((show nI 48 ≤ nI i ↔ _ from nI_leI (by omega) (by omega)).mp zq) (by omega)) ?_
    refine pi_au 5 (u := i) (n := 48) (a := 55) (x := nI 0) (pc' := 30) (l' := [some (.ref 54), some (.int (nI f)), some (.int (nI n)), some (.int (nI i))]) (t := []) (σ' := z3) (fun f => rfl) (by omega) (by omega) ?_
    generalize es4 : pi_up z3 55 i (nI 0) = s4
    refine pi_go 1 (pc' := 33) (l' := [some (.ref 54), some (.int (nI f)), some (.int (nI n)), some (.int (nI i + nI 1))]) (st' := []) (σ' := s4) (fun f => rfl) ?_
    rw [show nI i + nI 1 = nI (i + 1) from nI_add _ 1]
    refine pi_go 1 (pc' := 17) (l' := [some (.ref 54), some (.int (nI f)), some (.int (nI n)), some (.int (nI (i + 1)))]) (st' := []) (σ' := s4) (fun f => rfl) ?_
    exact ih3 _ (pi_fr_of es4 (by decide) (pi_fr_tr hrz3 (by decide) (pi_fr_rf))) (⟨(congrFun ((congrFun es4 54).symm.trans (pi_up_ne _ _ _ (by decide))) 1).trans (hx3.1), (congrFun ((congrFun es4 54).symm.trans (pi_up_ne _ _ _ (by decide))) 2).trans (hx3.2.1), lt_s (fun q hq => (congrFun ((congrFun es4 55).symm.trans ((pi_up_self _ _ _ _))) q).trans ((if_neg (by omega)).trans (hx3.2.2 q hq))) ((congrFun ((congrFun es4 55).symm.trans ((pi_up_self _ _ _ _))) i).trans (if_pos rfl))⟩)
set_option maxRecDepth 20000 in
theorem pi_C_why3_1 {xs : Nat → Int32} {L d : Nat} {W : zW} {σ : pi_S} (hc : z_CK W σ) {f : Nat} {i : Int32} (hf3 : f < 3) (hq0 : W.th 3 = 0)  : pi_wp xs L (d + 1) 38 0 [some (.ref 54), some (.int (nI f)), some (.int i)] [] σ (fun v s => v = some (.int (nI 1)) ∧ σ = s) := by
  have hk := hc.p.wk
  have hnd8 := hk.wd.nd8
  have hns12 := hk.wd.ns12
  have hn60 := hk.nine
  have hnf := hk.nf
  have hnw := hk.nw
  have hnc := hk.nc
  have hn08 := hk.wd.n0
  have hn140 := hk.wd.n1
  have hsi := hk.si 3 (by omega)
  refine pi_ca 2 (m' := 36) (l' := [some (.ref 54)]) (σ' := σ) (pc2 := 4) (l2 := [some (.ref 54), some (.int (nI f)), some (.int i)]) (t := []) (fun f => rfl) (pi_C_lost3_t hc hq0) ?_
  rintro _ _ ⟨rfl, rfl⟩
  refine pi_cf 1 (c := nI 1 = 0) (pc' := 7) (l' := [some (.ref 54), some (.int (nI f)), some (.int i)]) (st' := []) (σ' := σ) (pc2 := 9) (l2 := [some (.ref 54), some (.int (nI f)), some (.int i)]) (st2 := []) (σ2 := σ) (fun f => rfl) (by decide) ?_
  refine pi_rt 2 (v := some (.int (nI 1))) (σ' := σ) (fun f => rfl) ?_
  exact ⟨rfl, rfl⟩
set_option maxRecDepth 20000 in
theorem pi_C_why3_3 {xs : Nat → Int32} {L d : Nat} {W : zW} {σ : pi_S} (hc : z_CK W σ) {f : Nat} {i : Int32} (hf3 : f < 3) (hq1 : ¬ W.th 3 = 0) (h3 : ¬ W.fo 3 = f)  : pi_wp xs L (d + 1) 38 0 [some (.ref 54), some (.int (nI f)), some (.int i)] [] σ (fun v s => v = some (.int (nI 3)) ∧ σ = s) := by
  have hk := hc.p.wk
  have hnd8 := hk.wd.nd8
  have hns12 := hk.wd.ns12
  have hn60 := hk.nine
  have hnf := hk.nf
  have hnw := hk.nw
  have hnc := hk.nc
  have hn08 := hk.wd.n0
  have hn140 := hk.wd.n1
  have hsi := hk.si 3 (by omega)
  refine pi_ca 2 (m' := 36) (l' := [some (.ref 54)]) (σ' := σ) (pc2 := 4) (l2 := [some (.ref 54), some (.int (nI f)), some (.int i)]) (t := []) (fun f => rfl) (pi_C_lost3_f hc hq1) ?_
  rintro _ _ ⟨rfl, rfl⟩
  refine pi_ct 1 (c := nI 0 = 0) (pc' := 9) (l' := [some (.ref 54), some (.int (nI f)), some (.int i)]) (st' := []) (σ' := σ) (pc2 := 7) (l2 := [some (.ref 54), some (.int (nI f)), some (.int i)]) (st2 := []) (σ2 := σ) (fun f => rfl) (by decide) ?_
  refine pi_go 3 (pc' := 14) (l' := [some (.ref 54), some (.int (nI f)), some (.int i)]) (st' := [.int (σ 54 1), .int (nI f)]) (σ' := σ) (fun f => rfl) ?_
  refine pi_tp (y := nI (W.fo 3)) (hc.p.sf3) ?_
  refine pi_cf 1 (c := nI f = nI (W.fo 3)) (pc' := 17) (l' := [some (.ref 54), some (.int (nI f)), some (.int i)]) (st' := []) (σ' := σ) (pc2 := 19) (l2 := [some (.ref 54), some (.int (nI f)), some (.int i)]) (st2 := []) (σ2 := σ) (fun f => rfl) (fun q => h3 ((nI_eq (by omega) (by omega)).mp q.symm)) ?_
  refine pi_rt 2 (v := some (.int (nI 3))) (σ' := σ) (fun f => rfl) ?_
  exact ⟨rfl, rfl⟩
set_option maxRecDepth 20000 in
theorem pi_C_why3_2 {xs : Nat → Int32} {L d : Nat} {W : zW} {σ : pi_S} (hc : z_CK W σ) {f : Nat} {i : Int32} (hf3 : f < 3) (hq1 : ¬ W.th 3 = 0) (h3 : W.fo 3 = f) (h2 : ¬ z_B (W.si 3) i)  : pi_wp xs L (d + 1) 38 0 [some (.ref 54), some (.int (nI f)), some (.int i)] [] σ (fun v s => v = some (.int (nI 2)) ∧ σ = s) := by
  have hk := hc.p.wk
  have hnd8 := hk.wd.nd8
  have hns12 := hk.wd.ns12
  have hn60 := hk.nine
  have hnf := hk.nf
  have hnw := hk.nw
  have hnc := hk.nc
  have hn08 := hk.wd.n0
  have hn140 := hk.wd.n1
  have hsi := hk.si 3 (by omega)
  refine pi_ca 2 (m' := 36) (l' := [some (.ref 54)]) (σ' := σ) (pc2 := 4) (l2 := [some (.ref 54), some (.int (nI f)), some (.int i)]) (t := []) (fun f => rfl) (pi_C_lost3_f hc hq1) ?_
  rintro _ _ ⟨rfl, rfl⟩
  refine pi_ct 1 (c := nI 0 = 0) (pc' := 9) (l' := [some (.ref 54), some (.int (nI f)), some (.int i)]) (st' := []) (σ' := σ) (pc2 := 7) (l2 := [some (.ref 54), some (.int (nI f)), some (.int i)]) (st2 := []) (σ2 := σ) (fun f => rfl) (by decide) ?_
  refine pi_go 3 (pc' := 14) (l' := [some (.ref 54), some (.int (nI f)), some (.int i)]) (st' := [.int (σ 54 1), .int (nI f)]) (σ' := σ) (fun f => rfl) ?_
  refine pi_tp (y := nI (W.fo 3)) (hc.p.sf3) ?_
  refine pi_ct 1 (c := nI f = nI (W.fo 3)) (pc' := 19) (l' := [some (.ref 54), some (.int (nI f)), some (.int i)]) (st' := []) (σ' := σ) (pc2 := 17) (l2 := [some (.ref 54), some (.int (nI f)), some (.int i)]) (st2 := []) (σ2 := σ) (fun f => rfl) (congrArg nI h3.symm) ?_
  refine pi_go 3 (pc' := 24) (l' := [some (.ref 54), some (.int (nI f)), some (.int i)]) (st' := [.int (σ 54 2), .int i]) (σ' := σ) (fun f => rfl) ?_
  refine pi_tp (y := nI (W.si 3)) (hc.p.ss3.trans (z_sz_f hq1)) ?_
  refine pi_ca 1 (m' := 94) (l' := [some (.int i), some (.int (nI (W.si 3)))]) (σ' := σ) (pc2 := 27) (l2 := [some (.ref 54), some (.int (nI f)), some (.int i)]) (t := []) (fun f => rfl) (pi_C_belowB (a := i) (n := W.si 3) (by omega)) ?_
  rintro _ _ (⟨b1, rfl, rfl⟩ | ⟨b1, rfl, rfl⟩)
  · refine pi_cf 1 (c := nI 1 = 0) (pc' := 30) (l' := [some (.ref 54), some (.int (nI f)), some (.int i)]) (st' := []) (σ' := σ) (pc2 := 34) (l2 := [some (.ref 54), some (.int (nI f)), some (.int i)]) (st2 := []) (σ2 := σ) (fun f => rfl) (by decide) ?_
    exact absurd b1 h2
  · refine pi_ct 1 (c := nI 0 = 0) (pc' := 34) (l' := [some (.ref 54), some (.int (nI f)), some (.int i)]) (st' := []) (σ' := σ) (pc2 := 30) (l2 := [some (.ref 54), some (.int (nI f)), some (.int i)]) (st2 := []) (σ2 := σ) (fun f => rfl) (by decide) ?_
    refine pi_rt 2 (v := some (.int (nI 2))) (σ' := σ) (fun f => rfl) ?_
    exact ⟨rfl, rfl⟩
set_option maxRecDepth 20000 in
theorem pi_C_why3_0 {xs : Nat → Int32} {L d : Nat} {W : zW} {σ : pi_S} (hc : z_CK W σ) {f i : Nat} (hf3 : f < 3) (hq1 : ¬ W.th 3 = 0) (h3 : W.fo 3 = f) (h2 : i < W.si 3)  : pi_wp xs L (d + 1) 38 0 [some (.ref 54), some (.int (nI f)), some (.int (nI i))] [] σ (fun v s => v = some (.int (nI 0)) ∧ σ = s) := by
  have hk := hc.p.wk
  have hnd8 := hk.wd.nd8
  have hns12 := hk.wd.ns12
  have hn60 := hk.nine
  have hnf := hk.nf
  have hnw := hk.nw
  have hnc := hk.nc
  have hn08 := hk.wd.n0
  have hn140 := hk.wd.n1
  have hsi := hk.si 3 (by omega)
  refine pi_ca 2 (m' := 36) (l' := [some (.ref 54)]) (σ' := σ) (pc2 := 4) (l2 := [some (.ref 54), some (.int (nI f)), some (.int (nI i))]) (t := []) (fun f => rfl) (pi_C_lost3_f hc hq1) ?_
  rintro _ _ ⟨rfl, rfl⟩
  refine pi_ct 1 (c := nI 0 = 0) (pc' := 9) (l' := [some (.ref 54), some (.int (nI f)), some (.int (nI i))]) (st' := []) (σ' := σ) (pc2 := 7) (l2 := [some (.ref 54), some (.int (nI f)), some (.int (nI i))]) (st2 := []) (σ2 := σ) (fun f => rfl) (by decide) ?_
  refine pi_go 3 (pc' := 14) (l' := [some (.ref 54), some (.int (nI f)), some (.int (nI i))]) (st' := [.int (σ 54 1), .int (nI f)]) (σ' := σ) (fun f => rfl) ?_
  refine pi_tp (y := nI (W.fo 3)) (hc.p.sf3) ?_
  refine pi_ct 1 (c := nI f = nI (W.fo 3)) (pc' := 19) (l' := [some (.ref 54), some (.int (nI f)), some (.int (nI i))]) (st' := []) (σ' := σ) (pc2 := 17) (l2 := [some (.ref 54), some (.int (nI f)), some (.int (nI i))]) (st2 := []) (σ2 := σ) (fun f => rfl) (congrArg nI h3.symm) ?_
  refine pi_go 3 (pc' := 24) (l' := [some (.ref 54), some (.int (nI f)), some (.int (nI i))]) (st' := [.int (σ 54 2), .int (nI i)]) (σ' := σ) (fun f => rfl) ?_
  refine pi_tp (y := nI (W.si 3)) (hc.p.ss3.trans (z_sz_f hq1)) ?_
  refine pi_ca 1 (m' := 94) (l' := [some (.int (nI i)), some (.int (nI (W.si 3)))]) (σ' := σ) (pc2 := 27) (l2 := [some (.ref 54), some (.int (nI f)), some (.int (nI i))]) (t := []) (fun f => rfl) (pi_below1 _ _ (z_BL (by omega) (by omega))) ?_
  rintro _ _ ⟨rfl, rfl⟩
  refine pi_cf 1 (c := nI 1 = 0) (pc' := 30) (l' := [some (.ref 54), some (.int (nI f)), some (.int (nI i))]) (st' := []) (σ' := σ) (pc2 := 34) (l2 := [some (.ref 54), some (.int (nI f)), some (.int (nI i))]) (st2 := []) (σ2 := σ) (fun f => rfl) (by decide) ?_
  refine pi_rt 3 (v := some (.int (nI 0))) (σ' := σ) (fun f => rfl) ?_
  exact ⟨rfl, rfl⟩
set_option maxRecDepth 20000 in
theorem pi_C_itemAt3 {xs : Nat → Int32} {L d : Nat} {W : zW} {σ : pi_S} {i : Nat} (hsz : σ 54 2 = nI (W.si 3)) (hs48 : W.si 3 ≤ 48) (hit : σ 55 i = W.it (48 * 3 + i)) (h2 : i < W.si 3)  : pi_wp xs L (d + 1) 40 0 [some (.ref 54), some (.int (nI i))] [] σ (fun v s => v = some (.int (W.it (48 * 3 + i))) ∧ σ = s) := by
  refine pi_go 3 (pc' := 5) (l' := [some (.ref 54), some (.int (nI i))]) (st' := [.int (σ 54 2), .int (nI i)]) (σ' := σ) (fun f => rfl) ?_
  refine pi_tp (y := nI (W.si 3)) (hsz) ?_
  refine pi_ca 1 (m' := 94) (l' := [some (.int (nI i)), some (.int (nI (W.si 3)))]) (σ' := σ) (pc2 := 8) (l2 := [some (.ref 54), some (.int (nI i))]) (t := []) (fun f => rfl) (pi_below1 _ _ (z_BL (by omega) (by omega))) ?_
  rintro _ _ ⟨rfl, rfl⟩
  refine pi_cf 1 (c := nI 1 = 0) (pc' := 11) (l' := [some (.ref 54), some (.int (nI i))]) (st' := []) (σ' := σ) (pc2 := 20) (l2 := [some (.ref 54), some (.int (nI i))]) (st2 := []) (σ2 := σ) (fun f => rfl) (by decide) ?_
  refine pi_ai 4 (u := i) (n := 48) (g := σ 55) (pc' := 17) (l' := [some (.ref 54), some (.int (nI i))]) (t := []) (σ' := σ) (fun f => rfl) (by omega) (by omega) ?_
  refine pi_tp (y := W.it (48 * 3 + i)) (hit) ?_
  refine pi_rt 2 (v := some (.int (W.it (48 * 3 + i)))) (σ' := σ) (fun f => rfl) ?_
  exact ⟨rfl, rfl⟩
set_option maxRecDepth 20000 in
theorem pi_C_narrow3 {xs : Nat → Int32} {L d : Nat} {W : zW} {σ : pi_S} (hfo : σ 54 1 = nI (W.fo 3)) (hf3 : W.fo 3 < 3) (x : Int32)  : pi_wp xs L d 42 0 [some (.ref 54), some (.int x)] [] σ (fun v s => v = some (.int (z_nar (W.fo 3) x)) ∧ σ = s) := by
  refine pi_go 2 (pc' := 4) (l' := [some (.ref 54), some (.int x)]) (st' := [.int (σ 54 1)]) (σ' := σ) (fun f => rfl) ?_
  refine pi_tp (y := nI (W.fo 3)) (hfo) ?_
  refine pi_if 1 (c := nI (W.fo 3) = 0) (pc' := 7) (l' := [some (.ref 54), some (.int x)]) (st' := []) (σ' := σ) (pc2 := 10) (l2 := [some (.ref 54), some (.int x)]) (st2 := []) (σ2 := σ) (fun f => rfl) (fun h1 => ?_) (fun h1 => ?_)
  · replace h1 : (W.fo 3) = 0 := (show nI (W.fo 3) = nI 0 ↔ _ from nI_eq (by omega) (by omega)).mp h1
    refine pi_rt 3 (v := some (.int ((Int32.toInt8 x).toInt32))) (σ' := σ) (fun f => rfl) ?_
    exact ⟨congrArg (fun z => some (Value.int z)) (show _ = z_nar (W.fo 3) x from (if_pos h1).symm), rfl⟩
  · replace h1 : ¬ ((W.fo 3) = 0) := fun zq => h1 ((show nI (W.fo 3) = nI 0 ↔ _ from nI_eq (by omega) (by omega)).mpr zq)
    refine pi_go 2 (pc' := 14) (l' := [some (.ref 54), some (.int x)]) (st' := [.int (σ 54 1)]) (σ' := σ) (fun f => rfl) ?_
    refine pi_tp (y := nI (W.fo 3)) (hfo) ?_
    refine pi_if 2 (c := nI (W.fo 3) = nI 1) (pc' := 18) (l' := [some (.ref 54), some (.int x)]) (st' := []) (σ' := σ) (pc2 := 23) (l2 := [some (.ref 54), some (.int x)]) (st2 := []) (σ2 := σ) (fun f => rfl) (fun h2 => ?_) (fun h2 => ?_)
    · replace h2 : (W.fo 3) = 1 := (nI_eq (by omega) (by omega)).mp h2
      refine pi_rt 4 (v := some (.int ((Int32.toInt16 x).toInt32))) (σ' := σ) (fun f => rfl) ?_
      exact ⟨congrArg (fun z => some (Value.int z)) (show _ = z_nar (W.fo 3) x from ((if_neg h1).trans (if_pos h2)).symm), rfl⟩
    · replace h2 : ¬ ((W.fo 3) = 1) := fun zq => h2 ((nI_eq (by omega) (by omega)).mpr zq)
      refine pi_rt 2 (v := some (.int x)) (σ' := σ) (fun f => rfl) ?_
      exact ⟨congrArg (fun z => some (Value.int z)) (show _ = z_nar (W.fo 3) x from ((if_neg h1).trans (if_neg h2)).symm), rfl⟩
set_option maxRecDepth 20000 in
theorem pi_C_store3 {xs : Nat → Int32} {L d : Nat} {W : zW} {σ : pi_S} (hfo : σ 54 1 = nI (W.fo 3)) (hf3 : W.fo 3 < 3) (hsz : σ 54 2 = nI (W.si 3)) (hs48 : W.si 3 ≤ 48) {i : Nat} (h2 : i < W.si 3) (x : Int32)  : pi_wp xs L (d + 1) 41 0 [some (.ref 54), some (.int (nI i)), some (.int x)] [] σ (fun v s => v = none ∧ s 55 = upd (σ 55) i (z_nar (W.fo 3) x) ∧ pi_fr [55] s σ) := by
  refine pi_go 3 (pc' := 5) (l' := [some (.ref 54), some (.int (nI i)), some (.int x)]) (st' := [.int (σ 54 2), .int (nI i)]) (σ' := σ) (fun f => rfl) ?_
  refine pi_tp (y := nI (W.si 3)) (hsz) ?_
  refine pi_ca 1 (m' := 94) (l' := [some (.int (nI i)), some (.int (nI (W.si 3)))]) (σ' := σ) (pc2 := 8) (l2 := [some (.ref 54), some (.int (nI i)), some (.int x)]) (t := []) (fun f => rfl) (pi_below1 _ _ (z_BL (by omega) (by omega))) ?_
  rintro _ _ ⟨rfl, rfl⟩
  refine pi_cf 1 (c := nI 1 = 0) (pc' := 11) (l' := [some (.ref 54), some (.int (nI i)), some (.int x)]) (st' := []) (σ' := σ) (pc2 := 22) (l2 := [some (.ref 54), some (.int (nI i)), some (.int x)]) (st2 := []) (σ2 := σ) (fun f => rfl) (by decide) ?_
  refine pi_ca 6 (m' := 42) (l' := [some (.ref 54), some (.int x)]) (σ' := σ) (pc2 := 21) (l2 := [some (.ref 54), some (.int (nI i)), some (.int x)]) (t := [.int (nI i), .ref 55]) (fun f => rfl) (pi_C_narrow3 (W := W) hfo hf3 x) ?_
  rintro _ _ ⟨rfl, rfl⟩
  refine pi_au 1 (u := i) (n := 48) (a := 55) (x := z_nar (W.fo 3) x) (pc' := 22) (l' := [some (.ref 54), some (.int (nI i)), some (.int x)]) (t := []) (σ' := σ) (fun f => rfl) (by omega) (by omega) ?_
  generalize es1 : pi_up σ 55 i (z_nar (W.fo 3) x) = s1
  refine pi_rt 1 (v := none) (σ' := s1) (fun f => rfl) ?_
  exact ⟨rfl, (congrFun es1 55).symm.trans ((pi_up_self _ _ _ _)), pi_fr_of es1 (by decide) (pi_fr_rf)⟩
set_option maxRecDepth 20000 in
theorem pi_C_hasRun3 {xs : Nat → Int32} {L d : Nat} {W : zW} {σ : pi_S} (hc : z_CK W σ) (hq1 : ¬ W.th 3 = 0) (i n : Int32)  : pi_wp xs L d 39 0 [some (.ref 54), some (.int i), some (.int n)] [] σ (fun v s => (z_hr (W.si 3) i n ∧ v = some (.int (nI 1)) ∧ σ = s) ∨ (¬ z_hr (W.si 3) i n ∧ v = some (.int (nI 0)) ∧ σ = s)) := by
  have hk := hc.p.wk
  have hnd8 := hk.wd.nd8
  have hns12 := hk.wd.ns12
  have hn60 := hk.nine
  have hnf := hk.nf
  have hnw := hk.nw
  have hnc := hk.nc
  have hn08 := hk.wd.n0
  have hn140 := hk.wd.n1
  have hsi := hk.si 3 (by omega)
  refine pi_if 2 (c := i < 0) (pc' := 30) (l' := [some (.ref 54), some (.int i), some (.int n)]) (st' := []) (σ' := σ) (pc2 := 4) (l2 := [some (.ref 54), some (.int i), some (.int n)]) (st2 := []) (σ2 := σ) (fun f => rfl) (fun h1 => ?_) (fun h1 => ?_)
  · refine pi_rb 2 (c := (nI 0) &&& 1 = nI 0) (v := some (.int (nI 0))) (σ' := σ) (fun f => rfl) (by decide) ?_
    exact Or.inr ⟨z_hr_1 hsi.1 h1, rfl, rfl⟩
  · refine pi_if 2 (c := n < 0) (pc' := 30) (l' := [some (.ref 54), some (.int i), some (.int n)]) (st' := []) (σ' := σ) (pc2 := 8) (l2 := [some (.ref 54), some (.int i), some (.int n)]) (st2 := []) (σ2 := σ) (fun f => rfl) (fun h2 => ?_) (fun h2 => ?_)
    · refine pi_rb 2 (c := (nI 0) &&& 1 = nI 0) (v := some (.int (nI 0))) (σ' := σ) (fun f => rfl) (by decide) ?_
      exact Or.inr ⟨z_hr_2 hsi.1 h2, rfl, rfl⟩
    · refine pi_go 3 (pc' := 13) (l' := [some (.ref 54), some (.int i), some (.int n)]) (st' := [.int (σ 54 2), .int n]) (σ' := σ) (fun f => rfl) ?_
      refine pi_tp (y := nI (W.si 3)) (hc.p.ss3.trans (z_sz_f hq1)) ?_
      refine pi_if 1 (c := nI (W.si 3) < n) (pc' := 30) (l' := [some (.ref 54), some (.int i), some (.int n)]) (st' := []) (σ' := σ) (pc2 := 16) (l2 := [some (.ref 54), some (.int i), some (.int n)]) (st2 := []) (σ2 := σ) (fun f => rfl) (fun h3 => ?_) (fun h3 => ?_)
      · refine pi_rb 2 (c := (nI 0) &&& 1 = nI 0) (v := some (.int (nI 0))) (σ' := σ) (fun f => rfl) (by decide) ?_
        exact Or.inr ⟨z_hr_3 hsi.1 h3, rfl, rfl⟩
      · refine pi_go 3 (pc' := 21) (l' := [some (.ref 54), some (.int i), some (.int n)]) (st' := [.int (σ 54 2), .int i]) (σ' := σ) (fun f => rfl) ?_
        refine pi_tp (y := nI (W.si 3)) (hc.p.ss3.trans (z_sz_f hq1)) ?_
        refine pi_if 3 (c := (nI (W.si 3)) - n < i) (pc' := 30) (l' := [some (.ref 54), some (.int i), some (.int n)]) (st' := []) (σ' := σ) (pc2 := 26) (l2 := [some (.ref 54), some (.int i), some (.int n)]) (st2 := []) (σ2 := σ) (fun f => rfl) (fun h4 => ?_) (fun h4 => ?_)
        · refine pi_rb 2 (c := (nI 0) &&& 1 = nI 0) (v := some (.int (nI 0))) (σ' := σ) (fun f => rfl) (by decide) ?_
          exact Or.inr ⟨z_hr_4 hsi.1 h4, rfl, rfl⟩
        · refine pi_rb 3 (c := (nI 1) &&& 1 = nI 1) (v := some (.int (nI 1))) (σ' := σ) (fun f => rfl) (by decide) ?_
          exact Or.inl ⟨z_hr_t hsi.1 h1 h2 (Int32.not_lt.mp h3) (Int32.not_lt.mp h4), rfl, rfl⟩
theorem pi_C_hasRun3T {xs : Nat → Int32} {L d : Nat} {W : zW} {σ : pi_S} (hc : z_CK W σ) (hq1 : ¬ W.th 3 = 0) {i n : Int32} (h : z_hr (W.si 3) i n) : pi_wp xs L d 39 0 [some (.ref 54), some (.int i), some (.int n)] [] σ (fun v s => v = some (.int (nI 1)) ∧ σ = s) :=
  pi_mo (fun v s q => q.elim (fun q => q.2) (fun q => absurd h q.1)) (pi_C_hasRun3 hc hq1 i n)
set_option maxRecDepth 20000 in
theorem pi_X_sheet_bad {xs : Nat → Int32} {L d : Nat} {W : zW} {σ : pi_S} (hR : z_CR W σ) {a b c : Int32} (hb : ¬ (z_B 4 a ∧ z_B 3 b ∧ c ≤ nI 48))  : pi_wp xs L (d + 9) 86 0 [some (.ref 0), some (.int a), some (.int b), some (.int c)] [] σ (fun v s => v = some (.int (-2)) ∧ z_CR W s ∧ pi_fr z_CJ s σ) := by
  have hk := hR.k.p.wk
  have hnd8 := hk.wd.nd8
  have hns12 := hk.wd.ns12
  have hn60 := hk.nine
  have hnf := hk.nf
  have hnw := hk.nw
  have hnc := hk.nc
  have hn08 := hk.wd.n0
  have hn140 := hk.wd.n1
  refine pi_ca 3 (m' := 94) (l' := [some (.int a), some (.int (nI 4))]) (σ' := σ) (pc2 := 5) (l2 := [some (.ref 0), some (.int a), some (.int b), some (.int c)]) (t := []) (fun f => rfl) (pi_C_belowB (a := a) (n := 4) (by omega)) ?_
  rintro _ _ (⟨b1, rfl, rfl⟩ | ⟨b1, rfl, rfl⟩)
  · refine pi_cf 1 (c := nI 1 = 0) (pc' := 8) (l' := [some (.ref 0), some (.int a), some (.int b), some (.int c)]) (st' := []) (σ' := σ) (pc2 := 22) (l2 := [some (.ref 0), some (.int a), some (.int b), some (.int c)]) (st2 := []) (σ2 := σ) (fun f => rfl) (by decide) ?_
    refine pi_ca 3 (m' := 94) (l' := [some (.int b), some (.int (nI 3))]) (σ' := σ) (pc2 := 13) (l2 := [some (.ref 0), some (.int a), some (.int b), some (.int c)]) (t := []) (fun f => rfl) (pi_C_belowB (a := b) (n := 3) (by omega)) ?_
    rintro _ _ (⟨b2, rfl, rfl⟩ | ⟨b2, rfl, rfl⟩)
    · refine pi_cf 1 (c := nI 1 = 0) (pc' := 16) (l' := [some (.ref 0), some (.int a), some (.int b), some (.int c)]) (st' := []) (σ' := σ) (pc2 := 22) (l2 := [some (.ref 0), some (.int a), some (.int b), some (.int c)]) (st2 := []) (σ2 := σ) (fun f => rfl) (by decide) ?_
      refine pi_if 3 (c := c ≤ nI 48) (pc' := 25) (l' := [some (.ref 0), some (.int a), some (.int b), some (.int c)]) (st' := []) (σ' := σ) (pc2 := 22) (l2 := [some (.ref 0), some (.int a), some (.int b), some (.int c)]) (st2 := []) (σ2 := σ) (fun f => rfl) (fun h3 => ?_) (fun h3 => ?_)
      · exact (hb ⟨b1, b2, h3⟩).elim
      · refine pi_rt 2 (v := some (.int (-2))) (σ' := σ) (fun f => rfl) ?_
        exact ⟨rfl, hR, pi_fr_rf⟩
    · refine pi_ct 1 (c := nI 0 = 0) (pc' := 22) (l' := [some (.ref 0), some (.int a), some (.int b), some (.int c)]) (st' := []) (σ' := σ) (pc2 := 16) (l2 := [some (.ref 0), some (.int a), some (.int b), some (.int c)]) (st2 := []) (σ2 := σ) (fun f => rfl) (by decide) ?_
      refine pi_rt 2 (v := some (.int (-2))) (σ' := σ) (fun f => rfl) ?_
      exact ⟨rfl, hR, pi_fr_rf⟩
  · refine pi_ct 1 (c := nI 0 = 0) (pc' := 22) (l' := [some (.ref 0), some (.int a), some (.int b), some (.int c)]) (st' := []) (σ' := σ) (pc2 := 8) (l2 := [some (.ref 0), some (.int a), some (.int b), some (.int c)]) (st2 := []) (σ2 := σ) (fun f => rfl) (by decide) ?_
    refine pi_rt 2 (v := some (.int (-2))) (σ' := σ) (fun f => rfl) ?_
    exact ⟨rfl, hR, pi_fr_rf⟩
set_option maxRecDepth 20000 in
theorem pi_X_lose_bad {xs : Nat → Int32} {L d : Nat} {W : zW} {σ : pi_S} (hR : z_CR W σ) {a : Int32} (hb : ¬ (z_B 4 a))  : pi_wp xs L (d + 9) 87 0 [some (.ref 0), some (.int a), none, none] [] σ (fun v s => v = some (.int (-2)) ∧ z_CR W s ∧ pi_fr z_CJ s σ) := by
  have hk := hR.k.p.wk
  have hnd8 := hk.wd.nd8
  have hns12 := hk.wd.ns12
  have hn60 := hk.nine
  have hnf := hk.nf
  have hnw := hk.nw
  have hnc := hk.nc
  have hn08 := hk.wd.n0
  have hn140 := hk.wd.n1
  refine pi_ca 3 (m' := 94) (l' := [some (.int a), some (.int (nI 4))]) (σ' := σ) (pc2 := 5) (l2 := [some (.ref 0), some (.int a), none, none]) (t := []) (fun f => rfl) (pi_C_belowB (a := a) (n := 4) (by omega)) ?_
  rintro _ _ (⟨b1, rfl, rfl⟩ | ⟨b1, rfl, rfl⟩)
  · refine pi_cf 1 (c := nI 1 = 0) (pc' := 11) (l' := [some (.ref 0), some (.int a), none, none]) (st' := []) (σ' := σ) (pc2 := 8) (l2 := [some (.ref 0), some (.int a), none, none]) (st2 := []) (σ2 := σ) (fun f => rfl) (by decide) ?_
    exact (hb b1).elim
  · refine pi_ct 1 (c := nI 0 = 0) (pc' := 8) (l' := [some (.ref 0), some (.int a), none, none]) (st' := []) (σ' := σ) (pc2 := 11) (l2 := [some (.ref 0), some (.int a), none, none]) (st2 := []) (σ2 := σ) (fun f => rfl) (by decide) ?_
    refine pi_rt 2 (v := some (.int (-2))) (σ' := σ) (fun f => rfl) ?_
    exact ⟨rfl, hR, pi_fr_rf⟩
set_option maxRecDepth 20000 in
theorem pi_X_put_bad {xs : Nat → Int32} {L d : Nat} {W : zW} {σ : pi_S} (hR : z_CR W σ) {a b c e : Int32} (hb : ¬ (z_B 4 a ∧ z_B 3 b))  : pi_wp xs L (d + 9) 88 0 [some (.ref 0), some (.int a), some (.int b), some (.int c), some (.int e), none] [] σ (fun v s => v = some (.int (-2)) ∧ z_CR W s ∧ pi_fr z_CJ s σ) := by
  have hk := hR.k.p.wk
  have hnd8 := hk.wd.nd8
  have hns12 := hk.wd.ns12
  have hn60 := hk.nine
  have hnf := hk.nf
  have hnw := hk.nw
  have hnc := hk.nc
  have hn08 := hk.wd.n0
  have hn140 := hk.wd.n1
  refine pi_ca 3 (m' := 94) (l' := [some (.int a), some (.int (nI 4))]) (σ' := σ) (pc2 := 5) (l2 := [some (.ref 0), some (.int a), some (.int b), some (.int c), some (.int e), none]) (t := []) (fun f => rfl) (pi_C_belowB (a := a) (n := 4) (by omega)) ?_
  rintro _ _ (⟨b1, rfl, rfl⟩ | ⟨b1, rfl, rfl⟩)
  · refine pi_cf 1 (c := nI 1 = 0) (pc' := 8) (l' := [some (.ref 0), some (.int a), some (.int b), some (.int c), some (.int e), none]) (st' := []) (σ' := σ) (pc2 := 16) (l2 := [some (.ref 0), some (.int a), some (.int b), some (.int c), some (.int e), none]) (st2 := []) (σ2 := σ) (fun f => rfl) (by decide) ?_
    refine pi_ca 3 (m' := 94) (l' := [some (.int b), some (.int (nI 3))]) (σ' := σ) (pc2 := 13) (l2 := [some (.ref 0), some (.int a), some (.int b), some (.int c), some (.int e), none]) (t := []) (fun f => rfl) (pi_C_belowB (a := b) (n := 3) (by omega)) ?_
    rintro _ _ (⟨b2, rfl, rfl⟩ | ⟨b2, rfl, rfl⟩)
    · refine pi_cf 1 (c := nI 1 = 0) (pc' := 19) (l' := [some (.ref 0), some (.int a), some (.int b), some (.int c), some (.int e), none]) (st' := []) (σ' := σ) (pc2 := 16) (l2 := [some (.ref 0), some (.int a), some (.int b), some (.int c), some (.int e), none]) (st2 := []) (σ2 := σ) (fun f => rfl) (by decide) ?_
      exact (hb ⟨b1, b2⟩).elim
    · refine pi_ct 1 (c := nI 0 = 0) (pc' := 16) (l' := [some (.ref 0), some (.int a), some (.int b), some (.int c), some (.int e), none]) (st' := []) (σ' := σ) (pc2 := 19) (l2 := [some (.ref 0), some (.int a), some (.int b), some (.int c), some (.int e), none]) (st2 := []) (σ2 := σ) (fun f => rfl) (by decide) ?_
      refine pi_rt 2 (v := some (.int (-2))) (σ' := σ) (fun f => rfl) ?_
      exact ⟨rfl, hR, pi_fr_rf⟩
  · refine pi_ct 1 (c := nI 0 = 0) (pc' := 16) (l' := [some (.ref 0), some (.int a), some (.int b), some (.int c), some (.int e), none]) (st' := []) (σ' := σ) (pc2 := 8) (l2 := [some (.ref 0), some (.int a), some (.int b), some (.int c), some (.int e), none]) (st2 := []) (σ2 := σ) (fun f => rfl) (by decide) ?_
    refine pi_rt 2 (v := some (.int (-2))) (σ' := σ) (fun f => rfl) ?_
    exact ⟨rfl, hR, pi_fr_rf⟩
set_option maxRecDepth 20000 in
theorem pi_X_get_bad {xs : Nat → Int32} {L d : Nat} {W : zW} {σ : pi_S} (hR : z_CR W σ) {a b c : Int32} (hb : ¬ (z_B 4 a ∧ z_B 3 b))  : pi_wp xs L (d + 9) 89 0 [some (.ref 0), some (.int a), some (.int b), some (.int c), none] [] σ (fun v s => v = some (.int (Int32.ofNat 2147483648)) ∧ z_CR W s ∧ pi_fr z_CJ s σ) := by
  have hk := hR.k.p.wk
  have hnd8 := hk.wd.nd8
  have hns12 := hk.wd.ns12
  have hn60 := hk.nine
  have hnf := hk.nf
  have hnw := hk.nw
  have hnc := hk.nc
  have hn08 := hk.wd.n0
  have hn140 := hk.wd.n1
  refine pi_ca 3 (m' := 94) (l' := [some (.int a), some (.int (nI 4))]) (σ' := σ) (pc2 := 5) (l2 := [some (.ref 0), some (.int a), some (.int b), some (.int c), none]) (t := []) (fun f => rfl) (pi_C_belowB (a := a) (n := 4) (by omega)) ?_
  rintro _ _ (⟨b1, rfl, rfl⟩ | ⟨b1, rfl, rfl⟩)
  · refine pi_cf 1 (c := nI 1 = 0) (pc' := 8) (l' := [some (.ref 0), some (.int a), some (.int b), some (.int c), none]) (st' := []) (σ' := σ) (pc2 := 16) (l2 := [some (.ref 0), some (.int a), some (.int b), some (.int c), none]) (st2 := []) (σ2 := σ) (fun f => rfl) (by decide) ?_
    refine pi_ca 3 (m' := 94) (l' := [some (.int b), some (.int (nI 3))]) (σ' := σ) (pc2 := 13) (l2 := [some (.ref 0), some (.int a), some (.int b), some (.int c), none]) (t := []) (fun f => rfl) (pi_C_belowB (a := b) (n := 3) (by omega)) ?_
    rintro _ _ (⟨b2, rfl, rfl⟩ | ⟨b2, rfl, rfl⟩)
    · refine pi_cf 1 (c := nI 1 = 0) (pc' := 20) (l' := [some (.ref 0), some (.int a), some (.int b), some (.int c), none]) (st' := []) (σ' := σ) (pc2 := 16) (l2 := [some (.ref 0), some (.int a), some (.int b), some (.int c), none]) (st2 := []) (σ2 := σ) (fun f => rfl) (by decide) ?_
      exact (hb ⟨b1, b2⟩).elim
    · refine pi_ct 1 (c := nI 0 = 0) (pc' := 16) (l' := [some (.ref 0), some (.int a), some (.int b), some (.int c), none]) (st' := []) (σ' := σ) (pc2 := 20) (l2 := [some (.ref 0), some (.int a), some (.int b), some (.int c), none]) (st2 := []) (σ2 := σ) (fun f => rfl) (by decide) ?_
      refine pi_rt 2 (v := some (.int (Int32.ofNat 2147483648))) (σ' := σ) (fun f => rfl) ?_
      exact ⟨rfl, hR, pi_fr_rf⟩
  · refine pi_ct 1 (c := nI 0 = 0) (pc' := 16) (l' := [some (.ref 0), some (.int a), some (.int b), some (.int c), none]) (st' := []) (σ' := σ) (pc2 := 8) (l2 := [some (.ref 0), some (.int a), some (.int b), some (.int c), none]) (st2 := []) (σ2 := σ) (fun f => rfl) (by decide) ?_
    refine pi_rt 2 (v := some (.int (Int32.ofNat 2147483648))) (σ' := σ) (fun f => rfl) ?_
    exact ⟨rfl, hR, pi_fr_rf⟩
set_option maxRecDepth 20000 in
theorem pi_X_copy_bad {xs : Nat → Int32} {L d : Nat} {W : zW} {σ : pi_S} (hR : z_CR W σ) {a b c e f : Int32} (hb : ¬ (z_B 4 a ∧ z_B 4 c))  : pi_wp xs L (d + 9) 90 0 [some (.ref 0), some (.int a), some (.int b), some (.int c), some (.int e), some (.int f), none, none] [] σ (fun v s => v = some (.int (-2)) ∧ z_CR W s ∧ pi_fr z_CJ s σ) := by
  have hk := hR.k.p.wk
  have hnd8 := hk.wd.nd8
  have hns12 := hk.wd.ns12
  have hn60 := hk.nine
  have hnf := hk.nf
  have hnw := hk.nw
  have hnc := hk.nc
  have hn08 := hk.wd.n0
  have hn140 := hk.wd.n1
  refine pi_ca 3 (m' := 94) (l' := [some (.int a), some (.int (nI 4))]) (σ' := σ) (pc2 := 5) (l2 := [some (.ref 0), some (.int a), some (.int b), some (.int c), some (.int e), some (.int f), none, none]) (t := []) (fun f => rfl) (pi_C_belowB (a := a) (n := 4) (by omega)) ?_
  rintro _ _ (⟨b1, rfl, rfl⟩ | ⟨b1, rfl, rfl⟩)
  · refine pi_cf 1 (c := nI 1 = 0) (pc' := 8) (l' := [some (.ref 0), some (.int a), some (.int b), some (.int c), some (.int e), some (.int f), none, none]) (st' := []) (σ' := σ) (pc2 := 16) (l2 := [some (.ref 0), some (.int a), some (.int b), some (.int c), some (.int e), some (.int f), none, none]) (st2 := []) (σ2 := σ) (fun f => rfl) (by decide) ?_
    refine pi_ca 3 (m' := 94) (l' := [some (.int c), some (.int (nI 4))]) (σ' := σ) (pc2 := 13) (l2 := [some (.ref 0), some (.int a), some (.int b), some (.int c), some (.int e), some (.int f), none, none]) (t := []) (fun f => rfl) (pi_C_belowB (a := c) (n := 4) (by omega)) ?_
    rintro _ _ (⟨b2, rfl, rfl⟩ | ⟨b2, rfl, rfl⟩)
    · refine pi_cf 1 (c := nI 1 = 0) (pc' := 19) (l' := [some (.ref 0), some (.int a), some (.int b), some (.int c), some (.int e), some (.int f), none, none]) (st' := []) (σ' := σ) (pc2 := 16) (l2 := [some (.ref 0), some (.int a), some (.int b), some (.int c), some (.int e), some (.int f), none, none]) (st2 := []) (σ2 := σ) (fun f => rfl) (by decide) ?_
      exact (hb ⟨b1, b2⟩).elim
    · refine pi_ct 1 (c := nI 0 = 0) (pc' := 16) (l' := [some (.ref 0), some (.int a), some (.int b), some (.int c), some (.int e), some (.int f), none, none]) (st' := []) (σ' := σ) (pc2 := 19) (l2 := [some (.ref 0), some (.int a), some (.int b), some (.int c), some (.int e), some (.int f), none, none]) (st2 := []) (σ2 := σ) (fun f => rfl) (by decide) ?_
      refine pi_rt 2 (v := some (.int (-2))) (σ' := σ) (fun f => rfl) ?_
      exact ⟨rfl, hR, pi_fr_rf⟩
  · refine pi_ct 1 (c := nI 0 = 0) (pc' := 16) (l' := [some (.ref 0), some (.int a), some (.int b), some (.int c), some (.int e), some (.int f), none, none]) (st' := []) (σ' := σ) (pc2 := 8) (l2 := [some (.ref 0), some (.int a), some (.int b), some (.int c), some (.int e), some (.int f), none, none]) (st2 := []) (σ2 := σ) (fun f => rfl) (by decide) ?_
    refine pi_rt 2 (v := some (.int (-2))) (σ' := σ) (fun f => rfl) ?_
    exact ⟨rfl, hR, pi_fr_rf⟩
set_option maxRecDepth 20000 in
theorem pi_X_write_bad {xs : Nat → Int32} {L d : Nat} {W : zW} {σ : pi_S} (hR : z_CR W σ) {a b : Int32} (hb : ¬ (z_B (W.nine + 1) a ∧ z_B 4 b))  : pi_wp xs L (d + 9) 91 0 [some (.ref 0), some (.int a), some (.int b), none, none, none, none] [] σ (fun v s => v = some (.int (-2)) ∧ z_CR W s ∧ pi_fr z_CJ s σ) := by
  have hk := hR.k.p.wk
  have hnd8 := hk.wd.nd8
  have hns12 := hk.wd.ns12
  have hn60 := hk.nine
  have hnf := hk.nf
  have hnw := hk.nw
  have hnc := hk.nc
  have hn08 := hk.wd.n0
  have hn140 := hk.wd.n1
  refine pi_ca 3 (m' := 95) (l' := [some (.ref 0), some (.int a)]) (σ' := σ) (pc2 := 5) (l2 := [some (.ref 0), some (.int a), some (.int b), none, none, none, none]) (t := []) (fun f => rfl) (pi_C_toNine hR.k) ?_
  rintro _ _ (⟨b1, rfl, rfl⟩ | ⟨b1, rfl, rfl⟩)
  · refine pi_cf 1 (c := nI 1 = 0) (pc' := 8) (l' := [some (.ref 0), some (.int a), some (.int b), none, none, none, none]) (st' := []) (σ' := σ) (pc2 := 16) (l2 := [some (.ref 0), some (.int a), some (.int b), none, none, none, none]) (st2 := []) (σ2 := σ) (fun f => rfl) (by decide) ?_
    refine pi_ca 3 (m' := 94) (l' := [some (.int b), some (.int (nI 4))]) (σ' := σ) (pc2 := 13) (l2 := [some (.ref 0), some (.int a), some (.int b), none, none, none, none]) (t := []) (fun f => rfl) (pi_C_belowB (a := b) (n := 4) (by omega)) ?_
    rintro _ _ (⟨b2, rfl, rfl⟩ | ⟨b2, rfl, rfl⟩)
    · refine pi_cf 1 (c := nI 1 = 0) (pc' := 19) (l' := [some (.ref 0), some (.int a), some (.int b), none, none, none, none]) (st' := []) (σ' := σ) (pc2 := 16) (l2 := [some (.ref 0), some (.int a), some (.int b), none, none, none, none]) (st2 := []) (σ2 := σ) (fun f => rfl) (by decide) ?_
      exact (hb ⟨b1, b2⟩).elim
    · refine pi_ct 1 (c := nI 0 = 0) (pc' := 16) (l' := [some (.ref 0), some (.int a), some (.int b), none, none, none, none]) (st' := []) (σ' := σ) (pc2 := 19) (l2 := [some (.ref 0), some (.int a), some (.int b), none, none, none, none]) (st2 := []) (σ2 := σ) (fun f => rfl) (by decide) ?_
      refine pi_rt 2 (v := some (.int (-2))) (σ' := σ) (fun f => rfl) ?_
      exact ⟨rfl, hR, pi_fr_rf⟩
  · refine pi_ct 1 (c := nI 0 = 0) (pc' := 16) (l' := [some (.ref 0), some (.int a), some (.int b), none, none, none, none]) (st' := []) (σ' := σ) (pc2 := 8) (l2 := [some (.ref 0), some (.int a), some (.int b), none, none, none, none]) (st2 := []) (σ2 := σ) (fun f => rfl) (by decide) ?_
    refine pi_rt 2 (v := some (.int (-2))) (σ' := σ) (fun f => rfl) ?_
    exact ⟨rfl, hR, pi_fr_rf⟩
set_option maxRecDepth 20000 in
theorem pi_X_read_bad {xs : Nat → Int32} {L d : Nat} {W : zW} {σ : pi_S} (hR : z_CR W σ) {a : Int32} (hb : ¬ (z_B 4 a))  : pi_wp xs L (d + 9) 67 0 [some (.ref 0), some (.int a), none] [] σ (fun v s => v = some (.int (-2)) ∧ z_CR W s ∧ pi_fr z_CJ s σ) := by
  have hk := hR.k.p.wk
  have hnd8 := hk.wd.nd8
  have hns12 := hk.wd.ns12
  have hn60 := hk.nine
  have hnf := hk.nf
  have hnw := hk.nw
  have hnc := hk.nc
  have hn08 := hk.wd.n0
  have hn140 := hk.wd.n1
  refine pi_ca 3 (m' := 94) (l' := [some (.int a), some (.int (nI 4))]) (σ' := σ) (pc2 := 5) (l2 := [some (.ref 0), some (.int a), none]) (t := []) (fun f => rfl) (pi_C_belowB (a := a) (n := 4) (by omega)) ?_
  rintro _ _ (⟨b1, rfl, rfl⟩ | ⟨b1, rfl, rfl⟩)
  · refine pi_cf 1 (c := nI 1 = 0) (pc' := 11) (l' := [some (.ref 0), some (.int a), none]) (st' := []) (σ' := σ) (pc2 := 8) (l2 := [some (.ref 0), some (.int a), none]) (st2 := []) (σ2 := σ) (fun f => rfl) (by decide) ?_
    exact (hb b1).elim
  · refine pi_ct 1 (c := nI 0 = 0) (pc' := 8) (l' := [some (.ref 0), some (.int a), none]) (st' := []) (σ' := σ) (pc2 := 11) (l2 := [some (.ref 0), some (.int a), none]) (st2 := []) (σ2 := σ) (fun f => rfl) (by decide) ?_
    refine pi_rt 2 (v := some (.int (-2))) (σ' := σ) (fun f => rfl) ?_
    exact ⟨rfl, hR, pi_fr_rf⟩
set_option maxRecDepth 20000 in
theorem pi_X_sheet_neg {xs : Nat → Int32} {L d : Nat} {W : zW} {σ : pi_S} (hR : z_CR W σ) {k f : Nat} {c : Int32} (hk4 : k < 4) (hf3 : f < 3) (h48 : c ≤ nI 48) (hc : c < 0)  : pi_wp xs L (d + 9) 86 0 [some (.ref 0), some (.int (nI k)), some (.int (nI f)), some (.int c)] [] σ (fun v s => v = some (.int ((-10) - (nI 5))) ∧ z_CR (W.sS 0 (nI 5)) s ∧ pi_fr z_CC s σ) := by
  have hk := hR.k.p.wk
  have hnd8 := hk.wd.nd8
  have hns12 := hk.wd.ns12
  have hn60 := hk.nine
  have hnf := hk.nf
  have hnw := hk.nw
  have hnc := hk.nc
  have hn08 := hk.wd.n0
  have hn140 := hk.wd.n1
  refine pi_ca 3 (m' := 94) (l' := [some (.int (nI k)), some (.int (nI 4))]) (σ' := σ) (pc2 := 5) (l2 := [some (.ref 0), some (.int (nI k)), some (.int (nI f)), some (.int c)]) (t := []) (fun f => rfl) (pi_below1 _ _ (z_BL (by omega) (by omega))) ?_
  rintro _ _ ⟨rfl, rfl⟩
  refine pi_cf 1 (c := nI 1 = 0) (pc' := 8) (l' := [some (.ref 0), some (.int (nI k)), some (.int (nI f)), some (.int c)]) (st' := []) (σ' := σ) (pc2 := 22) (l2 := [some (.ref 0), some (.int (nI k)), some (.int (nI f)), some (.int c)]) (st2 := []) (σ2 := σ) (fun f => rfl) (by decide) ?_
  refine pi_ca 3 (m' := 94) (l' := [some (.int (nI f)), some (.int (nI 3))]) (σ' := σ) (pc2 := 13) (l2 := [some (.ref 0), some (.int (nI k)), some (.int (nI f)), some (.int c)]) (t := []) (fun f => rfl) (pi_below1 _ _ (z_BL (by omega) (by omega))) ?_
  rintro _ _ ⟨rfl, rfl⟩
  refine pi_cf 1 (c := nI 1 = 0) (pc' := 16) (l' := [some (.ref 0), some (.int (nI k)), some (.int (nI f)), some (.int c)]) (st' := []) (σ' := σ) (pc2 := 22) (l2 := [some (.ref 0), some (.int (nI k)), some (.int (nI f)), some (.int c)]) (st2 := []) (σ2 := σ) (fun f => rfl) (by decide) ?_
  refine pi_ct 3 (c := c ≤ nI 48) (pc' := 25) (l' := [some (.ref 0), some (.int (nI k)), some (.int (nI f)), some (.int c)]) (st' := []) (σ' := σ) (pc2 := 22) (l2 := [some (.ref 0), some (.int (nI k)), some (.int (nI f)), some (.int c)]) (st2 := []) (σ2 := σ) (fun f => rfl) (h48) ?_
  refine pi_cf 2 (c := 0 ≤ c) (pc' := 29) (l' := [some (.ref 0), some (.int (nI k)), some (.int (nI f)), some (.int c)]) (st' := []) (σ' := σ) (pc2 := 35) (l2 := [some (.ref 0), some (.int (nI k)), some (.int (nI f)), some (.int c)]) (st2 := []) (σ2 := σ) (fun f => rfl) (fun q => Int32.not_lt.mpr q hc) ?_
  refine pi_ca 3 (m' := 96) (l' := [some (.ref 0), some (.int (nI 5))]) (σ' := σ) (pc2 := 34) (l2 := [some (.ref 0), some (.int (nI k)), some (.int (nI f)), some (.int c)]) (t := []) (fun f => rfl) (pi_C_found (nI 5)) ?_
  rintro _ t1 ⟨rfl, et1, kt1, rt1⟩
  refine pi_rt 1 (v := some (.int ((-10) - (nI 5)))) (σ' := t1) (fun f => rfl) ?_
  have hfr : pi_fr [0] t1 σ := pi_fr_tr rt1 (by decide) (pi_fr_rf)
  exact ⟨rfl, hR.fnd (et1) hfr, pi_fr_tr hfr (by decide) pi_fr_rf⟩
theorem z_upd_c {f g : Nat → Int32} {k j : Nat} {x : Int32} (h : f j = g j) : upd f k x j = upd g k x j := by
  unfold upd
  split
  · rfl
  · exact h
set_option maxRecDepth 20000 in
theorem pi_C_readH0 {xs : Nat → Int32} {L d : Nat} {W : zW} {σ : pi_S} (hc : z_CK W σ) {N : Nat} (hq1 : ¬ W.th 0 = 0) (hrs : z_rs W 0 N)  : pi_wp xs L (d + 2) 29 0 [some (.ref 12), some (.ref 48), none] [] σ (fun v s => v = some (.int (nI N)) ∧ (∀ j, j < 8 → s 14 j = z_rh W 0 N j) ∧ pi_fr [14] s σ) := by
  have hk := hc.p.wk
  have hnd8 := hk.wd.nd8
  have hns12 := hk.wd.ns12
  have hn60 := hk.nine
  have hnf := hk.nf
  have hnw := hk.nw
  have hnc := hk.nc
  have hn08 := hk.wd.n0
  have hn140 := hk.wd.n1
  have hsi := hk.si 0 (by omega)
  refine pi_go 2 (pc' := 2) (l' := [some (.ref 12), some (.ref 48), some (.int (nI 0))]) (st' := []) (σ' := σ) (fun f => rfl) ?_
  suffices hl1 : ∀ i, i ≤ N → ∀ (z1 : pi_S), pi_fr [14] z1 σ → (∀ j, j < 8 → z1 14 j = z_rh W 0 i j) → pi_wp xs L (d + 2) 29 2 [some (.ref 12), some (.ref 48), some (.int (nI i))] [] z1 (fun v s => v = some (.int (nI N)) ∧ (∀ j, j < 8 → s 14 j = z_rh W 0 N j) ∧ pi_fr [14] s σ) from hl1 0 (by omega) _ (pi_fr_rf) (hc.p.hd)
  refine pi_lp0 ?_ ?_
  · intro z1 hrz1 hx1
    have hi8 : N ≤ 8 ∧ N ≤ W.si 0 := ⟨hrs.1, hrs.2.1⟩
    refine pi_if 3 (c := nI 8 ≤ nI N) (pc' := 44) (l' := [some (.ref 12), some (.ref 48), some (.int (nI N))]) (st' := []) (σ' := z1) (pc2 := 8) (l2 := [some (.ref 12), some (.ref 48), some (.int (nI N))]) (st2 := []) (σ2 := z1) (fun f => rfl) (fun h1 => ?_) (fun h1 => ?_)
    · replace h1 : 8 ≤ N := (nI_leI (by omega) (by omega)).mp h1
      refine pi_rt 2 (v := some (.int (nI N))) (σ' := z1) (fun f => rfl) ?_
      exact ⟨rfl, hx1, pi_fr_tr hrz1 (by decide) (pi_fr_rf)⟩
    · replace h1 : ¬ (8 ≤ N) := fun zq => h1 ((nI_leI (by omega) (by omega)).mpr zq)
      refine pi_go 3 (pc' := 13) (l' := [some (.ref 12), some (.ref 48), some (.int (nI N))]) (st' := [.int (z1 48 2), .int (nI N)]) (σ' := z1) (fun f => rfl) ?_
      refine pi_tp (y := nI (W.si 0)) ((congrFun (hrz1 48 (by decide)) 2).trans (hc.p.ss0.trans (z_sz_f hq1))) ?_
      refine pi_if 1 (c := nI (W.si 0) ≤ nI N) (pc' := 44) (l' := [some (.ref 12), some (.ref 48), some (.int (nI N))]) (st' := []) (σ' := z1) (pc2 := 16) (l2 := [some (.ref 12), some (.ref 48), some (.int (nI N))]) (st2 := []) (σ2 := z1) (fun f => rfl) (fun h2 => ?_) (fun h2 => ?_)
      · replace h2 : (W.si 0) ≤ N := (nI_leI (by omega) (by omega)).mp h2
        refine pi_rt 2 (v := some (.int (nI N))) (σ' := z1) (fun f => rfl) ?_
        exact ⟨rfl, hx1, pi_fr_tr hrz1 (by decide) (pi_fr_rf)⟩
      · replace h2 : ¬ ((W.si 0) ≤ N) := fun zq => h2 ((nI_leI (by omega) (by omega)).mpr zq)
        refine pi_ca 3 (m' := 40) (l' := [some (.ref 48), some (.int (nI N))]) (σ' := z1) (pc2 := 21) (l2 := [some (.ref 12), some (.ref 48), some (.int (nI N))]) (t := []) (fun f => rfl) (pi_C_itemAt0 (W := W) (i := N) ((congrFun (hrz1 48 (by decide)) 2).trans (hc.p.ss0.trans (z_sz_f hq1))) (hk.si 0 (by omega)).1 ((congrFun (hrz1 49 (by decide)) N).trans ((hc.p.si0 N (by omega)))) (by omega)) ?_
        rintro _ _ ⟨rfl, rfl⟩
        refine pi_ca 1 (m' := 28) (l' := [some (.int (W.it (48 * 0 + N)))]) (σ' := z1) (pc2 := 24) (l2 := [some (.ref 12), some (.ref 48), some (.int (nI N))]) (t := []) (fun f => rfl) (pi_C_isHold (W.it (48 * 0 + N))) ?_
        rintro _ _ (⟨b3, rfl, rfl⟩ | ⟨b3, rfl, rfl⟩)
        · refine pi_cf 1 (c := nI 1 = 0) (pc' := 27) (l' := [some (.ref 12), some (.ref 48), some (.int (nI N))]) (st' := []) (σ' := z1) (pc2 := 44) (l2 := [some (.ref 12), some (.ref 48), some (.int (nI N))]) (st2 := []) (σ2 := z1) (fun f => rfl) (by decide) ?_
          exact absurd hrs.2.2.2 (fun q => q.elim (fun q => absurd q (by omega)) (fun q => q.elim (fun q => absurd q (by omega)) (fun q => q b3)))
        · refine pi_ct 1 (c := nI 0 = 0) (pc' := 44) (l' := [some (.ref 12), some (.ref 48), some (.int (nI N))]) (st' := []) (σ' := z1) (pc2 := 27) (l2 := [some (.ref 12), some (.ref 48), some (.int (nI N))]) (st2 := []) (σ2 := z1) (fun f => rfl) (by decide) ?_
          refine pi_rt 2 (v := some (.int (nI N))) (σ' := z1) (fun f => rfl) ?_
          exact ⟨rfl, hx1, pi_fr_tr hrz1 (by decide) (pi_fr_rf)⟩
  · intro i hi1 ih1 z1 hrz1 hx1
    have hj : z_B 100 (W.it (48 * 0 + i)) := hrs.2.2.1 i hi1
    have hi8 : i < 8 ∧ i < W.si 0 := ⟨by have := hrs.1; omega, by have := hrs.2.1; omega⟩
    refine pi_cf 3 (c := nI 8 ≤ nI i) (pc' := 8) (l' := [some (.ref 12), some (.ref 48), some (.int (nI i))]) (st' := []) (σ' := z1) (pc2 := 44) (l2 := [some (.ref 12), some (.ref 48), some (.int (nI i))]) (st2 := []) (σ2 := z1) (fun f => rfl) (fun zq => absurd ((show nI 8 ≤ nI i ↔ _ from nI_leI (by omega) (by omega)).mp zq) (by omega)) ?_
    refine pi_go 3 (pc' := 13) (l' := [some (.ref 12), some (.ref 48), some (.int (nI i))]) (st' := [.int (z1 48 2), .int (nI i)]) (σ' := z1) (fun f => rfl) ?_
    refine pi_tp (y := nI (W.si 0)) ((congrFun (hrz1 48 (by decide)) 2).trans (hc.p.ss0.trans (z_sz_f hq1))) ?_
    refine pi_cf 1 (c := nI (W.si 0) ≤ nI i) (pc' := 16) (l' := [some (.ref 12), some (.ref 48), some (.int (nI i))]) (st' := []) (σ' := z1) (pc2 := 44) (l2 := [some (.ref 12), some (.ref 48), some (.int (nI i))]) (st2 := []) (σ2 := z1) (fun f => rfl) (fun zq => absurd ((show nI (W.si 0) ≤ nI i ↔ _ from nI_leI (by omega) (by omega)).mp zq) (by omega)) ?_
    refine pi_ca 3 (m' := 40) (l' := [some (.ref 48), some (.int (nI i))]) (σ' := z1) (pc2 := 21) (l2 := [some (.ref 12), some (.ref 48), some (.int (nI i))]) (t := []) (fun f => rfl) (pi_C_itemAt0 (W := W) (i := i) ((congrFun (hrz1 48 (by decide)) 2).trans (hc.p.ss0.trans (z_sz_f hq1))) (hk.si 0 (by omega)).1 ((congrFun (hrz1 49 (by decide)) i).trans ((hc.p.si0 i (by omega)))) (by omega)) ?_
    rintro _ _ ⟨rfl, rfl⟩
    refine pi_ca 1 (m' := 28) (l' := [some (.int (W.it (48 * 0 + i)))]) (σ' := z1) (pc2 := 24) (l2 := [some (.ref 12), some (.ref 48), some (.int (nI i))]) (t := []) (fun f => rfl) (pi_C_isHoldT hj) ?_
    rintro _ _ ⟨rfl, rfl⟩
    refine pi_cf 1 (c := nI 1 = 0) (pc' := 27) (l' := [some (.ref 12), some (.ref 48), some (.int (nI i))]) (st' := []) (σ' := z1) (pc2 := 44) (l2 := [some (.ref 12), some (.ref 48), some (.int (nI i))]) (st2 := []) (σ2 := z1) (fun f => rfl) (by decide) ?_
    refine pi_ca 6 (m' := 40) (l' := [some (.ref 48), some (.int (nI i))]) (σ' := z1) (pc2 := 37) (l2 := [some (.ref 12), some (.ref 48), some (.int (nI i))]) (t := [.int (nI i), .ref 14]) (fun f => rfl) (pi_C_itemAt0 (W := W) (i := i) ((congrFun (hrz1 48 (by decide)) 2).trans (hc.p.ss0.trans (z_sz_f hq1))) (hk.si 0 (by omega)).1 ((congrFun (hrz1 49 (by decide)) i).trans ((hc.p.si0 i (by omega)))) (by omega)) ?_
    rintro _ _ ⟨rfl, rfl⟩
    refine pi_au 1 (u := i) (n := 8) (a := 14) (x := W.it (48 * 0 + i)) (pc' := 38) (l' := [some (.ref 12), some (.ref 48), some (.int (nI i))]) (t := []) (σ' := z1) (fun f => rfl) (by omega) (by omega) ?_
    generalize es2 : pi_up z1 14 i (W.it (48 * 0 + i)) = s2
    refine pi_go 1 (pc' := 41) (l' := [some (.ref 12), some (.ref 48), some (.int (nI i + nI 1))]) (st' := []) (σ' := s2) (fun f => rfl) ?_
    rw [show nI i + nI 1 = nI (i + 1) from nI_add _ 1]
    refine pi_go 1 (pc' := 2) (l' := [some (.ref 12), some (.ref 48), some (.int (nI (i + 1)))]) (st' := []) (σ' := s2) (fun f => rfl) ?_
    exact ih1 _ (pi_fr_of es2 (by decide) (pi_fr_tr hrz1 (by decide) (pi_fr_rf))) ((fun j hj8 => (congrFun ((congrFun es2 14).symm.trans ((pi_up_self _ _ _ _))) j).trans (z_upd_c (hx1 j hj8))))
set_option maxRecDepth 20000 in
theorem pi_X_read0_null {xs : Nat → Int32} {L d : Nat} {W : zW} {σ : pi_S} (hR : z_CR W σ) (hq0 : W.th 0 = 0)  : pi_wp xs L (d + 9) 67 0 [some (.ref 0), some (.int (nI 0)), none] [] σ (fun v s => v = some (.int ((-10) - (nI 1))) ∧ z_CR (W.sS 0 (nI 1)) s ∧ pi_fr z_CC s σ) := by
  have hk := hR.k.p.wk
  have hnd8 := hk.wd.nd8
  have hns12 := hk.wd.ns12
  have hn60 := hk.nine
  have hnf := hk.nf
  have hnw := hk.nw
  have hnc := hk.nc
  have hn08 := hk.wd.n0
  have hn140 := hk.wd.n1
  refine pi_ca 3 (m' := 94) (l' := [some (.int (nI 0)), some (.int (nI 4))]) (σ' := σ) (pc2 := 5) (l2 := [some (.ref 0), some (.int (nI 0)), none]) (t := []) (fun f => rfl) (pi_below1 _ _ (z_BL (by omega) (by omega))) ?_
  rintro _ _ ⟨rfl, rfl⟩
  refine pi_cf 1 (c := nI 1 = 0) (pc' := 11) (l' := [some (.ref 0), some (.int (nI 0)), none]) (st' := []) (σ' := σ) (pc2 := 8) (l2 := [some (.ref 0), some (.int (nI 0)), none]) (st2 := []) (σ2 := σ) (fun f => rfl) (by decide) ?_
  refine pi_aq 4 (u := 0) (n := 4) (a := 47) (c := 48) (pc' := 17) (l' := [some (.ref 0), some (.int (nI 0)), none]) (t := []) (σ' := σ) (fun f => rfl) (by omega) (by omega) rfl ?_
  refine pi_ca 3 (m' := 36) (l' := [some (.ref 48)]) (σ' := σ) (pc2 := 22) (l2 := [some (.ref 0), some (.int (nI 0)), some (.ref 48)]) (t := []) (fun f => rfl) (pi_C_lost0_t hR.k hq0) ?_
  rintro _ _ ⟨rfl, rfl⟩
  refine pi_cf 1 (c := nI 1 = 0) (pc' := 25) (l' := [some (.ref 0), some (.int (nI 0)), some (.ref 48)]) (st' := []) (σ' := σ) (pc2 := 31) (l2 := [some (.ref 0), some (.int (nI 0)), some (.ref 48)]) (st2 := []) (σ2 := σ) (fun f => rfl) (by decide) ?_
  refine pi_ca 3 (m' := 96) (l' := [some (.ref 0), some (.int (nI 1))]) (σ' := σ) (pc2 := 30) (l2 := [some (.ref 0), some (.int (nI 0)), some (.ref 48)]) (t := []) (fun f => rfl) (pi_C_found (nI 1)) ?_
  rintro _ t1 ⟨rfl, et1, kt1, rt1⟩
  refine pi_rt 1 (v := some (.int ((-10) - (nI 1)))) (σ' := t1) (fun f => rfl) ?_
  have hfr : pi_fr [0] t1 σ := pi_fr_tr rt1 (by decide) (pi_fr_rf)
  exact ⟨rfl, hR.fnd (et1) hfr, pi_fr_tr hfr (by decide) pi_fr_rf⟩
set_option maxRecDepth 20000 in
theorem pi_X_read0 {xs : Nat → Int32} {L d : Nat} {W : zW} {σ : pi_S} (hR : z_CR W σ) {N : Nat} (hq1 : ¬ W.th 0 = 0) (hrs : z_rs W 0 N)  : pi_wp xs L (d + 9) 67 0 [some (.ref 0), some (.int (nI 0)), none] [] σ (fun v s => v = some (.int (nI N)) ∧ z_CR (W.sI 2 (z_rh W 0 N)) s ∧ pi_fr z_CC s σ) := by
  have hk := hR.k.p.wk
  have hnd8 := hk.wd.nd8
  have hns12 := hk.wd.ns12
  have hn60 := hk.nine
  have hnf := hk.nf
  have hnw := hk.nw
  have hnc := hk.nc
  have hn08 := hk.wd.n0
  have hn140 := hk.wd.n1
  refine pi_ca 3 (m' := 94) (l' := [some (.int (nI 0)), some (.int (nI 4))]) (σ' := σ) (pc2 := 5) (l2 := [some (.ref 0), some (.int (nI 0)), none]) (t := []) (fun f => rfl) (pi_below1 _ _ (z_BL (by omega) (by omega))) ?_
  rintro _ _ ⟨rfl, rfl⟩
  refine pi_cf 1 (c := nI 1 = 0) (pc' := 11) (l' := [some (.ref 0), some (.int (nI 0)), none]) (st' := []) (σ' := σ) (pc2 := 8) (l2 := [some (.ref 0), some (.int (nI 0)), none]) (st2 := []) (σ2 := σ) (fun f => rfl) (by decide) ?_
  refine pi_aq 4 (u := 0) (n := 4) (a := 47) (c := 48) (pc' := 17) (l' := [some (.ref 0), some (.int (nI 0)), none]) (t := []) (σ' := σ) (fun f => rfl) (by omega) (by omega) rfl ?_
  refine pi_ca 3 (m' := 36) (l' := [some (.ref 48)]) (σ' := σ) (pc2 := 22) (l2 := [some (.ref 0), some (.int (nI 0)), some (.ref 48)]) (t := []) (fun f => rfl) (pi_C_lost0_f hR.k hq1) ?_
  rintro _ _ ⟨rfl, rfl⟩
  refine pi_ct 1 (c := nI 0 = 0) (pc' := 31) (l' := [some (.ref 0), some (.int (nI 0)), some (.ref 48)]) (st' := []) (σ' := σ) (pc2 := 25) (l2 := [some (.ref 0), some (.int (nI 0)), some (.ref 48)]) (st2 := []) (σ2 := σ) (fun f => rfl) (by decide) ?_
  refine pi_ca 5 (m' := 29) (l' := [some (.ref 12), some (.ref 48), none]) (σ' := σ) (pc2 := 40) (l2 := [some (.ref 0), some (.int (nI 0)), some (.ref 48)]) (t := [.ref 0]) (fun f => rfl) (pi_C_readH0 hR.k hq1 hrs) ?_
  rintro _ t1 ⟨rfl, et1, rt1⟩
  have hcp : z_CP (W.sI 2 (z_rh W 0 N)) t1 := hR.k.p.re (z_rh_b hk hrs) et1 (pi_fr_tr rt1 (by decide) (pi_fr_rf))
  have hct : z_CT (W.sI 2 (z_rh W 0 N)) t1 := (hR.k.t.of2 (pi_fr_tr rt1 (by decide) (pi_fr_rf)) : z_CT W t1)
  have hck := z_CK.mk hcp hct
  refine pi_ca 1 (m' := 97) (l' := [some (.ref 0), some (.int (nI N))]) (σ' := t1) (pc2 := 43) (l2 := [some (.ref 0), some (.int (nI 0)), some (.ref 48)]) (t := []) (fun f => rfl) (pi_C_settled hck (hR.tl.of (pi_fr_tr rt1 (by decide) (pi_fr_rf))) (nI N)) ?_
  rintro _ t2 ⟨rfl, gt2, rt2⟩
  refine pi_rt 1 (v := some (.int (nI N))) (σ' := t2) (fun f => rfl) ?_
  exact ⟨rfl, gt2, pi_fr_tr rt2 (by decide) (pi_fr_tr rt1 (by decide) (pi_fr_rf))⟩
set_option maxRecDepth 20000 in
theorem pi_X_sheet0 {xs : Nat → Int32} {L d : Nat} {W : zW} {σ : pi_S} (hR : z_CR W σ) {f n : Nat} (hf3 : f < 3) (hn : n ≤ 48)  : pi_wp xs L (d + 9) 86 0 [some (.ref 0), some (.int (nI 0)), some (.int (nI f)), some (.int (nI n))] [] σ (fun v s => v = some (.int (nI n)) ∧ z_CR ((((W.sF 8 (z_u W.th 0 1)).sF 4 (z_u W.fo 0 f)).sF 5 (z_u W.si 0 n)).sI 9 (z_c48 0 48 W.it)) s ∧ pi_fr z_CC s σ) := by
  have hk := hR.k.p.wk
  have hnd8 := hk.wd.nd8
  have hns12 := hk.wd.ns12
  have hn60 := hk.nine
  have hnf := hk.nf
  have hnw := hk.nw
  have hnc := hk.nc
  have hn08 := hk.wd.n0
  have hn140 := hk.wd.n1
  refine pi_ca 3 (m' := 94) (l' := [some (.int (nI 0)), some (.int (nI 4))]) (σ' := σ) (pc2 := 5) (l2 := [some (.ref 0), some (.int (nI 0)), some (.int (nI f)), some (.int (nI n))]) (t := []) (fun f => rfl) (pi_below1 _ _ (z_BL (by omega) (by omega))) ?_
  rintro _ _ ⟨rfl, rfl⟩
  refine pi_cf 1 (c := nI 1 = 0) (pc' := 8) (l' := [some (.ref 0), some (.int (nI 0)), some (.int (nI f)), some (.int (nI n))]) (st' := []) (σ' := σ) (pc2 := 22) (l2 := [some (.ref 0), some (.int (nI 0)), some (.int (nI f)), some (.int (nI n))]) (st2 := []) (σ2 := σ) (fun f => rfl) (by decide) ?_
  refine pi_ca 3 (m' := 94) (l' := [some (.int (nI f)), some (.int (nI 3))]) (σ' := σ) (pc2 := 13) (l2 := [some (.ref 0), some (.int (nI 0)), some (.int (nI f)), some (.int (nI n))]) (t := []) (fun f => rfl) (pi_below1 _ _ (z_BL (by omega) (by omega))) ?_
  rintro _ _ ⟨rfl, rfl⟩
  refine pi_cf 1 (c := nI 1 = 0) (pc' := 16) (l' := [some (.ref 0), some (.int (nI 0)), some (.int (nI f)), some (.int (nI n))]) (st' := []) (σ' := σ) (pc2 := 22) (l2 := [some (.ref 0), some (.int (nI 0)), some (.int (nI f)), some (.int (nI n))]) (st2 := []) (σ2 := σ) (fun f => rfl) (by decide) ?_
  refine pi_ct 3 (c := nI n ≤ nI 48) (pc' := 25) (l' := [some (.ref 0), some (.int (nI 0)), some (.int (nI f)), some (.int (nI n))]) (st' := []) (σ' := σ) (pc2 := 22) (l2 := [some (.ref 0), some (.int (nI 0)), some (.int (nI f)), some (.int (nI n))]) (st2 := []) (σ2 := σ) (fun f => rfl) ((nI_leI (by omega) (by omega)).mpr hn) ?_
  refine pi_ct 2 (c := 0 ≤ nI n) (pc' := 35) (l' := [some (.ref 0), some (.int (nI 0)), some (.int (nI f)), some (.int (nI n))]) (st' := []) (σ' := σ) (pc2 := 29) (l2 := [some (.ref 0), some (.int (nI 0)), some (.int (nI f)), some (.int (nI n))]) (st2 := []) (σ2 := σ) (fun f => rfl) (Int32.not_lt.mp (z_ltz (by omega))) ?_
  refine pi_aq 4 (u := 0) (n := 4) (a := 47) (c := 48) (pc' := 41) (l' := [some (.ref 0), some (.int (nI 0)), some (.int (nI f)), some (.int (nI n))]) (t := []) (σ' := σ) (fun f => rfl) (by omega) (by omega) rfl ?_
  refine pi_ca 3 (m' := 37) (l' := [some (.ref 48), some (.int (nI f)), some (.int (nI n)), none]) (σ' := σ) (pc2 := 46) (l2 := [some (.ref 0), some (.int (nI 0)), some (.int (nI f)), some (.int (nI n))]) (t := []) (fun f => rfl) (pi_C_renew0 hR.k hf3 hn) ?_
  rintro _ t1 ⟨rfl, et1_1, et1_2, et1_3, rt1⟩
  refine pi_rt 2 (v := some (.int (nI n))) (σ' := t1) (fun f => rfl) ?_
  have hfr : pi_fr [48, 49] t1 σ := pi_fr_tr rt1 (by decide) (pi_fr_rf)
  exact ⟨rfl, hR.sheet0 hf3 hn et1_1 et1_2 et1_3 hfr, pi_fr_tr hfr (by decide) pi_fr_rf⟩
set_option maxRecDepth 20000 in
theorem pi_X_lose0_null {xs : Nat → Int32} {L d : Nat} {W : zW} {σ : pi_S} (hR : z_CR W σ) (hq0 : W.th 0 = 0)  : pi_wp xs L (d + 9) 87 0 [some (.ref 0), some (.int (nI 0)), none, none] [] σ (fun v s => v = some (.int ((-10) - (nI 1))) ∧ z_CR (W.sS 0 (nI 1)) s ∧ pi_fr z_CC s σ) := by
  have hk := hR.k.p.wk
  have hnd8 := hk.wd.nd8
  have hns12 := hk.wd.ns12
  have hn60 := hk.nine
  have hnf := hk.nf
  have hnw := hk.nw
  have hnc := hk.nc
  have hn08 := hk.wd.n0
  have hn140 := hk.wd.n1
  refine pi_ca 3 (m' := 94) (l' := [some (.int (nI 0)), some (.int (nI 4))]) (σ' := σ) (pc2 := 5) (l2 := [some (.ref 0), some (.int (nI 0)), none, none]) (t := []) (fun f => rfl) (pi_below1 _ _ (z_BL (by omega) (by omega))) ?_
  rintro _ _ ⟨rfl, rfl⟩
  refine pi_cf 1 (c := nI 1 = 0) (pc' := 11) (l' := [some (.ref 0), some (.int (nI 0)), none, none]) (st' := []) (σ' := σ) (pc2 := 8) (l2 := [some (.ref 0), some (.int (nI 0)), none, none]) (st2 := []) (σ2 := σ) (fun f => rfl) (by decide) ?_
  refine pi_aq 4 (u := 0) (n := 4) (a := 47) (c := 48) (pc' := 17) (l' := [some (.ref 0), some (.int (nI 0)), none, none]) (t := []) (σ' := σ) (fun f => rfl) (by omega) (by omega) rfl ?_
  refine pi_ca 3 (m' := 36) (l' := [some (.ref 48)]) (σ' := σ) (pc2 := 22) (l2 := [some (.ref 0), some (.int (nI 0)), some (.ref 48), none]) (t := []) (fun f => rfl) (pi_C_lost0_t hR.k hq0) ?_
  rintro _ _ ⟨rfl, rfl⟩
  refine pi_cf 1 (c := nI 1 = 0) (pc' := 25) (l' := [some (.ref 0), some (.int (nI 0)), some (.ref 48), none]) (st' := []) (σ' := σ) (pc2 := 31) (l2 := [some (.ref 0), some (.int (nI 0)), some (.ref 48), none]) (st2 := []) (σ2 := σ) (fun f => rfl) (by decide) ?_
  refine pi_ca 3 (m' := 96) (l' := [some (.ref 0), some (.int (nI 1))]) (σ' := σ) (pc2 := 30) (l2 := [some (.ref 0), some (.int (nI 0)), some (.ref 48), none]) (t := []) (fun f => rfl) (pi_C_found (nI 1)) ?_
  rintro _ t1 ⟨rfl, et1, kt1, rt1⟩
  refine pi_rt 1 (v := some (.int ((-10) - (nI 1)))) (σ' := t1) (fun f => rfl) ?_
  have hfr : pi_fr [0] t1 σ := pi_fr_tr rt1 (by decide) (pi_fr_rf)
  exact ⟨rfl, hR.fnd (et1) hfr, pi_fr_tr hfr (by decide) pi_fr_rf⟩
set_option maxRecDepth 20000 in
theorem pi_X_lose0 {xs : Nat → Int32} {L d : Nat} {W : zW} {σ : pi_S} (hR : z_CR W σ) (hq1 : ¬ W.th 0 = 0)  : pi_wp xs L (d + 9) 87 0 [some (.ref 0), some (.int (nI 0)), none, none] [] σ (fun v s => v = some (.int (nI (W.si 0))) ∧ z_CR (W.sF 8 (z_u W.th 0 0)) s ∧ pi_fr z_CC s σ) := by
  have hk := hR.k.p.wk
  have hnd8 := hk.wd.nd8
  have hns12 := hk.wd.ns12
  have hn60 := hk.nine
  have hnf := hk.nf
  have hnw := hk.nw
  have hnc := hk.nc
  have hn08 := hk.wd.n0
  have hn140 := hk.wd.n1
  refine pi_ca 3 (m' := 94) (l' := [some (.int (nI 0)), some (.int (nI 4))]) (σ' := σ) (pc2 := 5) (l2 := [some (.ref 0), some (.int (nI 0)), none, none]) (t := []) (fun f => rfl) (pi_below1 _ _ (z_BL (by omega) (by omega))) ?_
  rintro _ _ ⟨rfl, rfl⟩
  refine pi_cf 1 (c := nI 1 = 0) (pc' := 11) (l' := [some (.ref 0), some (.int (nI 0)), none, none]) (st' := []) (σ' := σ) (pc2 := 8) (l2 := [some (.ref 0), some (.int (nI 0)), none, none]) (st2 := []) (σ2 := σ) (fun f => rfl) (by decide) ?_
  refine pi_aq 4 (u := 0) (n := 4) (a := 47) (c := 48) (pc' := 17) (l' := [some (.ref 0), some (.int (nI 0)), none, none]) (t := []) (σ' := σ) (fun f => rfl) (by omega) (by omega) rfl ?_
  refine pi_ca 3 (m' := 36) (l' := [some (.ref 48)]) (σ' := σ) (pc2 := 22) (l2 := [some (.ref 0), some (.int (nI 0)), some (.ref 48), none]) (t := []) (fun f => rfl) (pi_C_lost0_f hR.k hq1) ?_
  rintro _ _ ⟨rfl, rfl⟩
  refine pi_ct 1 (c := nI 0 = 0) (pc' := 31) (l' := [some (.ref 0), some (.int (nI 0)), some (.ref 48), none]) (st' := []) (σ' := σ) (pc2 := 25) (l2 := [some (.ref 0), some (.int (nI 0)), some (.ref 48), none]) (st2 := []) (σ2 := σ) (fun f => rfl) (by decide) ?_
  refine pi_go 2 (pc' := 35) (l' := [some (.ref 0), some (.int (nI 0)), some (.ref 48), none]) (st' := [.int (σ 48 2)]) (σ' := σ) (fun f => rfl) ?_
  refine pi_tp (y := nI (W.si 0)) (hR.k.p.ss0.trans (z_sz_f hq1)) ?_
  refine pi_go 4 (pc' := 41) (l' := [some (.ref 0), some (.int (nI 0)), some (.ref 48), some (.int (nI (W.si 0)))]) (st' := []) (σ' := (pi_up σ 48 2 (-1))) (fun f => rfl) ?_
  generalize es1 : pi_up σ 48 2 (-1) = s1
  refine pi_rt 2 (v := some (.int (nI (W.si 0)))) (σ' := s1) (fun f => rfl) ?_
  have hfr : pi_fr [48] s1 σ := pi_fr_of es1 (by decide) (pi_fr_rf)
  exact ⟨rfl, hR.lose0 ((congrFun (congrFun es1 48) 1).symm.trans ((pi_up_sn _ _ _ (by decide)).trans (rfl))) ((congrFun (congrFun es1 48) 2).symm.trans (pi_up_ss _ _ _ _)) hfr, pi_fr_tr hfr (by decide) pi_fr_rf⟩
set_option maxRecDepth 20000 in
theorem pi_X_put0_1 {xs : Nat → Int32} {L d : Nat} {W : zW} {σ : pi_S} (hR : z_CR W σ) {f : Nat} {i x : Int32} (hf3 : f < 3) (hq0 : W.th 0 = 0)  : pi_wp xs L (d + 9) 88 0 [some (.ref 0), some (.int (nI 0)), some (.int (nI f)), some (.int i), some (.int x), none] [] σ (fun v s => v = some (.int ((-10) - (nI 1))) ∧ z_CR (W.sS 0 (nI 1)) s ∧ pi_fr z_CC s σ) := by
  have hk := hR.k.p.wk
  have hnd8 := hk.wd.nd8
  have hns12 := hk.wd.ns12
  have hn60 := hk.nine
  have hnf := hk.nf
  have hnw := hk.nw
  have hnc := hk.nc
  have hn08 := hk.wd.n0
  have hn140 := hk.wd.n1
  refine pi_ca 3 (m' := 94) (l' := [some (.int (nI 0)), some (.int (nI 4))]) (σ' := σ) (pc2 := 5) (l2 := [some (.ref 0), some (.int (nI 0)), some (.int (nI f)), some (.int i), some (.int x), none]) (t := []) (fun f => rfl) (pi_below1 _ _ (z_BL (by omega) (by omega))) ?_
  rintro _ _ ⟨rfl, rfl⟩
  refine pi_cf 1 (c := nI 1 = 0) (pc' := 8) (l' := [some (.ref 0), some (.int (nI 0)), some (.int (nI f)), some (.int i), some (.int x), none]) (st' := []) (σ' := σ) (pc2 := 16) (l2 := [some (.ref 0), some (.int (nI 0)), some (.int (nI f)), some (.int i), some (.int x), none]) (st2 := []) (σ2 := σ) (fun f => rfl) (by decide) ?_
  refine pi_ca 3 (m' := 94) (l' := [some (.int (nI f)), some (.int (nI 3))]) (σ' := σ) (pc2 := 13) (l2 := [some (.ref 0), some (.int (nI 0)), some (.int (nI f)), some (.int i), some (.int x), none]) (t := []) (fun f => rfl) (pi_below1 _ _ (z_BL (by omega) (by omega))) ?_
  rintro _ _ ⟨rfl, rfl⟩
  refine pi_cf 1 (c := nI 1 = 0) (pc' := 19) (l' := [some (.ref 0), some (.int (nI 0)), some (.int (nI f)), some (.int i), some (.int x), none]) (st' := []) (σ' := σ) (pc2 := 16) (l2 := [some (.ref 0), some (.int (nI 0)), some (.int (nI f)), some (.int i), some (.int x), none]) (st2 := []) (σ2 := σ) (fun f => rfl) (by decide) ?_
  refine pi_aq 4 (u := 0) (n := 4) (a := 47) (c := 48) (pc' := 25) (l' := [some (.ref 0), some (.int (nI 0)), some (.int (nI f)), some (.int i), some (.int x), none]) (t := []) (σ' := σ) (fun f => rfl) (by omega) (by omega) rfl ?_
  refine pi_ca 3 (m' := 38) (l' := [some (.ref 48), some (.int (nI f)), some (.int i)]) (σ' := σ) (pc2 := 30) (l2 := [some (.ref 0), some (.int (nI 0)), some (.int (nI f)), some (.int i), some (.int x), none]) (t := []) (fun f => rfl) (pi_C_why0_1 hR.k hf3 hq0) ?_
  rintro _ _ ⟨rfl, rfl⟩
  refine pi_cf 3 (c := nI 1 = 0) (pc' := 37) (l' := [some (.ref 0), some (.int (nI 0)), some (.int (nI f)), some (.int i), some (.int x), some (.int (nI 1))]) (st' := []) (σ' := σ) (pc2 := 44) (l2 := [some (.ref 0), some (.int (nI 0)), some (.int (nI f)), some (.int i), some (.int x), some (.int (nI 1))]) (st2 := []) (σ2 := σ) (fun f => rfl) (by decide) ?_
  refine pi_ca 3 (m' := 96) (l' := [some (.ref 0), some (.int (nI 1))]) (σ' := σ) (pc2 := 43) (l2 := [some (.ref 0), some (.int (nI 0)), some (.int (nI f)), some (.int i), some (.int x), some (.int (nI 1))]) (t := []) (fun f => rfl) (pi_C_found (nI 1)) ?_
  rintro _ t1 ⟨rfl, et1, kt1, rt1⟩
  refine pi_rt 1 (v := some (.int ((-10) - (nI 1)))) (σ' := t1) (fun f => rfl) ?_
  have hfr : pi_fr [0] t1 σ := pi_fr_tr rt1 (by decide) (pi_fr_rf)
  exact ⟨rfl, hR.fnd (et1) hfr, pi_fr_tr hfr (by decide) pi_fr_rf⟩
set_option maxRecDepth 20000 in
theorem pi_X_get0_1 {xs : Nat → Int32} {L d : Nat} {W : zW} {σ : pi_S} (hR : z_CR W σ) {f : Nat} {i : Int32} (hf3 : f < 3) (hq0 : W.th 0 = 0)  : pi_wp xs L (d + 9) 89 0 [some (.ref 0), some (.int (nI 0)), some (.int (nI f)), some (.int i), none] [] σ (fun v s => v = some (.int (Int32.ofNat 2147483648)) ∧ z_CR (W.sS 0 (nI 1)) s ∧ pi_fr z_CC s σ) := by
  have hk := hR.k.p.wk
  have hnd8 := hk.wd.nd8
  have hns12 := hk.wd.ns12
  have hn60 := hk.nine
  have hnf := hk.nf
  have hnw := hk.nw
  have hnc := hk.nc
  have hn08 := hk.wd.n0
  have hn140 := hk.wd.n1
  refine pi_ca 3 (m' := 94) (l' := [some (.int (nI 0)), some (.int (nI 4))]) (σ' := σ) (pc2 := 5) (l2 := [some (.ref 0), some (.int (nI 0)), some (.int (nI f)), some (.int i), none]) (t := []) (fun f => rfl) (pi_below1 _ _ (z_BL (by omega) (by omega))) ?_
  rintro _ _ ⟨rfl, rfl⟩
  refine pi_cf 1 (c := nI 1 = 0) (pc' := 8) (l' := [some (.ref 0), some (.int (nI 0)), some (.int (nI f)), some (.int i), none]) (st' := []) (σ' := σ) (pc2 := 16) (l2 := [some (.ref 0), some (.int (nI 0)), some (.int (nI f)), some (.int i), none]) (st2 := []) (σ2 := σ) (fun f => rfl) (by decide) ?_
  refine pi_ca 3 (m' := 94) (l' := [some (.int (nI f)), some (.int (nI 3))]) (σ' := σ) (pc2 := 13) (l2 := [some (.ref 0), some (.int (nI 0)), some (.int (nI f)), some (.int i), none]) (t := []) (fun f => rfl) (pi_below1 _ _ (z_BL (by omega) (by omega))) ?_
  rintro _ _ ⟨rfl, rfl⟩
  refine pi_cf 1 (c := nI 1 = 0) (pc' := 20) (l' := [some (.ref 0), some (.int (nI 0)), some (.int (nI f)), some (.int i), none]) (st' := []) (σ' := σ) (pc2 := 16) (l2 := [some (.ref 0), some (.int (nI 0)), some (.int (nI f)), some (.int i), none]) (st2 := []) (σ2 := σ) (fun f => rfl) (by decide) ?_
  refine pi_aq 4 (u := 0) (n := 4) (a := 47) (c := 48) (pc' := 26) (l' := [some (.ref 0), some (.int (nI 0)), some (.int (nI f)), some (.int i), none]) (t := []) (σ' := σ) (fun f => rfl) (by omega) (by omega) rfl ?_
  refine pi_ca 3 (m' := 38) (l' := [some (.ref 48), some (.int (nI f)), some (.int i)]) (σ' := σ) (pc2 := 31) (l2 := [some (.ref 0), some (.int (nI 0)), some (.int (nI f)), some (.int i), none]) (t := []) (fun f => rfl) (pi_C_why0_1 hR.k hf3 hq0) ?_
  rintro _ _ ⟨rfl, rfl⟩
  refine pi_cf 3 (c := nI 1 = 0) (pc' := 38) (l' := [some (.ref 0), some (.int (nI 0)), some (.int (nI f)), some (.int i), some (.int (nI 1))]) (st' := []) (σ' := σ) (pc2 := 48) (l2 := [some (.ref 0), some (.int (nI 0)), some (.int (nI f)), some (.int i), some (.int (nI 1))]) (st2 := []) (σ2 := σ) (fun f => rfl) (by decide) ?_
  refine pi_go 3 (pc' := 44) (l' := [some (.ref 0), some (.int (nI 0)), some (.int (nI f)), some (.int i), some (.int (nI 1))]) (st' := []) (σ' := (pi_up σ 0 7 (nI 1))) (fun f => rfl) ?_
  generalize es1 : pi_up σ 0 7 (nI 1) = s1
  refine pi_rt 2 (v := some (.int (Int32.ofNat 2147483648))) (σ' := s1) (fun f => rfl) ?_
  have hfr : pi_fr [0] s1 σ := pi_fr_of es1 (by decide) (pi_fr_rf)
  exact ⟨rfl, hR.fnd ((congrFun (congrFun es1 0) 7).symm.trans (pi_up_ss _ _ _ _)) hfr, pi_fr_tr hfr (by decide) pi_fr_rf⟩
set_option maxRecDepth 20000 in
theorem pi_X_put0_3 {xs : Nat → Int32} {L d : Nat} {W : zW} {σ : pi_S} (hR : z_CR W σ) {f : Nat} {i x : Int32} (hf3 : f < 3) (hq1 : ¬ W.th 0 = 0) (h3 : ¬ W.fo 0 = f)  : pi_wp xs L (d + 9) 88 0 [some (.ref 0), some (.int (nI 0)), some (.int (nI f)), some (.int i), some (.int x), none] [] σ (fun v s => v = some (.int ((-10) - (nI 3))) ∧ z_CR (W.sS 0 (nI 3)) s ∧ pi_fr z_CC s σ) := by
  have hk := hR.k.p.wk
  have hnd8 := hk.wd.nd8
  have hns12 := hk.wd.ns12
  have hn60 := hk.nine
  have hnf := hk.nf
  have hnw := hk.nw
  have hnc := hk.nc
  have hn08 := hk.wd.n0
  have hn140 := hk.wd.n1
  refine pi_ca 3 (m' := 94) (l' := [some (.int (nI 0)), some (.int (nI 4))]) (σ' := σ) (pc2 := 5) (l2 := [some (.ref 0), some (.int (nI 0)), some (.int (nI f)), some (.int i), some (.int x), none]) (t := []) (fun f => rfl) (pi_below1 _ _ (z_BL (by omega) (by omega))) ?_
  rintro _ _ ⟨rfl, rfl⟩
  refine pi_cf 1 (c := nI 1 = 0) (pc' := 8) (l' := [some (.ref 0), some (.int (nI 0)), some (.int (nI f)), some (.int i), some (.int x), none]) (st' := []) (σ' := σ) (pc2 := 16) (l2 := [some (.ref 0), some (.int (nI 0)), some (.int (nI f)), some (.int i), some (.int x), none]) (st2 := []) (σ2 := σ) (fun f => rfl) (by decide) ?_
  refine pi_ca 3 (m' := 94) (l' := [some (.int (nI f)), some (.int (nI 3))]) (σ' := σ) (pc2 := 13) (l2 := [some (.ref 0), some (.int (nI 0)), some (.int (nI f)), some (.int i), some (.int x), none]) (t := []) (fun f => rfl) (pi_below1 _ _ (z_BL (by omega) (by omega))) ?_
  rintro _ _ ⟨rfl, rfl⟩
  refine pi_cf 1 (c := nI 1 = 0) (pc' := 19) (l' := [some (.ref 0), some (.int (nI 0)), some (.int (nI f)), some (.int i), some (.int x), none]) (st' := []) (σ' := σ) (pc2 := 16) (l2 := [some (.ref 0), some (.int (nI 0)), some (.int (nI f)), some (.int i), some (.int x), none]) (st2 := []) (σ2 := σ) (fun f => rfl) (by decide) ?_
  refine pi_aq 4 (u := 0) (n := 4) (a := 47) (c := 48) (pc' := 25) (l' := [some (.ref 0), some (.int (nI 0)), some (.int (nI f)), some (.int i), some (.int x), none]) (t := []) (σ' := σ) (fun f => rfl) (by omega) (by omega) rfl ?_
  refine pi_ca 3 (m' := 38) (l' := [some (.ref 48), some (.int (nI f)), some (.int i)]) (σ' := σ) (pc2 := 30) (l2 := [some (.ref 0), some (.int (nI 0)), some (.int (nI f)), some (.int i), some (.int x), none]) (t := []) (fun f => rfl) (pi_C_why0_3 hR.k hf3 hq1 h3) ?_
  rintro _ _ ⟨rfl, rfl⟩
  refine pi_cf 3 (c := nI 3 = 0) (pc' := 37) (l' := [some (.ref 0), some (.int (nI 0)), some (.int (nI f)), some (.int i), some (.int x), some (.int (nI 3))]) (st' := []) (σ' := σ) (pc2 := 44) (l2 := [some (.ref 0), some (.int (nI 0)), some (.int (nI f)), some (.int i), some (.int x), some (.int (nI 3))]) (st2 := []) (σ2 := σ) (fun f => rfl) (by decide) ?_
  refine pi_ca 3 (m' := 96) (l' := [some (.ref 0), some (.int (nI 3))]) (σ' := σ) (pc2 := 43) (l2 := [some (.ref 0), some (.int (nI 0)), some (.int (nI f)), some (.int i), some (.int x), some (.int (nI 3))]) (t := []) (fun f => rfl) (pi_C_found (nI 3)) ?_
  rintro _ t1 ⟨rfl, et1, kt1, rt1⟩
  refine pi_rt 1 (v := some (.int ((-10) - (nI 3)))) (σ' := t1) (fun f => rfl) ?_
  have hfr : pi_fr [0] t1 σ := pi_fr_tr rt1 (by decide) (pi_fr_rf)
  exact ⟨rfl, hR.fnd (et1) hfr, pi_fr_tr hfr (by decide) pi_fr_rf⟩
set_option maxRecDepth 20000 in
theorem pi_X_get0_3 {xs : Nat → Int32} {L d : Nat} {W : zW} {σ : pi_S} (hR : z_CR W σ) {f : Nat} {i : Int32} (hf3 : f < 3) (hq1 : ¬ W.th 0 = 0) (h3 : ¬ W.fo 0 = f)  : pi_wp xs L (d + 9) 89 0 [some (.ref 0), some (.int (nI 0)), some (.int (nI f)), some (.int i), none] [] σ (fun v s => v = some (.int (Int32.ofNat 2147483648)) ∧ z_CR (W.sS 0 (nI 3)) s ∧ pi_fr z_CC s σ) := by
  have hk := hR.k.p.wk
  have hnd8 := hk.wd.nd8
  have hns12 := hk.wd.ns12
  have hn60 := hk.nine
  have hnf := hk.nf
  have hnw := hk.nw
  have hnc := hk.nc
  have hn08 := hk.wd.n0
  have hn140 := hk.wd.n1
  refine pi_ca 3 (m' := 94) (l' := [some (.int (nI 0)), some (.int (nI 4))]) (σ' := σ) (pc2 := 5) (l2 := [some (.ref 0), some (.int (nI 0)), some (.int (nI f)), some (.int i), none]) (t := []) (fun f => rfl) (pi_below1 _ _ (z_BL (by omega) (by omega))) ?_
  rintro _ _ ⟨rfl, rfl⟩
  refine pi_cf 1 (c := nI 1 = 0) (pc' := 8) (l' := [some (.ref 0), some (.int (nI 0)), some (.int (nI f)), some (.int i), none]) (st' := []) (σ' := σ) (pc2 := 16) (l2 := [some (.ref 0), some (.int (nI 0)), some (.int (nI f)), some (.int i), none]) (st2 := []) (σ2 := σ) (fun f => rfl) (by decide) ?_
  refine pi_ca 3 (m' := 94) (l' := [some (.int (nI f)), some (.int (nI 3))]) (σ' := σ) (pc2 := 13) (l2 := [some (.ref 0), some (.int (nI 0)), some (.int (nI f)), some (.int i), none]) (t := []) (fun f => rfl) (pi_below1 _ _ (z_BL (by omega) (by omega))) ?_
  rintro _ _ ⟨rfl, rfl⟩
  refine pi_cf 1 (c := nI 1 = 0) (pc' := 20) (l' := [some (.ref 0), some (.int (nI 0)), some (.int (nI f)), some (.int i), none]) (st' := []) (σ' := σ) (pc2 := 16) (l2 := [some (.ref 0), some (.int (nI 0)), some (.int (nI f)), some (.int i), none]) (st2 := []) (σ2 := σ) (fun f => rfl) (by decide) ?_
  refine pi_aq 4 (u := 0) (n := 4) (a := 47) (c := 48) (pc' := 26) (l' := [some (.ref 0), some (.int (nI 0)), some (.int (nI f)), some (.int i), none]) (t := []) (σ' := σ) (fun f => rfl) (by omega) (by omega) rfl ?_
  refine pi_ca 3 (m' := 38) (l' := [some (.ref 48), some (.int (nI f)), some (.int i)]) (σ' := σ) (pc2 := 31) (l2 := [some (.ref 0), some (.int (nI 0)), some (.int (nI f)), some (.int i), none]) (t := []) (fun f => rfl) (pi_C_why0_3 hR.k hf3 hq1 h3) ?_
  rintro _ _ ⟨rfl, rfl⟩
  refine pi_cf 3 (c := nI 3 = 0) (pc' := 38) (l' := [some (.ref 0), some (.int (nI 0)), some (.int (nI f)), some (.int i), some (.int (nI 3))]) (st' := []) (σ' := σ) (pc2 := 48) (l2 := [some (.ref 0), some (.int (nI 0)), some (.int (nI f)), some (.int i), some (.int (nI 3))]) (st2 := []) (σ2 := σ) (fun f => rfl) (by decide) ?_
  refine pi_go 3 (pc' := 44) (l' := [some (.ref 0), some (.int (nI 0)), some (.int (nI f)), some (.int i), some (.int (nI 3))]) (st' := []) (σ' := (pi_up σ 0 7 (nI 3))) (fun f => rfl) ?_
  generalize es1 : pi_up σ 0 7 (nI 3) = s1
  refine pi_rt 2 (v := some (.int (Int32.ofNat 2147483648))) (σ' := s1) (fun f => rfl) ?_
  have hfr : pi_fr [0] s1 σ := pi_fr_of es1 (by decide) (pi_fr_rf)
  exact ⟨rfl, hR.fnd ((congrFun (congrFun es1 0) 7).symm.trans (pi_up_ss _ _ _ _)) hfr, pi_fr_tr hfr (by decide) pi_fr_rf⟩
set_option maxRecDepth 20000 in
theorem pi_X_put0_2 {xs : Nat → Int32} {L d : Nat} {W : zW} {σ : pi_S} (hR : z_CR W σ) {f : Nat} {i x : Int32} (hf3 : f < 3) (hq1 : ¬ W.th 0 = 0) (h3 : W.fo 0 = f) (h2 : ¬ z_B (W.si 0) i)  : pi_wp xs L (d + 9) 88 0 [some (.ref 0), some (.int (nI 0)), some (.int (nI f)), some (.int i), some (.int x), none] [] σ (fun v s => v = some (.int ((-10) - (nI 2))) ∧ z_CR (W.sS 0 (nI 2)) s ∧ pi_fr z_CC s σ) := by
  have hk := hR.k.p.wk
  have hnd8 := hk.wd.nd8
  have hns12 := hk.wd.ns12
  have hn60 := hk.nine
  have hnf := hk.nf
  have hnw := hk.nw
  have hnc := hk.nc
  have hn08 := hk.wd.n0
  have hn140 := hk.wd.n1
  refine pi_ca 3 (m' := 94) (l' := [some (.int (nI 0)), some (.int (nI 4))]) (σ' := σ) (pc2 := 5) (l2 := [some (.ref 0), some (.int (nI 0)), some (.int (nI f)), some (.int i), some (.int x), none]) (t := []) (fun f => rfl) (pi_below1 _ _ (z_BL (by omega) (by omega))) ?_
  rintro _ _ ⟨rfl, rfl⟩
  refine pi_cf 1 (c := nI 1 = 0) (pc' := 8) (l' := [some (.ref 0), some (.int (nI 0)), some (.int (nI f)), some (.int i), some (.int x), none]) (st' := []) (σ' := σ) (pc2 := 16) (l2 := [some (.ref 0), some (.int (nI 0)), some (.int (nI f)), some (.int i), some (.int x), none]) (st2 := []) (σ2 := σ) (fun f => rfl) (by decide) ?_
  refine pi_ca 3 (m' := 94) (l' := [some (.int (nI f)), some (.int (nI 3))]) (σ' := σ) (pc2 := 13) (l2 := [some (.ref 0), some (.int (nI 0)), some (.int (nI f)), some (.int i), some (.int x), none]) (t := []) (fun f => rfl) (pi_below1 _ _ (z_BL (by omega) (by omega))) ?_
  rintro _ _ ⟨rfl, rfl⟩
  refine pi_cf 1 (c := nI 1 = 0) (pc' := 19) (l' := [some (.ref 0), some (.int (nI 0)), some (.int (nI f)), some (.int i), some (.int x), none]) (st' := []) (σ' := σ) (pc2 := 16) (l2 := [some (.ref 0), some (.int (nI 0)), some (.int (nI f)), some (.int i), some (.int x), none]) (st2 := []) (σ2 := σ) (fun f => rfl) (by decide) ?_
  refine pi_aq 4 (u := 0) (n := 4) (a := 47) (c := 48) (pc' := 25) (l' := [some (.ref 0), some (.int (nI 0)), some (.int (nI f)), some (.int i), some (.int x), none]) (t := []) (σ' := σ) (fun f => rfl) (by omega) (by omega) rfl ?_
  refine pi_ca 3 (m' := 38) (l' := [some (.ref 48), some (.int (nI f)), some (.int i)]) (σ' := σ) (pc2 := 30) (l2 := [some (.ref 0), some (.int (nI 0)), some (.int (nI f)), some (.int i), some (.int x), none]) (t := []) (fun f => rfl) (pi_C_why0_2 hR.k hf3 hq1 h3 h2) ?_
  rintro _ _ ⟨rfl, rfl⟩
  refine pi_cf 3 (c := nI 2 = 0) (pc' := 37) (l' := [some (.ref 0), some (.int (nI 0)), some (.int (nI f)), some (.int i), some (.int x), some (.int (nI 2))]) (st' := []) (σ' := σ) (pc2 := 44) (l2 := [some (.ref 0), some (.int (nI 0)), some (.int (nI f)), some (.int i), some (.int x), some (.int (nI 2))]) (st2 := []) (σ2 := σ) (fun f => rfl) (by decide) ?_
  refine pi_ca 3 (m' := 96) (l' := [some (.ref 0), some (.int (nI 2))]) (σ' := σ) (pc2 := 43) (l2 := [some (.ref 0), some (.int (nI 0)), some (.int (nI f)), some (.int i), some (.int x), some (.int (nI 2))]) (t := []) (fun f => rfl) (pi_C_found (nI 2)) ?_
  rintro _ t1 ⟨rfl, et1, kt1, rt1⟩
  refine pi_rt 1 (v := some (.int ((-10) - (nI 2)))) (σ' := t1) (fun f => rfl) ?_
  have hfr : pi_fr [0] t1 σ := pi_fr_tr rt1 (by decide) (pi_fr_rf)
  exact ⟨rfl, hR.fnd (et1) hfr, pi_fr_tr hfr (by decide) pi_fr_rf⟩
set_option maxRecDepth 20000 in
theorem pi_X_get0_2 {xs : Nat → Int32} {L d : Nat} {W : zW} {σ : pi_S} (hR : z_CR W σ) {f : Nat} {i : Int32} (hf3 : f < 3) (hq1 : ¬ W.th 0 = 0) (h3 : W.fo 0 = f) (h2 : ¬ z_B (W.si 0) i)  : pi_wp xs L (d + 9) 89 0 [some (.ref 0), some (.int (nI 0)), some (.int (nI f)), some (.int i), none] [] σ (fun v s => v = some (.int (Int32.ofNat 2147483648)) ∧ z_CR (W.sS 0 (nI 2)) s ∧ pi_fr z_CC s σ) := by
  have hk := hR.k.p.wk
  have hnd8 := hk.wd.nd8
  have hns12 := hk.wd.ns12
  have hn60 := hk.nine
  have hnf := hk.nf
  have hnw := hk.nw
  have hnc := hk.nc
  have hn08 := hk.wd.n0
  have hn140 := hk.wd.n1
  refine pi_ca 3 (m' := 94) (l' := [some (.int (nI 0)), some (.int (nI 4))]) (σ' := σ) (pc2 := 5) (l2 := [some (.ref 0), some (.int (nI 0)), some (.int (nI f)), some (.int i), none]) (t := []) (fun f => rfl) (pi_below1 _ _ (z_BL (by omega) (by omega))) ?_
  rintro _ _ ⟨rfl, rfl⟩
  refine pi_cf 1 (c := nI 1 = 0) (pc' := 8) (l' := [some (.ref 0), some (.int (nI 0)), some (.int (nI f)), some (.int i), none]) (st' := []) (σ' := σ) (pc2 := 16) (l2 := [some (.ref 0), some (.int (nI 0)), some (.int (nI f)), some (.int i), none]) (st2 := []) (σ2 := σ) (fun f => rfl) (by decide) ?_
  refine pi_ca 3 (m' := 94) (l' := [some (.int (nI f)), some (.int (nI 3))]) (σ' := σ) (pc2 := 13) (l2 := [some (.ref 0), some (.int (nI 0)), some (.int (nI f)), some (.int i), none]) (t := []) (fun f => rfl) (pi_below1 _ _ (z_BL (by omega) (by omega))) ?_
  rintro _ _ ⟨rfl, rfl⟩
  refine pi_cf 1 (c := nI 1 = 0) (pc' := 20) (l' := [some (.ref 0), some (.int (nI 0)), some (.int (nI f)), some (.int i), none]) (st' := []) (σ' := σ) (pc2 := 16) (l2 := [some (.ref 0), some (.int (nI 0)), some (.int (nI f)), some (.int i), none]) (st2 := []) (σ2 := σ) (fun f => rfl) (by decide) ?_
  refine pi_aq 4 (u := 0) (n := 4) (a := 47) (c := 48) (pc' := 26) (l' := [some (.ref 0), some (.int (nI 0)), some (.int (nI f)), some (.int i), none]) (t := []) (σ' := σ) (fun f => rfl) (by omega) (by omega) rfl ?_
  refine pi_ca 3 (m' := 38) (l' := [some (.ref 48), some (.int (nI f)), some (.int i)]) (σ' := σ) (pc2 := 31) (l2 := [some (.ref 0), some (.int (nI 0)), some (.int (nI f)), some (.int i), none]) (t := []) (fun f => rfl) (pi_C_why0_2 hR.k hf3 hq1 h3 h2) ?_
  rintro _ _ ⟨rfl, rfl⟩
  refine pi_cf 3 (c := nI 2 = 0) (pc' := 38) (l' := [some (.ref 0), some (.int (nI 0)), some (.int (nI f)), some (.int i), some (.int (nI 2))]) (st' := []) (σ' := σ) (pc2 := 48) (l2 := [some (.ref 0), some (.int (nI 0)), some (.int (nI f)), some (.int i), some (.int (nI 2))]) (st2 := []) (σ2 := σ) (fun f => rfl) (by decide) ?_
  refine pi_go 3 (pc' := 44) (l' := [some (.ref 0), some (.int (nI 0)), some (.int (nI f)), some (.int i), some (.int (nI 2))]) (st' := []) (σ' := (pi_up σ 0 7 (nI 2))) (fun f => rfl) ?_
  generalize es1 : pi_up σ 0 7 (nI 2) = s1
  refine pi_rt 2 (v := some (.int (Int32.ofNat 2147483648))) (σ' := s1) (fun f => rfl) ?_
  have hfr : pi_fr [0] s1 σ := pi_fr_of es1 (by decide) (pi_fr_rf)
  exact ⟨rfl, hR.fnd ((congrFun (congrFun es1 0) 7).symm.trans (pi_up_ss _ _ _ _)) hfr, pi_fr_tr hfr (by decide) pi_fr_rf⟩
set_option maxRecDepth 20000 in
theorem pi_X_put0 {xs : Nat → Int32} {L d : Nat} {W : zW} {σ : pi_S} (hR : z_CR W σ) {f i : Nat} {x : Int32} (hf3 : f < 3) (hq1 : ¬ W.th 0 = 0) (h3 : W.fo 0 = f) (h2 : i < W.si 0)  : pi_wp xs L (d + 9) 88 0 [some (.ref 0), some (.int (nI 0)), some (.int (nI f)), some (.int (nI i)), some (.int x), none] [] σ (fun v s => v = some (.int (nI 1)) ∧ z_CR (W.sI 9 (upd W.it (48 * 0 + i) (z_nar (W.fo 0) x))) s ∧ pi_fr z_CC s σ) := by
  have hk := hR.k.p.wk
  have hnd8 := hk.wd.nd8
  have hns12 := hk.wd.ns12
  have hn60 := hk.nine
  have hnf := hk.nf
  have hnw := hk.nw
  have hnc := hk.nc
  have hn08 := hk.wd.n0
  have hn140 := hk.wd.n1
  have hsi := hk.si 0 (by omega)
  refine pi_ca 3 (m' := 94) (l' := [some (.int (nI 0)), some (.int (nI 4))]) (σ' := σ) (pc2 := 5) (l2 := [some (.ref 0), some (.int (nI 0)), some (.int (nI f)), some (.int (nI i)), some (.int x), none]) (t := []) (fun f => rfl) (pi_below1 _ _ (z_BL (by omega) (by omega))) ?_
  rintro _ _ ⟨rfl, rfl⟩
  refine pi_cf 1 (c := nI 1 = 0) (pc' := 8) (l' := [some (.ref 0), some (.int (nI 0)), some (.int (nI f)), some (.int (nI i)), some (.int x), none]) (st' := []) (σ' := σ) (pc2 := 16) (l2 := [some (.ref 0), some (.int (nI 0)), some (.int (nI f)), some (.int (nI i)), some (.int x), none]) (st2 := []) (σ2 := σ) (fun f => rfl) (by decide) ?_
  refine pi_ca 3 (m' := 94) (l' := [some (.int (nI f)), some (.int (nI 3))]) (σ' := σ) (pc2 := 13) (l2 := [some (.ref 0), some (.int (nI 0)), some (.int (nI f)), some (.int (nI i)), some (.int x), none]) (t := []) (fun f => rfl) (pi_below1 _ _ (z_BL (by omega) (by omega))) ?_
  rintro _ _ ⟨rfl, rfl⟩
  refine pi_cf 1 (c := nI 1 = 0) (pc' := 19) (l' := [some (.ref 0), some (.int (nI 0)), some (.int (nI f)), some (.int (nI i)), some (.int x), none]) (st' := []) (σ' := σ) (pc2 := 16) (l2 := [some (.ref 0), some (.int (nI 0)), some (.int (nI f)), some (.int (nI i)), some (.int x), none]) (st2 := []) (σ2 := σ) (fun f => rfl) (by decide) ?_
  refine pi_aq 4 (u := 0) (n := 4) (a := 47) (c := 48) (pc' := 25) (l' := [some (.ref 0), some (.int (nI 0)), some (.int (nI f)), some (.int (nI i)), some (.int x), none]) (t := []) (σ' := σ) (fun f => rfl) (by omega) (by omega) rfl ?_
  refine pi_ca 3 (m' := 38) (l' := [some (.ref 48), some (.int (nI f)), some (.int (nI i))]) (σ' := σ) (pc2 := 30) (l2 := [some (.ref 0), some (.int (nI 0)), some (.int (nI f)), some (.int (nI i)), some (.int x), none]) (t := []) (fun f => rfl) (pi_C_why0_0 hR.k hf3 hq1 h3 h2) ?_
  rintro _ _ ⟨rfl, rfl⟩
  refine pi_ct 3 (c := nI 0 = 0) (pc' := 44) (l' := [some (.ref 0), some (.int (nI 0)), some (.int (nI f)), some (.int (nI i)), some (.int x), some (.int (nI 0))]) (st' := []) (σ' := σ) (pc2 := 37) (l2 := [some (.ref 0), some (.int (nI 0)), some (.int (nI f)), some (.int (nI i)), some (.int x), some (.int (nI 0))]) (st2 := []) (σ2 := σ) (fun f => rfl) (by decide) ?_
  refine pi_aq 4 (u := 0) (n := 4) (a := 47) (c := 48) (pc' := 50) (l' := [some (.ref 0), some (.int (nI 0)), some (.int (nI f)), some (.int (nI i)), some (.int x), some (.int (nI 0))]) (t := []) (σ' := σ) (fun f => rfl) (by omega) (by omega) rfl ?_
  refine pi_ca 3 (m' := 41) (l' := [some (.ref 48), some (.int (nI i)), some (.int x)]) (σ' := σ) (pc2 := 56) (l2 := [some (.ref 0), some (.int (nI 0)), some (.int (nI f)), some (.int (nI i)), some (.int x), some (.int (nI 0))]) (t := []) (fun f => rfl) (pi_C_store0 (W := W) (hR.k.p.sf0) (hk.si 0 (by omega)).2.1 (hR.k.p.ss0.trans (z_sz_f hq1)) (hk.si 0 (by omega)).1 (i := i) (by omega) x) ?_
  rintro _ t1 ⟨rfl, et1, rt1⟩
  refine pi_rt 2 (v := some (.int (nI 1))) (σ' := t1) (fun f => rfl) ?_
  have hfr : pi_fr [49] t1 σ := pi_fr_tr rt1 (by decide) (pi_fr_rf)
  exact ⟨rfl, hR.it0 (fun j hj => (congrFun (et1) j).trans (z_put_at (hR.k.p.si0 j hj))) (fun q hq => z_upd_n _ _ (hq i (by omega))) hfr, pi_fr_tr hfr (by decide) pi_fr_rf⟩
set_option maxRecDepth 20000 in
theorem pi_X_get0 {xs : Nat → Int32} {L d : Nat} {W : zW} {σ : pi_S} (hR : z_CR W σ) {f i : Nat} (hf3 : f < 3) (hq1 : ¬ W.th 0 = 0) (h3 : W.fo 0 = f) (h2 : i < W.si 0)  : pi_wp xs L (d + 9) 89 0 [some (.ref 0), some (.int (nI 0)), some (.int (nI f)), some (.int (nI i)), none] [] σ (fun v s => v = some (.int (W.it (48 * 0 + i))) ∧ z_CR W s ∧ pi_fr z_CJ s σ) := by
  have hk := hR.k.p.wk
  have hnd8 := hk.wd.nd8
  have hns12 := hk.wd.ns12
  have hn60 := hk.nine
  have hnf := hk.nf
  have hnw := hk.nw
  have hnc := hk.nc
  have hn08 := hk.wd.n0
  have hn140 := hk.wd.n1
  have hsi := hk.si 0 (by omega)
  refine pi_ca 3 (m' := 94) (l' := [some (.int (nI 0)), some (.int (nI 4))]) (σ' := σ) (pc2 := 5) (l2 := [some (.ref 0), some (.int (nI 0)), some (.int (nI f)), some (.int (nI i)), none]) (t := []) (fun f => rfl) (pi_below1 _ _ (z_BL (by omega) (by omega))) ?_
  rintro _ _ ⟨rfl, rfl⟩
  refine pi_cf 1 (c := nI 1 = 0) (pc' := 8) (l' := [some (.ref 0), some (.int (nI 0)), some (.int (nI f)), some (.int (nI i)), none]) (st' := []) (σ' := σ) (pc2 := 16) (l2 := [some (.ref 0), some (.int (nI 0)), some (.int (nI f)), some (.int (nI i)), none]) (st2 := []) (σ2 := σ) (fun f => rfl) (by decide) ?_
  refine pi_ca 3 (m' := 94) (l' := [some (.int (nI f)), some (.int (nI 3))]) (σ' := σ) (pc2 := 13) (l2 := [some (.ref 0), some (.int (nI 0)), some (.int (nI f)), some (.int (nI i)), none]) (t := []) (fun f => rfl) (pi_below1 _ _ (z_BL (by omega) (by omega))) ?_
  rintro _ _ ⟨rfl, rfl⟩
  refine pi_cf 1 (c := nI 1 = 0) (pc' := 20) (l' := [some (.ref 0), some (.int (nI 0)), some (.int (nI f)), some (.int (nI i)), none]) (st' := []) (σ' := σ) (pc2 := 16) (l2 := [some (.ref 0), some (.int (nI 0)), some (.int (nI f)), some (.int (nI i)), none]) (st2 := []) (σ2 := σ) (fun f => rfl) (by decide) ?_
  refine pi_aq 4 (u := 0) (n := 4) (a := 47) (c := 48) (pc' := 26) (l' := [some (.ref 0), some (.int (nI 0)), some (.int (nI f)), some (.int (nI i)), none]) (t := []) (σ' := σ) (fun f => rfl) (by omega) (by omega) rfl ?_
  refine pi_ca 3 (m' := 38) (l' := [some (.ref 48), some (.int (nI f)), some (.int (nI i))]) (σ' := σ) (pc2 := 31) (l2 := [some (.ref 0), some (.int (nI 0)), some (.int (nI f)), some (.int (nI i)), none]) (t := []) (fun f => rfl) (pi_C_why0_0 hR.k hf3 hq1 h3 h2) ?_
  rintro _ _ ⟨rfl, rfl⟩
  refine pi_ct 3 (c := nI 0 = 0) (pc' := 48) (l' := [some (.ref 0), some (.int (nI 0)), some (.int (nI f)), some (.int (nI i)), some (.int (nI 0))]) (st' := []) (σ' := σ) (pc2 := 38) (l2 := [some (.ref 0), some (.int (nI 0)), some (.int (nI f)), some (.int (nI i)), some (.int (nI 0))]) (st2 := []) (σ2 := σ) (fun f => rfl) (by decide) ?_
  refine pi_aq 4 (u := 0) (n := 4) (a := 47) (c := 48) (pc' := 54) (l' := [some (.ref 0), some (.int (nI 0)), some (.int (nI f)), some (.int (nI i)), some (.int (nI 0))]) (t := []) (σ' := σ) (fun f => rfl) (by omega) (by omega) rfl ?_
  refine pi_ca 2 (m' := 40) (l' := [some (.ref 48), some (.int (nI i))]) (σ' := σ) (pc2 := 58) (l2 := [some (.ref 0), some (.int (nI 0)), some (.int (nI f)), some (.int (nI i)), some (.int (nI 0))]) (t := []) (fun f => rfl) (pi_C_itemAt0 (W := W) (i := i) (hR.k.p.ss0.trans (z_sz_f hq1)) (hk.si 0 (by omega)).1 ((hR.k.p.si0 i (by omega))) (by omega)) ?_
  rintro _ _ ⟨rfl, rfl⟩
  refine pi_rt 1 (v := some (.int (W.it (48 * 0 + i)))) (σ' := σ) (fun f => rfl) ?_
  exact ⟨rfl, hR, pi_fr_rf⟩
set_option maxRecDepth 20000 in
theorem pi_X_write0_null {xs : Nat → Int32} {L d : Nat} {W : zW} {σ : pi_S} (hR : z_CR W σ) {mi : Nat} (hi : mi < W.nine + 1) (hq0 : W.th 0 = 0)  : pi_wp xs L (d + 9) 91 0 [some (.ref 0), some (.int (nI mi)), some (.int (nI 0)), none, none, none, none] [] σ (fun v s => v = some (.int ((-10) - (nI 1))) ∧ z_CR (W.sS 0 (nI 1)) s ∧ pi_fr z_CC s σ) := by
  have hk := hR.k.p.wk
  have hnd8 := hk.wd.nd8
  have hns12 := hk.wd.ns12
  have hn60 := hk.nine
  have hnf := hk.nf
  have hnw := hk.nw
  have hnc := hk.nc
  have hn08 := hk.wd.n0
  have hn140 := hk.wd.n1
  refine pi_ca 3 (m' := 95) (l' := [some (.ref 0), some (.int (nI mi))]) (σ' := σ) (pc2 := 5) (l2 := [some (.ref 0), some (.int (nI mi)), some (.int (nI 0)), none, none, none, none]) (t := []) (fun f => rfl) (pi_C_toNineT hR.k (by omega)) ?_
  rintro _ _ ⟨rfl, rfl⟩
  refine pi_cf 1 (c := nI 1 = 0) (pc' := 8) (l' := [some (.ref 0), some (.int (nI mi)), some (.int (nI 0)), none, none, none, none]) (st' := []) (σ' := σ) (pc2 := 16) (l2 := [some (.ref 0), some (.int (nI mi)), some (.int (nI 0)), none, none, none, none]) (st2 := []) (σ2 := σ) (fun f => rfl) (by decide) ?_
  refine pi_ca 3 (m' := 94) (l' := [some (.int (nI 0)), some (.int (nI 4))]) (σ' := σ) (pc2 := 13) (l2 := [some (.ref 0), some (.int (nI mi)), some (.int (nI 0)), none, none, none, none]) (t := []) (fun f => rfl) (pi_below1 _ _ (z_BL (by omega) (by omega))) ?_
  rintro _ _ ⟨rfl, rfl⟩
  refine pi_cf 1 (c := nI 1 = 0) (pc' := 19) (l' := [some (.ref 0), some (.int (nI mi)), some (.int (nI 0)), none, none, none, none]) (st' := []) (σ' := σ) (pc2 := 16) (l2 := [some (.ref 0), some (.int (nI mi)), some (.int (nI 0)), none, none, none, none]) (st2 := []) (σ2 := σ) (fun f => rfl) (by decide) ?_
  refine pi_aq 4 (u := 0) (n := 4) (a := 47) (c := 48) (pc' := 25) (l' := [some (.ref 0), some (.int (nI mi)), some (.int (nI 0)), none, none, none, none]) (t := []) (σ' := σ) (fun f => rfl) (by omega) (by omega) rfl ?_
  refine pi_ca 3 (m' := 36) (l' := [some (.ref 48)]) (σ' := σ) (pc2 := 30) (l2 := [some (.ref 0), some (.int (nI mi)), some (.int (nI 0)), some (.ref 48), none, none, none]) (t := []) (fun f => rfl) (pi_C_lost0_t hR.k hq0) ?_
  rintro _ _ ⟨rfl, rfl⟩
  refine pi_cf 1 (c := nI 1 = 0) (pc' := 33) (l' := [some (.ref 0), some (.int (nI mi)), some (.int (nI 0)), some (.ref 48), none, none, none]) (st' := []) (σ' := σ) (pc2 := 39) (l2 := [some (.ref 0), some (.int (nI mi)), some (.int (nI 0)), some (.ref 48), none, none, none]) (st2 := []) (σ2 := σ) (fun f => rfl) (by decide) ?_
  refine pi_ca 3 (m' := 96) (l' := [some (.ref 0), some (.int (nI 1))]) (σ' := σ) (pc2 := 38) (l2 := [some (.ref 0), some (.int (nI mi)), some (.int (nI 0)), some (.ref 48), none, none, none]) (t := []) (fun f => rfl) (pi_C_found (nI 1)) ?_
  rintro _ t1 ⟨rfl, et1, kt1, rt1⟩
  refine pi_rt 1 (v := some (.int ((-10) - (nI 1)))) (σ' := t1) (fun f => rfl) ?_
  have hfr : pi_fr [0] t1 σ := pi_fr_tr rt1 (by decide) (pi_fr_rf)
  exact ⟨rfl, hR.fnd (et1) hfr, pi_fr_tr hfr (by decide) pi_fr_rf⟩
set_option maxRecDepth 20000 in
theorem pi_X_write0c {xs : Nat → Int32} {L d : Nat} {W : zW} {σ : pi_S} (hR : z_CR W σ) (hq1 : ¬ W.th 0 = 0) {N : Nat} (hN : N ≤ W.si 0 ∧ N ≤ W.nd ∧ (N = W.si 0 ∨ N = W.nd))  : pi_wp xs L (d + 9) 91 0 [some (.ref 0), some (.int (nI W.nine)), some (.int (nI 0)), none, none, none, none] [] σ (fun v s => v = some (.int (nI N)) ∧ z_CR (W.sI 9 (z_wr W 0 ((z_A W).1.1.1) N)) s ∧ pi_fr z_CC s σ) := by
  have hk := hR.k.p.wk
  have hnd8 := hk.wd.nd8
  have hns12 := hk.wd.ns12
  have hn60 := hk.nine
  have hnf := hk.nf
  have hnw := hk.nw
  have hnc := hk.nc
  have hn08 := hk.wd.n0
  have hn140 := hk.wd.n1
  have hsi := hk.si 0 (by omega)
  refine pi_ca 3 (m' := 95) (l' := [some (.ref 0), some (.int (nI W.nine))]) (σ' := σ) (pc2 := 5) (l2 := [some (.ref 0), some (.int (nI W.nine)), some (.int (nI 0)), none, none, none, none]) (t := []) (fun f => rfl) (pi_C_toNineT hR.k (by omega)) ?_
  rintro _ _ ⟨rfl, rfl⟩
  refine pi_cf 1 (c := nI 1 = 0) (pc' := 8) (l' := [some (.ref 0), some (.int (nI W.nine)), some (.int (nI 0)), none, none, none, none]) (st' := []) (σ' := σ) (pc2 := 16) (l2 := [some (.ref 0), some (.int (nI W.nine)), some (.int (nI 0)), none, none, none, none]) (st2 := []) (σ2 := σ) (fun f => rfl) (by decide) ?_
  refine pi_ca 3 (m' := 94) (l' := [some (.int (nI 0)), some (.int (nI 4))]) (σ' := σ) (pc2 := 13) (l2 := [some (.ref 0), some (.int (nI W.nine)), some (.int (nI 0)), none, none, none, none]) (t := []) (fun f => rfl) (pi_below1 _ _ (z_BL (by omega) (by omega))) ?_
  rintro _ _ ⟨rfl, rfl⟩
  refine pi_cf 1 (c := nI 1 = 0) (pc' := 19) (l' := [some (.ref 0), some (.int (nI W.nine)), some (.int (nI 0)), none, none, none, none]) (st' := []) (σ' := σ) (pc2 := 16) (l2 := [some (.ref 0), some (.int (nI W.nine)), some (.int (nI 0)), none, none, none, none]) (st2 := []) (σ2 := σ) (fun f => rfl) (by decide) ?_
  refine pi_aq 4 (u := 0) (n := 4) (a := 47) (c := 48) (pc' := 25) (l' := [some (.ref 0), some (.int (nI W.nine)), some (.int (nI 0)), none, none, none, none]) (t := []) (σ' := σ) (fun f => rfl) (by omega) (by omega) rfl ?_
  refine pi_ca 3 (m' := 36) (l' := [some (.ref 48)]) (σ' := σ) (pc2 := 30) (l2 := [some (.ref 0), some (.int (nI W.nine)), some (.int (nI 0)), some (.ref 48), none, none, none]) (t := []) (fun f => rfl) (pi_C_lost0_f hR.k hq1) ?_
  rintro _ _ ⟨rfl, rfl⟩
  refine pi_ct 1 (c := nI 0 = 0) (pc' := 39) (l' := [some (.ref 0), some (.int (nI W.nine)), some (.int (nI 0)), some (.ref 48), none, none, none]) (st' := []) (σ' := σ) (pc2 := 33) (l2 := [some (.ref 0), some (.int (nI W.nine)), some (.int (nI 0)), some (.ref 48), none, none, none]) (st2 := []) (σ2 := σ) (fun f => rfl) (by decide) ?_
  refine pi_ca 3 (m' := 98) (l' := [some (.ref 0), some (.int (nI W.nine))]) (σ' := σ) (pc2 := 44) (l2 := [some (.ref 0), some (.int (nI W.nine)), some (.int (nI 0)), some (.ref 48), none, none, none]) (t := []) (fun f => rfl) (pi_C_behind_c hR.k) ?_
  rintro _ _ ⟨rfl, rfl⟩
  refine pi_go 4 (pc' := 53) (l' := [some (.ref 0), some (.int (nI W.nine)), some (.int (nI 0)), some (.ref 48), some (.ref 34), none, none]) (st' := [.int (σ 48 2)]) (σ' := σ) (fun f => rfl) ?_
  refine pi_tp (y := nI (W.si 0)) (hR.k.p.ss0.trans (z_sz_f hq1)) ?_
  refine pi_go 3 (pc' := 60) (l' := [some (.ref 0), some (.int (nI W.nine)), some (.int (nI 0)), some (.ref 48), some (.ref 34), none, none]) (st' := [.int (σ 1 8), .int (nI (W.si 0))]) (σ' := σ) (fun f => rfl) ?_
  refine pi_tp (y := nI W.nd) (hR.k.t.d) ?_
  refine pi_go 1 (pc' := 63) (l' := [some (.ref 0), some (.int (nI W.nine)), some (.int (nI 0)), some (.ref 48), some (.ref 34), none, none]) (st' := [.int (if nI W.nd < nI (W.si 0) then nI W.nd else nI (W.si 0))]) (σ' := σ) (fun f => rfl) ?_
  refine pi_tp (y := nI N) (z_min_N (by omega) (by omega) hN) ?_
  refine pi_go 3 (pc' := 68) (l' := [some (.ref 0), some (.int (nI W.nine)), some (.int (nI 0)), some (.ref 48), some (.ref 34), some (.int (nI N)), some (.int (nI 0))]) (st' := []) (σ' := σ) (fun f => rfl) ?_
  have hcr0 : z_CR W σ := hR
  have hfb : σ 35 = (z_A W).1.1.1 := hR.b
  have hfr0 : pi_fr z_CC σ σ := pi_fr_rf
  suffices hl1 : ∀ q9, q9 ≤ N → ∀ (z1 : pi_S), pi_fr z_CC z1 σ → (pi_fr [49] z1 σ ∧ ∀ j, j < 48 → z1 49 j = z_wr W 0 ((z_A W).1.1.1) q9 (48 * 0 + j)) → pi_wp xs L (d + 9) 91 68 [some (.ref 0), some (.int (nI W.nine)), some (.int (nI 0)), some (.ref 48), some (.ref 34), some (.int (nI N)), some (.int (nI q9))] [] z1 (fun v s => v = some (.int (nI N)) ∧ z_CR (W.sI 9 (z_wr W 0 ((z_A W).1.1.1) N)) s ∧ pi_fr z_CC s σ) from hl1 0 (by omega) _ (pi_fr_rf) (⟨pi_fr_rf, hcr0.k.p.si0⟩)
  refine pi_lp0 ?_ ?_
  · intro z1 hrz1 hx1
    refine pi_ct 3 (c := nI N ≤ nI N) (pc' := 94) (l' := [some (.ref 0), some (.int (nI W.nine)), some (.int (nI 0)), some (.ref 48), some (.ref 34), some (.int (nI N)), some (.int (nI N))]) (st' := []) (σ' := z1) (pc2 := 75) (l2 := [some (.ref 0), some (.int (nI W.nine)), some (.int (nI 0)), some (.ref 48), some (.ref 34), some (.int (nI N)), some (.int (nI N))]) (st2 := []) (σ2 := z1) (fun f => rfl) ((show nI N ≤ nI N ↔ _ from nI_leI (by omega) (by omega)).mpr (by omega)) ?_
    refine pi_rt 2 (v := some (.int (nI N))) (σ' := z1) (fun f => rfl) ?_
    exact ⟨rfl, hcr0.it0 hx1.2 (z_wr_o N (by omega)) hx1.1, pi_fr_tr hrz1 (by decide) (pi_fr_rf)⟩
  · intro q9 hi1 ih1 z1 hrz1 hx1
    refine pi_cf 3 (c := nI N ≤ nI q9) (pc' := 75) (l' := [some (.ref 0), some (.int (nI W.nine)), some (.int (nI 0)), some (.ref 48), some (.ref 34), some (.int (nI N)), some (.int (nI q9))]) (st' := []) (σ' := z1) (pc2 := 94) (l2 := [some (.ref 0), some (.int (nI W.nine)), some (.int (nI 0)), some (.ref 48), some (.ref 34), some (.int (nI N)), some (.int (nI q9))]) (st2 := []) (σ2 := z1) (fun f => rfl) (fun zq => absurd ((show nI N ≤ nI q9 ↔ _ from nI_leI (by omega) (by omega)).mp zq) (by omega)) ?_
    refine pi_ca 5 (m' := 23) (l' := [some (.ref 34), some (.int (nI q9)), none, none]) (σ' := z1) (pc2 := 85) (l2 := [some (.ref 0), some (.int (nI W.nine)), some (.int (nI 0)), some (.ref 48), some (.ref 34), some (.int (nI N)), some (.int (nI q9))]) (t := [.int (nI q9), .ref 48]) (fun f => rfl) (pi_C_all_c (by omega)) ?_
    rintro _ _ ⟨rfl, rfl⟩
    refine pi_tp (y := z_all ((z_A W).1.1.1) q9) (congrArg (fun z => z_all z q9) ((hx1.1 35 (by decide)).trans hfb)) ?_
    refine pi_ca 1 (m' := 41) (l' := [some (.ref 48), some (.int (nI q9)), some (.int (z_all ((z_A W).1.1.1) q9))]) (σ' := z1) (pc2 := 88) (l2 := [some (.ref 0), some (.int (nI W.nine)), some (.int (nI 0)), some (.ref 48), some (.ref 34), some (.int (nI N)), some (.int (nI q9))]) (t := []) (fun f => rfl) (pi_C_store0 (W := W) ((congrFun (hx1.1 48 (by decide)) 1).trans (hcr0.k.p.sf0)) (hk.si 0 (by omega)).2.1 ((congrFun (hx1.1 48 (by decide)) 2).trans (hcr0.k.p.ss0.trans (z_sz_f hq1))) (hk.si 0 (by omega)).1 (i := q9) (by omega) (z_all ((z_A W).1.1.1) q9)) ?_
    rintro _ t2 ⟨rfl, et2, rt2⟩
    refine pi_go 1 (pc' := 91) (l' := [some (.ref 0), some (.int (nI W.nine)), some (.int (nI 0)), some (.ref 48), some (.ref 34), some (.int (nI N)), some (.int (nI q9 + nI 1))]) (st' := []) (σ' := t2) (fun f => rfl) ?_
    rw [show nI q9 + nI 1 = nI (q9 + 1) from nI_add _ 1]
    refine pi_go 1 (pc' := 68) (l' := [some (.ref 0), some (.int (nI W.nine)), some (.int (nI 0)), some (.ref 48), some (.ref 34), some (.int (nI N)), some (.int (nI (q9 + 1)))]) (st' := []) (σ' := t2) (fun f => rfl) ?_
    exact ih1 _ (pi_fr_tr rt2 (by decide) (pi_fr_tr hrz1 (by decide) (pi_fr_rf))) (⟨pi_fr_tr rt2 (by decide) (hx1.1), fun j hj => (congrFun (et2) j).trans (z_wr_st rfl hx1.2 j hj)⟩)
set_option maxRecDepth 20000 in
theorem pi_X_write0t {xs : Nat → Int32} {L d : Nat} {W : zW} {σ : pi_S} (hR : z_CR W σ) {mi : Nat} (hmi : mi < W.nine) (hq1 : ¬ W.th 0 = 0) {N : Nat} (hN : N ≤ W.si 0 ∧ N ≤ W.nd ∧ (N = W.si 0 ∨ N = W.nd))  : pi_wp xs L (d + 9) 91 0 [some (.ref 0), some (.int (nI mi)), some (.int (nI 0)), none, none, none, none] [] σ (fun v s => v = some (.int (nI N)) ∧ z_CR (W.sI 9 (z_wr W 0 ((z_R W (-1) (-1) 0 (fun _ => 0) (mi + 1)).1.1.1) N)) s ∧ pi_fr z_CC s σ) := by
  have hk := hR.k.p.wk
  have hnd8 := hk.wd.nd8
  have hns12 := hk.wd.ns12
  have hn60 := hk.nine
  have hnf := hk.nf
  have hnw := hk.nw
  have hnc := hk.nc
  have hn08 := hk.wd.n0
  have hn140 := hk.wd.n1
  have hsi := hk.si 0 (by omega)
  refine pi_ca 3 (m' := 95) (l' := [some (.ref 0), some (.int (nI mi))]) (σ' := σ) (pc2 := 5) (l2 := [some (.ref 0), some (.int (nI mi)), some (.int (nI 0)), none, none, none, none]) (t := []) (fun f => rfl) (pi_C_toNineT hR.k (by omega)) ?_
  rintro _ _ ⟨rfl, rfl⟩
  refine pi_cf 1 (c := nI 1 = 0) (pc' := 8) (l' := [some (.ref 0), some (.int (nI mi)), some (.int (nI 0)), none, none, none, none]) (st' := []) (σ' := σ) (pc2 := 16) (l2 := [some (.ref 0), some (.int (nI mi)), some (.int (nI 0)), none, none, none, none]) (st2 := []) (σ2 := σ) (fun f => rfl) (by decide) ?_
  refine pi_ca 3 (m' := 94) (l' := [some (.int (nI 0)), some (.int (nI 4))]) (σ' := σ) (pc2 := 13) (l2 := [some (.ref 0), some (.int (nI mi)), some (.int (nI 0)), none, none, none, none]) (t := []) (fun f => rfl) (pi_below1 _ _ (z_BL (by omega) (by omega))) ?_
  rintro _ _ ⟨rfl, rfl⟩
  refine pi_cf 1 (c := nI 1 = 0) (pc' := 19) (l' := [some (.ref 0), some (.int (nI mi)), some (.int (nI 0)), none, none, none, none]) (st' := []) (σ' := σ) (pc2 := 16) (l2 := [some (.ref 0), some (.int (nI mi)), some (.int (nI 0)), none, none, none, none]) (st2 := []) (σ2 := σ) (fun f => rfl) (by decide) ?_
  refine pi_aq 4 (u := 0) (n := 4) (a := 47) (c := 48) (pc' := 25) (l' := [some (.ref 0), some (.int (nI mi)), some (.int (nI 0)), none, none, none, none]) (t := []) (σ' := σ) (fun f => rfl) (by omega) (by omega) rfl ?_
  refine pi_ca 3 (m' := 36) (l' := [some (.ref 48)]) (σ' := σ) (pc2 := 30) (l2 := [some (.ref 0), some (.int (nI mi)), some (.int (nI 0)), some (.ref 48), none, none, none]) (t := []) (fun f => rfl) (pi_C_lost0_f hR.k hq1) ?_
  rintro _ _ ⟨rfl, rfl⟩
  refine pi_ct 1 (c := nI 0 = 0) (pc' := 39) (l' := [some (.ref 0), some (.int (nI mi)), some (.int (nI 0)), some (.ref 48), none, none, none]) (st' := []) (σ' := σ) (pc2 := 33) (l2 := [some (.ref 0), some (.int (nI mi)), some (.int (nI 0)), some (.ref 48), none, none, none]) (st2 := []) (σ2 := σ) (fun f => rfl) (by decide) ?_
  refine pi_ca 3 (m' := 98) (l' := [some (.ref 0), some (.int (nI mi))]) (σ' := σ) (pc2 := 44) (l2 := [some (.ref 0), some (.int (nI mi)), some (.int (nI 0)), some (.ref 48), none, none, none]) (t := []) (fun f => rfl) (pi_C_behind_t hR (by omega)) ?_
  rintro _ t1 ⟨rfl, et1_1, et1_2, gt1, rt1⟩
  refine pi_go 4 (pc' := 53) (l' := [some (.ref 0), some (.int (nI mi)), some (.int (nI 0)), some (.ref 48), some (.ref 38), none, none]) (st' := [.int (t1 48 2)]) (σ' := t1) (fun f => rfl) ?_
  refine pi_tp (y := nI (W.si 0)) ((congrFun (rt1 48 (by decide)) 2).trans (hR.k.p.ss0.trans (z_sz_f hq1))) ?_
  refine pi_go 3 (pc' := 60) (l' := [some (.ref 0), some (.int (nI mi)), some (.int (nI 0)), some (.ref 48), some (.ref 38), none, none]) (st' := [.int (t1 1 8), .int (nI (W.si 0))]) (σ' := t1) (fun f => rfl) ?_
  refine pi_tp (y := nI W.nd) ((congrFun (rt1 1 (by decide)) 8).trans (hR.k.t.d)) ?_
  refine pi_go 1 (pc' := 63) (l' := [some (.ref 0), some (.int (nI mi)), some (.int (nI 0)), some (.ref 48), some (.ref 38), none, none]) (st' := [.int (if nI W.nd < nI (W.si 0) then nI W.nd else nI (W.si 0))]) (σ' := t1) (fun f => rfl) ?_
  refine pi_tp (y := nI N) (z_min_N (by omega) (by omega) hN) ?_
  refine pi_go 3 (pc' := 68) (l' := [some (.ref 0), some (.int (nI mi)), some (.int (nI 0)), some (.ref 48), some (.ref 38), some (.int (nI N)), some (.int (nI 0))]) (st' := []) (σ' := t1) (fun f => rfl) ?_
  have hcr0 : z_CR W t1 := gt1
  have hfb : t1 39 = (z_R W (-1) (-1) 0 (fun _ => 0) (mi + 1)).1.1.1 := et1_1
  have hfr0 : pi_fr z_CC t1 σ := pi_fr_tr rt1 (by decide) (pi_fr_rf)
  suffices hl2 : ∀ q9, q9 ≤ N → ∀ (z2 : pi_S), pi_fr z_CC z2 σ → (pi_fr [49] z2 t1 ∧ ∀ j, j < 48 → z2 49 j = z_wr W 0 ((z_R W (-1) (-1) 0 (fun _ => 0) (mi + 1)).1.1.1) q9 (48 * 0 + j)) → pi_wp xs L (d + 9) 91 68 [some (.ref 0), some (.int (nI mi)), some (.int (nI 0)), some (.ref 48), some (.ref 38), some (.int (nI N)), some (.int (nI q9))] [] z2 (fun v s => v = some (.int (nI N)) ∧ z_CR (W.sI 9 (z_wr W 0 ((z_R W (-1) (-1) 0 (fun _ => 0) (mi + 1)).1.1.1) N)) s ∧ pi_fr z_CC s σ) from hl2 0 (by omega) _ (pi_fr_tr rt1 (by decide) (pi_fr_rf)) (⟨pi_fr_rf, hcr0.k.p.si0⟩)
  refine pi_lp0 ?_ ?_
  · intro z2 hrz2 hx2
    refine pi_ct 3 (c := nI N ≤ nI N) (pc' := 94) (l' := [some (.ref 0), some (.int (nI mi)), some (.int (nI 0)), some (.ref 48), some (.ref 38), some (.int (nI N)), some (.int (nI N))]) (st' := []) (σ' := z2) (pc2 := 75) (l2 := [some (.ref 0), some (.int (nI mi)), some (.int (nI 0)), some (.ref 48), some (.ref 38), some (.int (nI N)), some (.int (nI N))]) (st2 := []) (σ2 := z2) (fun f => rfl) ((show nI N ≤ nI N ↔ _ from nI_leI (by omega) (by omega)).mpr (by omega)) ?_
    refine pi_rt 2 (v := some (.int (nI N))) (σ' := z2) (fun f => rfl) ?_
    exact ⟨rfl, hcr0.it0 hx2.2 (z_wr_o N (by omega)) hx2.1, pi_fr_tr hrz2 (by decide) (pi_fr_rf)⟩
  · intro q9 hi2 ih2 z2 hrz2 hx2
    refine pi_cf 3 (c := nI N ≤ nI q9) (pc' := 75) (l' := [some (.ref 0), some (.int (nI mi)), some (.int (nI 0)), some (.ref 48), some (.ref 38), some (.int (nI N)), some (.int (nI q9))]) (st' := []) (σ' := z2) (pc2 := 94) (l2 := [some (.ref 0), some (.int (nI mi)), some (.int (nI 0)), some (.ref 48), some (.ref 38), some (.int (nI N)), some (.int (nI q9))]) (st2 := []) (σ2 := z2) (fun f => rfl) (fun zq => absurd ((show nI N ≤ nI q9 ↔ _ from nI_leI (by omega) (by omega)).mp zq) (by omega)) ?_
    refine pi_ca 5 (m' := 23) (l' := [some (.ref 38), some (.int (nI q9)), none, none]) (σ' := z2) (pc2 := 85) (l2 := [some (.ref 0), some (.int (nI mi)), some (.int (nI 0)), some (.ref 48), some (.ref 38), some (.int (nI N)), some (.int (nI q9))]) (t := [.int (nI q9), .ref 48]) (fun f => rfl) (pi_C_all_t (by omega)) ?_
    rintro _ _ ⟨rfl, rfl⟩
    refine pi_tp (y := z_all ((z_R W (-1) (-1) 0 (fun _ => 0) (mi + 1)).1.1.1) q9) (congrArg (fun z => z_all z q9) ((hx2.1 39 (by decide)).trans hfb)) ?_
    refine pi_ca 1 (m' := 41) (l' := [some (.ref 48), some (.int (nI q9)), some (.int (z_all ((z_R W (-1) (-1) 0 (fun _ => 0) (mi + 1)).1.1.1) q9))]) (σ' := z2) (pc2 := 88) (l2 := [some (.ref 0), some (.int (nI mi)), some (.int (nI 0)), some (.ref 48), some (.ref 38), some (.int (nI N)), some (.int (nI q9))]) (t := []) (fun f => rfl) (pi_C_store0 (W := W) ((congrFun (hx2.1 48 (by decide)) 1).trans (hcr0.k.p.sf0)) (hk.si 0 (by omega)).2.1 ((congrFun (hx2.1 48 (by decide)) 2).trans (hcr0.k.p.ss0.trans (z_sz_f hq1))) (hk.si 0 (by omega)).1 (i := q9) (by omega) (z_all ((z_R W (-1) (-1) 0 (fun _ => 0) (mi + 1)).1.1.1) q9)) ?_
    rintro _ t3 ⟨rfl, et3, rt3⟩
    refine pi_go 1 (pc' := 91) (l' := [some (.ref 0), some (.int (nI mi)), some (.int (nI 0)), some (.ref 48), some (.ref 38), some (.int (nI N)), some (.int (nI q9 + nI 1))]) (st' := []) (σ' := t3) (fun f => rfl) ?_
    rw [show nI q9 + nI 1 = nI (q9 + 1) from nI_add _ 1]
    refine pi_go 1 (pc' := 68) (l' := [some (.ref 0), some (.int (nI mi)), some (.int (nI 0)), some (.ref 48), some (.ref 38), some (.int (nI N)), some (.int (nI (q9 + 1)))]) (st' := []) (σ' := t3) (fun f => rfl) ?_
    exact ih2 _ (pi_fr_tr rt3 (by decide) (pi_fr_tr hrz2 (by decide) (pi_fr_rf))) (⟨pi_fr_tr rt3 (by decide) (hx2.1), fun j hj => (congrFun (et3) j).trans (z_wr_st rfl hx2.2 j hj)⟩)
set_option maxRecDepth 20000 in
theorem pi_C_readH1 {xs : Nat → Int32} {L d : Nat} {W : zW} {σ : pi_S} (hc : z_CK W σ) {N : Nat} (hq1 : ¬ W.th 1 = 0) (hrs : z_rs W 1 N)  : pi_wp xs L (d + 2) 29 0 [some (.ref 12), some (.ref 50), none] [] σ (fun v s => v = some (.int (nI N)) ∧ (∀ j, j < 8 → s 14 j = z_rh W 1 N j) ∧ pi_fr [14] s σ) := by
  have hk := hc.p.wk
  have hnd8 := hk.wd.nd8
  have hns12 := hk.wd.ns12
  have hn60 := hk.nine
  have hnf := hk.nf
  have hnw := hk.nw
  have hnc := hk.nc
  have hn08 := hk.wd.n0
  have hn140 := hk.wd.n1
  have hsi := hk.si 1 (by omega)
  refine pi_go 2 (pc' := 2) (l' := [some (.ref 12), some (.ref 50), some (.int (nI 0))]) (st' := []) (σ' := σ) (fun f => rfl) ?_
  suffices hl1 : ∀ i, i ≤ N → ∀ (z1 : pi_S), pi_fr [14] z1 σ → (∀ j, j < 8 → z1 14 j = z_rh W 1 i j) → pi_wp xs L (d + 2) 29 2 [some (.ref 12), some (.ref 50), some (.int (nI i))] [] z1 (fun v s => v = some (.int (nI N)) ∧ (∀ j, j < 8 → s 14 j = z_rh W 1 N j) ∧ pi_fr [14] s σ) from hl1 0 (by omega) _ (pi_fr_rf) (hc.p.hd)
  refine pi_lp0 ?_ ?_
  · intro z1 hrz1 hx1
    have hi8 : N ≤ 8 ∧ N ≤ W.si 1 := ⟨hrs.1, hrs.2.1⟩
    refine pi_if 3 (c := nI 8 ≤ nI N) (pc' := 44) (l' := [some (.ref 12), some (.ref 50), some (.int (nI N))]) (st' := []) (σ' := z1) (pc2 := 8) (l2 := [some (.ref 12), some (.ref 50), some (.int (nI N))]) (st2 := []) (σ2 := z1) (fun f => rfl) (fun h1 => ?_) (fun h1 => ?_)
    · replace h1 : 8 ≤ N := (nI_leI (by omega) (by omega)).mp h1
      refine pi_rt 2 (v := some (.int (nI N))) (σ' := z1) (fun f => rfl) ?_
      exact ⟨rfl, hx1, pi_fr_tr hrz1 (by decide) (pi_fr_rf)⟩
    · replace h1 : ¬ (8 ≤ N) := fun zq => h1 ((nI_leI (by omega) (by omega)).mpr zq)
      refine pi_go 3 (pc' := 13) (l' := [some (.ref 12), some (.ref 50), some (.int (nI N))]) (st' := [.int (z1 50 2), .int (nI N)]) (σ' := z1) (fun f => rfl) ?_
      refine pi_tp (y := nI (W.si 1)) ((congrFun (hrz1 50 (by decide)) 2).trans (hc.p.ss1.trans (z_sz_f hq1))) ?_
      refine pi_if 1 (c := nI (W.si 1) ≤ nI N) (pc' := 44) (l' := [some (.ref 12), some (.ref 50), some (.int (nI N))]) (st' := []) (σ' := z1) (pc2 := 16) (l2 := [some (.ref 12), some (.ref 50), some (.int (nI N))]) (st2 := []) (σ2 := z1) (fun f => rfl) (fun h2 => ?_) (fun h2 => ?_)
      · replace h2 : (W.si 1) ≤ N := (nI_leI (by omega) (by omega)).mp h2
        refine pi_rt 2 (v := some (.int (nI N))) (σ' := z1) (fun f => rfl) ?_
        exact ⟨rfl, hx1, pi_fr_tr hrz1 (by decide) (pi_fr_rf)⟩
      · replace h2 : ¬ ((W.si 1) ≤ N) := fun zq => h2 ((nI_leI (by omega) (by omega)).mpr zq)
        refine pi_ca 3 (m' := 40) (l' := [some (.ref 50), some (.int (nI N))]) (σ' := z1) (pc2 := 21) (l2 := [some (.ref 12), some (.ref 50), some (.int (nI N))]) (t := []) (fun f => rfl) (pi_C_itemAt1 (W := W) (i := N) ((congrFun (hrz1 50 (by decide)) 2).trans (hc.p.ss1.trans (z_sz_f hq1))) (hk.si 1 (by omega)).1 ((congrFun (hrz1 51 (by decide)) N).trans ((hc.p.si1 N (by omega)))) (by omega)) ?_
        rintro _ _ ⟨rfl, rfl⟩
        refine pi_ca 1 (m' := 28) (l' := [some (.int (W.it (48 * 1 + N)))]) (σ' := z1) (pc2 := 24) (l2 := [some (.ref 12), some (.ref 50), some (.int (nI N))]) (t := []) (fun f => rfl) (pi_C_isHold (W.it (48 * 1 + N))) ?_
        rintro _ _ (⟨b3, rfl, rfl⟩ | ⟨b3, rfl, rfl⟩)
        · refine pi_cf 1 (c := nI 1 = 0) (pc' := 27) (l' := [some (.ref 12), some (.ref 50), some (.int (nI N))]) (st' := []) (σ' := z1) (pc2 := 44) (l2 := [some (.ref 12), some (.ref 50), some (.int (nI N))]) (st2 := []) (σ2 := z1) (fun f => rfl) (by decide) ?_
          exact absurd hrs.2.2.2 (fun q => q.elim (fun q => absurd q (by omega)) (fun q => q.elim (fun q => absurd q (by omega)) (fun q => q b3)))
        · refine pi_ct 1 (c := nI 0 = 0) (pc' := 44) (l' := [some (.ref 12), some (.ref 50), some (.int (nI N))]) (st' := []) (σ' := z1) (pc2 := 27) (l2 := [some (.ref 12), some (.ref 50), some (.int (nI N))]) (st2 := []) (σ2 := z1) (fun f => rfl) (by decide) ?_
          refine pi_rt 2 (v := some (.int (nI N))) (σ' := z1) (fun f => rfl) ?_
          exact ⟨rfl, hx1, pi_fr_tr hrz1 (by decide) (pi_fr_rf)⟩
  · intro i hi1 ih1 z1 hrz1 hx1
    have hj : z_B 100 (W.it (48 * 1 + i)) := hrs.2.2.1 i hi1
    have hi8 : i < 8 ∧ i < W.si 1 := ⟨by have := hrs.1; omega, by have := hrs.2.1; omega⟩
    refine pi_cf 3 (c := nI 8 ≤ nI i) (pc' := 8) (l' := [some (.ref 12), some (.ref 50), some (.int (nI i))]) (st' := []) (σ' := z1) (pc2 := 44) (l2 := [some (.ref 12), some (.ref 50), some (.int (nI i))]) (st2 := []) (σ2 := z1) (fun f => rfl) (fun zq => absurd ((show nI 8 ≤ nI i ↔ _ from nI_leI (by omega) (by omega)).mp zq) (by omega)) ?_
    refine pi_go 3 (pc' := 13) (l' := [some (.ref 12), some (.ref 50), some (.int (nI i))]) (st' := [.int (z1 50 2), .int (nI i)]) (σ' := z1) (fun f => rfl) ?_
    refine pi_tp (y := nI (W.si 1)) ((congrFun (hrz1 50 (by decide)) 2).trans (hc.p.ss1.trans (z_sz_f hq1))) ?_
    refine pi_cf 1 (c := nI (W.si 1) ≤ nI i) (pc' := 16) (l' := [some (.ref 12), some (.ref 50), some (.int (nI i))]) (st' := []) (σ' := z1) (pc2 := 44) (l2 := [some (.ref 12), some (.ref 50), some (.int (nI i))]) (st2 := []) (σ2 := z1) (fun f => rfl) (fun zq => absurd ((show nI (W.si 1) ≤ nI i ↔ _ from nI_leI (by omega) (by omega)).mp zq) (by omega)) ?_
    refine pi_ca 3 (m' := 40) (l' := [some (.ref 50), some (.int (nI i))]) (σ' := z1) (pc2 := 21) (l2 := [some (.ref 12), some (.ref 50), some (.int (nI i))]) (t := []) (fun f => rfl) (pi_C_itemAt1 (W := W) (i := i) ((congrFun (hrz1 50 (by decide)) 2).trans (hc.p.ss1.trans (z_sz_f hq1))) (hk.si 1 (by omega)).1 ((congrFun (hrz1 51 (by decide)) i).trans ((hc.p.si1 i (by omega)))) (by omega)) ?_
    rintro _ _ ⟨rfl, rfl⟩
    refine pi_ca 1 (m' := 28) (l' := [some (.int (W.it (48 * 1 + i)))]) (σ' := z1) (pc2 := 24) (l2 := [some (.ref 12), some (.ref 50), some (.int (nI i))]) (t := []) (fun f => rfl) (pi_C_isHoldT hj) ?_
    rintro _ _ ⟨rfl, rfl⟩
    refine pi_cf 1 (c := nI 1 = 0) (pc' := 27) (l' := [some (.ref 12), some (.ref 50), some (.int (nI i))]) (st' := []) (σ' := z1) (pc2 := 44) (l2 := [some (.ref 12), some (.ref 50), some (.int (nI i))]) (st2 := []) (σ2 := z1) (fun f => rfl) (by decide) ?_
    refine pi_ca 6 (m' := 40) (l' := [some (.ref 50), some (.int (nI i))]) (σ' := z1) (pc2 := 37) (l2 := [some (.ref 12), some (.ref 50), some (.int (nI i))]) (t := [.int (nI i), .ref 14]) (fun f => rfl) (pi_C_itemAt1 (W := W) (i := i) ((congrFun (hrz1 50 (by decide)) 2).trans (hc.p.ss1.trans (z_sz_f hq1))) (hk.si 1 (by omega)).1 ((congrFun (hrz1 51 (by decide)) i).trans ((hc.p.si1 i (by omega)))) (by omega)) ?_
    rintro _ _ ⟨rfl, rfl⟩
    refine pi_au 1 (u := i) (n := 8) (a := 14) (x := W.it (48 * 1 + i)) (pc' := 38) (l' := [some (.ref 12), some (.ref 50), some (.int (nI i))]) (t := []) (σ' := z1) (fun f => rfl) (by omega) (by omega) ?_
    generalize es2 : pi_up z1 14 i (W.it (48 * 1 + i)) = s2
    refine pi_go 1 (pc' := 41) (l' := [some (.ref 12), some (.ref 50), some (.int (nI i + nI 1))]) (st' := []) (σ' := s2) (fun f => rfl) ?_
    rw [show nI i + nI 1 = nI (i + 1) from nI_add _ 1]
    refine pi_go 1 (pc' := 2) (l' := [some (.ref 12), some (.ref 50), some (.int (nI (i + 1)))]) (st' := []) (σ' := s2) (fun f => rfl) ?_
    exact ih1 _ (pi_fr_of es2 (by decide) (pi_fr_tr hrz1 (by decide) (pi_fr_rf))) ((fun j hj8 => (congrFun ((congrFun es2 14).symm.trans ((pi_up_self _ _ _ _))) j).trans (z_upd_c (hx1 j hj8))))
set_option maxRecDepth 20000 in
theorem pi_X_read1_null {xs : Nat → Int32} {L d : Nat} {W : zW} {σ : pi_S} (hR : z_CR W σ) (hq0 : W.th 1 = 0)  : pi_wp xs L (d + 9) 67 0 [some (.ref 0), some (.int (nI 1)), none] [] σ (fun v s => v = some (.int ((-10) - (nI 1))) ∧ z_CR (W.sS 0 (nI 1)) s ∧ pi_fr z_CC s σ) := by
  have hk := hR.k.p.wk
  have hnd8 := hk.wd.nd8
  have hns12 := hk.wd.ns12
  have hn60 := hk.nine
  have hnf := hk.nf
  have hnw := hk.nw
  have hnc := hk.nc
  have hn08 := hk.wd.n0
  have hn140 := hk.wd.n1
  refine pi_ca 3 (m' := 94) (l' := [some (.int (nI 1)), some (.int (nI 4))]) (σ' := σ) (pc2 := 5) (l2 := [some (.ref 0), some (.int (nI 1)), none]) (t := []) (fun f => rfl) (pi_below1 _ _ (z_BL (by omega) (by omega))) ?_
  rintro _ _ ⟨rfl, rfl⟩
  refine pi_cf 1 (c := nI 1 = 0) (pc' := 11) (l' := [some (.ref 0), some (.int (nI 1)), none]) (st' := []) (σ' := σ) (pc2 := 8) (l2 := [some (.ref 0), some (.int (nI 1)), none]) (st2 := []) (σ2 := σ) (fun f => rfl) (by decide) ?_
  refine pi_aq 4 (u := 1) (n := 4) (a := 47) (c := 50) (pc' := 17) (l' := [some (.ref 0), some (.int (nI 1)), none]) (t := []) (σ' := σ) (fun f => rfl) (by omega) (by omega) rfl ?_
  refine pi_ca 3 (m' := 36) (l' := [some (.ref 50)]) (σ' := σ) (pc2 := 22) (l2 := [some (.ref 0), some (.int (nI 1)), some (.ref 50)]) (t := []) (fun f => rfl) (pi_C_lost1_t hR.k hq0) ?_
  rintro _ _ ⟨rfl, rfl⟩
  refine pi_cf 1 (c := nI 1 = 0) (pc' := 25) (l' := [some (.ref 0), some (.int (nI 1)), some (.ref 50)]) (st' := []) (σ' := σ) (pc2 := 31) (l2 := [some (.ref 0), some (.int (nI 1)), some (.ref 50)]) (st2 := []) (σ2 := σ) (fun f => rfl) (by decide) ?_
  refine pi_ca 3 (m' := 96) (l' := [some (.ref 0), some (.int (nI 1))]) (σ' := σ) (pc2 := 30) (l2 := [some (.ref 0), some (.int (nI 1)), some (.ref 50)]) (t := []) (fun f => rfl) (pi_C_found (nI 1)) ?_
  rintro _ t1 ⟨rfl, et1, kt1, rt1⟩
  refine pi_rt 1 (v := some (.int ((-10) - (nI 1)))) (σ' := t1) (fun f => rfl) ?_
  have hfr : pi_fr [0] t1 σ := pi_fr_tr rt1 (by decide) (pi_fr_rf)
  exact ⟨rfl, hR.fnd (et1) hfr, pi_fr_tr hfr (by decide) pi_fr_rf⟩
set_option maxRecDepth 20000 in
theorem pi_X_read1 {xs : Nat → Int32} {L d : Nat} {W : zW} {σ : pi_S} (hR : z_CR W σ) {N : Nat} (hq1 : ¬ W.th 1 = 0) (hrs : z_rs W 1 N)  : pi_wp xs L (d + 9) 67 0 [some (.ref 0), some (.int (nI 1)), none] [] σ (fun v s => v = some (.int (nI N)) ∧ z_CR (W.sI 2 (z_rh W 1 N)) s ∧ pi_fr z_CC s σ) := by
  have hk := hR.k.p.wk
  have hnd8 := hk.wd.nd8
  have hns12 := hk.wd.ns12
  have hn60 := hk.nine
  have hnf := hk.nf
  have hnw := hk.nw
  have hnc := hk.nc
  have hn08 := hk.wd.n0
  have hn140 := hk.wd.n1
  refine pi_ca 3 (m' := 94) (l' := [some (.int (nI 1)), some (.int (nI 4))]) (σ' := σ) (pc2 := 5) (l2 := [some (.ref 0), some (.int (nI 1)), none]) (t := []) (fun f => rfl) (pi_below1 _ _ (z_BL (by omega) (by omega))) ?_
  rintro _ _ ⟨rfl, rfl⟩
  refine pi_cf 1 (c := nI 1 = 0) (pc' := 11) (l' := [some (.ref 0), some (.int (nI 1)), none]) (st' := []) (σ' := σ) (pc2 := 8) (l2 := [some (.ref 0), some (.int (nI 1)), none]) (st2 := []) (σ2 := σ) (fun f => rfl) (by decide) ?_
  refine pi_aq 4 (u := 1) (n := 4) (a := 47) (c := 50) (pc' := 17) (l' := [some (.ref 0), some (.int (nI 1)), none]) (t := []) (σ' := σ) (fun f => rfl) (by omega) (by omega) rfl ?_
  refine pi_ca 3 (m' := 36) (l' := [some (.ref 50)]) (σ' := σ) (pc2 := 22) (l2 := [some (.ref 0), some (.int (nI 1)), some (.ref 50)]) (t := []) (fun f => rfl) (pi_C_lost1_f hR.k hq1) ?_
  rintro _ _ ⟨rfl, rfl⟩
  refine pi_ct 1 (c := nI 0 = 0) (pc' := 31) (l' := [some (.ref 0), some (.int (nI 1)), some (.ref 50)]) (st' := []) (σ' := σ) (pc2 := 25) (l2 := [some (.ref 0), some (.int (nI 1)), some (.ref 50)]) (st2 := []) (σ2 := σ) (fun f => rfl) (by decide) ?_
  refine pi_ca 5 (m' := 29) (l' := [some (.ref 12), some (.ref 50), none]) (σ' := σ) (pc2 := 40) (l2 := [some (.ref 0), some (.int (nI 1)), some (.ref 50)]) (t := [.ref 0]) (fun f => rfl) (pi_C_readH1 hR.k hq1 hrs) ?_
  rintro _ t1 ⟨rfl, et1, rt1⟩
  have hcp : z_CP (W.sI 2 (z_rh W 1 N)) t1 := hR.k.p.re (z_rh_b hk hrs) et1 (pi_fr_tr rt1 (by decide) (pi_fr_rf))
  have hct : z_CT (W.sI 2 (z_rh W 1 N)) t1 := (hR.k.t.of2 (pi_fr_tr rt1 (by decide) (pi_fr_rf)) : z_CT W t1)
  have hck := z_CK.mk hcp hct
  refine pi_ca 1 (m' := 97) (l' := [some (.ref 0), some (.int (nI N))]) (σ' := t1) (pc2 := 43) (l2 := [some (.ref 0), some (.int (nI 1)), some (.ref 50)]) (t := []) (fun f => rfl) (pi_C_settled hck (hR.tl.of (pi_fr_tr rt1 (by decide) (pi_fr_rf))) (nI N)) ?_
  rintro _ t2 ⟨rfl, gt2, rt2⟩
  refine pi_rt 1 (v := some (.int (nI N))) (σ' := t2) (fun f => rfl) ?_
  exact ⟨rfl, gt2, pi_fr_tr rt2 (by decide) (pi_fr_tr rt1 (by decide) (pi_fr_rf))⟩
set_option maxRecDepth 20000 in
theorem pi_X_sheet1 {xs : Nat → Int32} {L d : Nat} {W : zW} {σ : pi_S} (hR : z_CR W σ) {f n : Nat} (hf3 : f < 3) (hn : n ≤ 48)  : pi_wp xs L (d + 9) 86 0 [some (.ref 0), some (.int (nI 1)), some (.int (nI f)), some (.int (nI n))] [] σ (fun v s => v = some (.int (nI n)) ∧ z_CR ((((W.sF 8 (z_u W.th 1 1)).sF 4 (z_u W.fo 1 f)).sF 5 (z_u W.si 1 n)).sI 9 (z_c48 1 48 W.it)) s ∧ pi_fr z_CC s σ) := by
  have hk := hR.k.p.wk
  have hnd8 := hk.wd.nd8
  have hns12 := hk.wd.ns12
  have hn60 := hk.nine
  have hnf := hk.nf
  have hnw := hk.nw
  have hnc := hk.nc
  have hn08 := hk.wd.n0
  have hn140 := hk.wd.n1
  refine pi_ca 3 (m' := 94) (l' := [some (.int (nI 1)), some (.int (nI 4))]) (σ' := σ) (pc2 := 5) (l2 := [some (.ref 0), some (.int (nI 1)), some (.int (nI f)), some (.int (nI n))]) (t := []) (fun f => rfl) (pi_below1 _ _ (z_BL (by omega) (by omega))) ?_
  rintro _ _ ⟨rfl, rfl⟩
  refine pi_cf 1 (c := nI 1 = 0) (pc' := 8) (l' := [some (.ref 0), some (.int (nI 1)), some (.int (nI f)), some (.int (nI n))]) (st' := []) (σ' := σ) (pc2 := 22) (l2 := [some (.ref 0), some (.int (nI 1)), some (.int (nI f)), some (.int (nI n))]) (st2 := []) (σ2 := σ) (fun f => rfl) (by decide) ?_
  refine pi_ca 3 (m' := 94) (l' := [some (.int (nI f)), some (.int (nI 3))]) (σ' := σ) (pc2 := 13) (l2 := [some (.ref 0), some (.int (nI 1)), some (.int (nI f)), some (.int (nI n))]) (t := []) (fun f => rfl) (pi_below1 _ _ (z_BL (by omega) (by omega))) ?_
  rintro _ _ ⟨rfl, rfl⟩
  refine pi_cf 1 (c := nI 1 = 0) (pc' := 16) (l' := [some (.ref 0), some (.int (nI 1)), some (.int (nI f)), some (.int (nI n))]) (st' := []) (σ' := σ) (pc2 := 22) (l2 := [some (.ref 0), some (.int (nI 1)), some (.int (nI f)), some (.int (nI n))]) (st2 := []) (σ2 := σ) (fun f => rfl) (by decide) ?_
  refine pi_ct 3 (c := nI n ≤ nI 48) (pc' := 25) (l' := [some (.ref 0), some (.int (nI 1)), some (.int (nI f)), some (.int (nI n))]) (st' := []) (σ' := σ) (pc2 := 22) (l2 := [some (.ref 0), some (.int (nI 1)), some (.int (nI f)), some (.int (nI n))]) (st2 := []) (σ2 := σ) (fun f => rfl) ((nI_leI (by omega) (by omega)).mpr hn) ?_
  refine pi_ct 2 (c := 0 ≤ nI n) (pc' := 35) (l' := [some (.ref 0), some (.int (nI 1)), some (.int (nI f)), some (.int (nI n))]) (st' := []) (σ' := σ) (pc2 := 29) (l2 := [some (.ref 0), some (.int (nI 1)), some (.int (nI f)), some (.int (nI n))]) (st2 := []) (σ2 := σ) (fun f => rfl) (Int32.not_lt.mp (z_ltz (by omega))) ?_
  refine pi_aq 4 (u := 1) (n := 4) (a := 47) (c := 50) (pc' := 41) (l' := [some (.ref 0), some (.int (nI 1)), some (.int (nI f)), some (.int (nI n))]) (t := []) (σ' := σ) (fun f => rfl) (by omega) (by omega) rfl ?_
  refine pi_ca 3 (m' := 37) (l' := [some (.ref 50), some (.int (nI f)), some (.int (nI n)), none]) (σ' := σ) (pc2 := 46) (l2 := [some (.ref 0), some (.int (nI 1)), some (.int (nI f)), some (.int (nI n))]) (t := []) (fun f => rfl) (pi_C_renew1 hR.k hf3 hn) ?_
  rintro _ t1 ⟨rfl, et1_1, et1_2, et1_3, rt1⟩
  refine pi_rt 2 (v := some (.int (nI n))) (σ' := t1) (fun f => rfl) ?_
  have hfr : pi_fr [50, 51] t1 σ := pi_fr_tr rt1 (by decide) (pi_fr_rf)
  exact ⟨rfl, hR.sheet1 hf3 hn et1_1 et1_2 et1_3 hfr, pi_fr_tr hfr (by decide) pi_fr_rf⟩
set_option maxRecDepth 20000 in
theorem pi_X_lose1_null {xs : Nat → Int32} {L d : Nat} {W : zW} {σ : pi_S} (hR : z_CR W σ) (hq0 : W.th 1 = 0)  : pi_wp xs L (d + 9) 87 0 [some (.ref 0), some (.int (nI 1)), none, none] [] σ (fun v s => v = some (.int ((-10) - (nI 1))) ∧ z_CR (W.sS 0 (nI 1)) s ∧ pi_fr z_CC s σ) := by
  have hk := hR.k.p.wk
  have hnd8 := hk.wd.nd8
  have hns12 := hk.wd.ns12
  have hn60 := hk.nine
  have hnf := hk.nf
  have hnw := hk.nw
  have hnc := hk.nc
  have hn08 := hk.wd.n0
  have hn140 := hk.wd.n1
  refine pi_ca 3 (m' := 94) (l' := [some (.int (nI 1)), some (.int (nI 4))]) (σ' := σ) (pc2 := 5) (l2 := [some (.ref 0), some (.int (nI 1)), none, none]) (t := []) (fun f => rfl) (pi_below1 _ _ (z_BL (by omega) (by omega))) ?_
  rintro _ _ ⟨rfl, rfl⟩
  refine pi_cf 1 (c := nI 1 = 0) (pc' := 11) (l' := [some (.ref 0), some (.int (nI 1)), none, none]) (st' := []) (σ' := σ) (pc2 := 8) (l2 := [some (.ref 0), some (.int (nI 1)), none, none]) (st2 := []) (σ2 := σ) (fun f => rfl) (by decide) ?_
  refine pi_aq 4 (u := 1) (n := 4) (a := 47) (c := 50) (pc' := 17) (l' := [some (.ref 0), some (.int (nI 1)), none, none]) (t := []) (σ' := σ) (fun f => rfl) (by omega) (by omega) rfl ?_
  refine pi_ca 3 (m' := 36) (l' := [some (.ref 50)]) (σ' := σ) (pc2 := 22) (l2 := [some (.ref 0), some (.int (nI 1)), some (.ref 50), none]) (t := []) (fun f => rfl) (pi_C_lost1_t hR.k hq0) ?_
  rintro _ _ ⟨rfl, rfl⟩
  refine pi_cf 1 (c := nI 1 = 0) (pc' := 25) (l' := [some (.ref 0), some (.int (nI 1)), some (.ref 50), none]) (st' := []) (σ' := σ) (pc2 := 31) (l2 := [some (.ref 0), some (.int (nI 1)), some (.ref 50), none]) (st2 := []) (σ2 := σ) (fun f => rfl) (by decide) ?_
  refine pi_ca 3 (m' := 96) (l' := [some (.ref 0), some (.int (nI 1))]) (σ' := σ) (pc2 := 30) (l2 := [some (.ref 0), some (.int (nI 1)), some (.ref 50), none]) (t := []) (fun f => rfl) (pi_C_found (nI 1)) ?_
  rintro _ t1 ⟨rfl, et1, kt1, rt1⟩
  refine pi_rt 1 (v := some (.int ((-10) - (nI 1)))) (σ' := t1) (fun f => rfl) ?_
  have hfr : pi_fr [0] t1 σ := pi_fr_tr rt1 (by decide) (pi_fr_rf)
  exact ⟨rfl, hR.fnd (et1) hfr, pi_fr_tr hfr (by decide) pi_fr_rf⟩
set_option maxRecDepth 20000 in
theorem pi_X_lose1 {xs : Nat → Int32} {L d : Nat} {W : zW} {σ : pi_S} (hR : z_CR W σ) (hq1 : ¬ W.th 1 = 0)  : pi_wp xs L (d + 9) 87 0 [some (.ref 0), some (.int (nI 1)), none, none] [] σ (fun v s => v = some (.int (nI (W.si 1))) ∧ z_CR (W.sF 8 (z_u W.th 1 0)) s ∧ pi_fr z_CC s σ) := by
  have hk := hR.k.p.wk
  have hnd8 := hk.wd.nd8
  have hns12 := hk.wd.ns12
  have hn60 := hk.nine
  have hnf := hk.nf
  have hnw := hk.nw
  have hnc := hk.nc
  have hn08 := hk.wd.n0
  have hn140 := hk.wd.n1
  refine pi_ca 3 (m' := 94) (l' := [some (.int (nI 1)), some (.int (nI 4))]) (σ' := σ) (pc2 := 5) (l2 := [some (.ref 0), some (.int (nI 1)), none, none]) (t := []) (fun f => rfl) (pi_below1 _ _ (z_BL (by omega) (by omega))) ?_
  rintro _ _ ⟨rfl, rfl⟩
  refine pi_cf 1 (c := nI 1 = 0) (pc' := 11) (l' := [some (.ref 0), some (.int (nI 1)), none, none]) (st' := []) (σ' := σ) (pc2 := 8) (l2 := [some (.ref 0), some (.int (nI 1)), none, none]) (st2 := []) (σ2 := σ) (fun f => rfl) (by decide) ?_
  refine pi_aq 4 (u := 1) (n := 4) (a := 47) (c := 50) (pc' := 17) (l' := [some (.ref 0), some (.int (nI 1)), none, none]) (t := []) (σ' := σ) (fun f => rfl) (by omega) (by omega) rfl ?_
  refine pi_ca 3 (m' := 36) (l' := [some (.ref 50)]) (σ' := σ) (pc2 := 22) (l2 := [some (.ref 0), some (.int (nI 1)), some (.ref 50), none]) (t := []) (fun f => rfl) (pi_C_lost1_f hR.k hq1) ?_
  rintro _ _ ⟨rfl, rfl⟩
  refine pi_ct 1 (c := nI 0 = 0) (pc' := 31) (l' := [some (.ref 0), some (.int (nI 1)), some (.ref 50), none]) (st' := []) (σ' := σ) (pc2 := 25) (l2 := [some (.ref 0), some (.int (nI 1)), some (.ref 50), none]) (st2 := []) (σ2 := σ) (fun f => rfl) (by decide) ?_
  refine pi_go 2 (pc' := 35) (l' := [some (.ref 0), some (.int (nI 1)), some (.ref 50), none]) (st' := [.int (σ 50 2)]) (σ' := σ) (fun f => rfl) ?_
  refine pi_tp (y := nI (W.si 1)) (hR.k.p.ss1.trans (z_sz_f hq1)) ?_
  refine pi_go 4 (pc' := 41) (l' := [some (.ref 0), some (.int (nI 1)), some (.ref 50), some (.int (nI (W.si 1)))]) (st' := []) (σ' := (pi_up σ 50 2 (-1))) (fun f => rfl) ?_
  generalize es1 : pi_up σ 50 2 (-1) = s1
  refine pi_rt 2 (v := some (.int (nI (W.si 1)))) (σ' := s1) (fun f => rfl) ?_
  have hfr : pi_fr [50] s1 σ := pi_fr_of es1 (by decide) (pi_fr_rf)
  exact ⟨rfl, hR.lose1 ((congrFun (congrFun es1 50) 1).symm.trans ((pi_up_sn _ _ _ (by decide)).trans (rfl))) ((congrFun (congrFun es1 50) 2).symm.trans (pi_up_ss _ _ _ _)) hfr, pi_fr_tr hfr (by decide) pi_fr_rf⟩
set_option maxRecDepth 20000 in
theorem pi_X_put1_1 {xs : Nat → Int32} {L d : Nat} {W : zW} {σ : pi_S} (hR : z_CR W σ) {f : Nat} {i x : Int32} (hf3 : f < 3) (hq0 : W.th 1 = 0)  : pi_wp xs L (d + 9) 88 0 [some (.ref 0), some (.int (nI 1)), some (.int (nI f)), some (.int i), some (.int x), none] [] σ (fun v s => v = some (.int ((-10) - (nI 1))) ∧ z_CR (W.sS 0 (nI 1)) s ∧ pi_fr z_CC s σ) := by
  have hk := hR.k.p.wk
  have hnd8 := hk.wd.nd8
  have hns12 := hk.wd.ns12
  have hn60 := hk.nine
  have hnf := hk.nf
  have hnw := hk.nw
  have hnc := hk.nc
  have hn08 := hk.wd.n0
  have hn140 := hk.wd.n1
  refine pi_ca 3 (m' := 94) (l' := [some (.int (nI 1)), some (.int (nI 4))]) (σ' := σ) (pc2 := 5) (l2 := [some (.ref 0), some (.int (nI 1)), some (.int (nI f)), some (.int i), some (.int x), none]) (t := []) (fun f => rfl) (pi_below1 _ _ (z_BL (by omega) (by omega))) ?_
  rintro _ _ ⟨rfl, rfl⟩
  refine pi_cf 1 (c := nI 1 = 0) (pc' := 8) (l' := [some (.ref 0), some (.int (nI 1)), some (.int (nI f)), some (.int i), some (.int x), none]) (st' := []) (σ' := σ) (pc2 := 16) (l2 := [some (.ref 0), some (.int (nI 1)), some (.int (nI f)), some (.int i), some (.int x), none]) (st2 := []) (σ2 := σ) (fun f => rfl) (by decide) ?_
  refine pi_ca 3 (m' := 94) (l' := [some (.int (nI f)), some (.int (nI 3))]) (σ' := σ) (pc2 := 13) (l2 := [some (.ref 0), some (.int (nI 1)), some (.int (nI f)), some (.int i), some (.int x), none]) (t := []) (fun f => rfl) (pi_below1 _ _ (z_BL (by omega) (by omega))) ?_
  rintro _ _ ⟨rfl, rfl⟩
  refine pi_cf 1 (c := nI 1 = 0) (pc' := 19) (l' := [some (.ref 0), some (.int (nI 1)), some (.int (nI f)), some (.int i), some (.int x), none]) (st' := []) (σ' := σ) (pc2 := 16) (l2 := [some (.ref 0), some (.int (nI 1)), some (.int (nI f)), some (.int i), some (.int x), none]) (st2 := []) (σ2 := σ) (fun f => rfl) (by decide) ?_
  refine pi_aq 4 (u := 1) (n := 4) (a := 47) (c := 50) (pc' := 25) (l' := [some (.ref 0), some (.int (nI 1)), some (.int (nI f)), some (.int i), some (.int x), none]) (t := []) (σ' := σ) (fun f => rfl) (by omega) (by omega) rfl ?_
  refine pi_ca 3 (m' := 38) (l' := [some (.ref 50), some (.int (nI f)), some (.int i)]) (σ' := σ) (pc2 := 30) (l2 := [some (.ref 0), some (.int (nI 1)), some (.int (nI f)), some (.int i), some (.int x), none]) (t := []) (fun f => rfl) (pi_C_why1_1 hR.k hf3 hq0) ?_
  rintro _ _ ⟨rfl, rfl⟩
  refine pi_cf 3 (c := nI 1 = 0) (pc' := 37) (l' := [some (.ref 0), some (.int (nI 1)), some (.int (nI f)), some (.int i), some (.int x), some (.int (nI 1))]) (st' := []) (σ' := σ) (pc2 := 44) (l2 := [some (.ref 0), some (.int (nI 1)), some (.int (nI f)), some (.int i), some (.int x), some (.int (nI 1))]) (st2 := []) (σ2 := σ) (fun f => rfl) (by decide) ?_
  refine pi_ca 3 (m' := 96) (l' := [some (.ref 0), some (.int (nI 1))]) (σ' := σ) (pc2 := 43) (l2 := [some (.ref 0), some (.int (nI 1)), some (.int (nI f)), some (.int i), some (.int x), some (.int (nI 1))]) (t := []) (fun f => rfl) (pi_C_found (nI 1)) ?_
  rintro _ t1 ⟨rfl, et1, kt1, rt1⟩
  refine pi_rt 1 (v := some (.int ((-10) - (nI 1)))) (σ' := t1) (fun f => rfl) ?_
  have hfr : pi_fr [0] t1 σ := pi_fr_tr rt1 (by decide) (pi_fr_rf)
  exact ⟨rfl, hR.fnd (et1) hfr, pi_fr_tr hfr (by decide) pi_fr_rf⟩
set_option maxRecDepth 20000 in
theorem pi_X_get1_1 {xs : Nat → Int32} {L d : Nat} {W : zW} {σ : pi_S} (hR : z_CR W σ) {f : Nat} {i : Int32} (hf3 : f < 3) (hq0 : W.th 1 = 0)  : pi_wp xs L (d + 9) 89 0 [some (.ref 0), some (.int (nI 1)), some (.int (nI f)), some (.int i), none] [] σ (fun v s => v = some (.int (Int32.ofNat 2147483648)) ∧ z_CR (W.sS 0 (nI 1)) s ∧ pi_fr z_CC s σ) := by
  have hk := hR.k.p.wk
  have hnd8 := hk.wd.nd8
  have hns12 := hk.wd.ns12
  have hn60 := hk.nine
  have hnf := hk.nf
  have hnw := hk.nw
  have hnc := hk.nc
  have hn08 := hk.wd.n0
  have hn140 := hk.wd.n1
  refine pi_ca 3 (m' := 94) (l' := [some (.int (nI 1)), some (.int (nI 4))]) (σ' := σ) (pc2 := 5) (l2 := [some (.ref 0), some (.int (nI 1)), some (.int (nI f)), some (.int i), none]) (t := []) (fun f => rfl) (pi_below1 _ _ (z_BL (by omega) (by omega))) ?_
  rintro _ _ ⟨rfl, rfl⟩
  refine pi_cf 1 (c := nI 1 = 0) (pc' := 8) (l' := [some (.ref 0), some (.int (nI 1)), some (.int (nI f)), some (.int i), none]) (st' := []) (σ' := σ) (pc2 := 16) (l2 := [some (.ref 0), some (.int (nI 1)), some (.int (nI f)), some (.int i), none]) (st2 := []) (σ2 := σ) (fun f => rfl) (by decide) ?_
  refine pi_ca 3 (m' := 94) (l' := [some (.int (nI f)), some (.int (nI 3))]) (σ' := σ) (pc2 := 13) (l2 := [some (.ref 0), some (.int (nI 1)), some (.int (nI f)), some (.int i), none]) (t := []) (fun f => rfl) (pi_below1 _ _ (z_BL (by omega) (by omega))) ?_
  rintro _ _ ⟨rfl, rfl⟩
  refine pi_cf 1 (c := nI 1 = 0) (pc' := 20) (l' := [some (.ref 0), some (.int (nI 1)), some (.int (nI f)), some (.int i), none]) (st' := []) (σ' := σ) (pc2 := 16) (l2 := [some (.ref 0), some (.int (nI 1)), some (.int (nI f)), some (.int i), none]) (st2 := []) (σ2 := σ) (fun f => rfl) (by decide) ?_
  refine pi_aq 4 (u := 1) (n := 4) (a := 47) (c := 50) (pc' := 26) (l' := [some (.ref 0), some (.int (nI 1)), some (.int (nI f)), some (.int i), none]) (t := []) (σ' := σ) (fun f => rfl) (by omega) (by omega) rfl ?_
  refine pi_ca 3 (m' := 38) (l' := [some (.ref 50), some (.int (nI f)), some (.int i)]) (σ' := σ) (pc2 := 31) (l2 := [some (.ref 0), some (.int (nI 1)), some (.int (nI f)), some (.int i), none]) (t := []) (fun f => rfl) (pi_C_why1_1 hR.k hf3 hq0) ?_
  rintro _ _ ⟨rfl, rfl⟩
  refine pi_cf 3 (c := nI 1 = 0) (pc' := 38) (l' := [some (.ref 0), some (.int (nI 1)), some (.int (nI f)), some (.int i), some (.int (nI 1))]) (st' := []) (σ' := σ) (pc2 := 48) (l2 := [some (.ref 0), some (.int (nI 1)), some (.int (nI f)), some (.int i), some (.int (nI 1))]) (st2 := []) (σ2 := σ) (fun f => rfl) (by decide) ?_
  refine pi_go 3 (pc' := 44) (l' := [some (.ref 0), some (.int (nI 1)), some (.int (nI f)), some (.int i), some (.int (nI 1))]) (st' := []) (σ' := (pi_up σ 0 7 (nI 1))) (fun f => rfl) ?_
  generalize es1 : pi_up σ 0 7 (nI 1) = s1
  refine pi_rt 2 (v := some (.int (Int32.ofNat 2147483648))) (σ' := s1) (fun f => rfl) ?_
  have hfr : pi_fr [0] s1 σ := pi_fr_of es1 (by decide) (pi_fr_rf)
  exact ⟨rfl, hR.fnd ((congrFun (congrFun es1 0) 7).symm.trans (pi_up_ss _ _ _ _)) hfr, pi_fr_tr hfr (by decide) pi_fr_rf⟩
set_option maxRecDepth 20000 in
theorem pi_X_put1_3 {xs : Nat → Int32} {L d : Nat} {W : zW} {σ : pi_S} (hR : z_CR W σ) {f : Nat} {i x : Int32} (hf3 : f < 3) (hq1 : ¬ W.th 1 = 0) (h3 : ¬ W.fo 1 = f)  : pi_wp xs L (d + 9) 88 0 [some (.ref 0), some (.int (nI 1)), some (.int (nI f)), some (.int i), some (.int x), none] [] σ (fun v s => v = some (.int ((-10) - (nI 3))) ∧ z_CR (W.sS 0 (nI 3)) s ∧ pi_fr z_CC s σ) := by
  have hk := hR.k.p.wk
  have hnd8 := hk.wd.nd8
  have hns12 := hk.wd.ns12
  have hn60 := hk.nine
  have hnf := hk.nf
  have hnw := hk.nw
  have hnc := hk.nc
  have hn08 := hk.wd.n0
  have hn140 := hk.wd.n1
  refine pi_ca 3 (m' := 94) (l' := [some (.int (nI 1)), some (.int (nI 4))]) (σ' := σ) (pc2 := 5) (l2 := [some (.ref 0), some (.int (nI 1)), some (.int (nI f)), some (.int i), some (.int x), none]) (t := []) (fun f => rfl) (pi_below1 _ _ (z_BL (by omega) (by omega))) ?_
  rintro _ _ ⟨rfl, rfl⟩
  refine pi_cf 1 (c := nI 1 = 0) (pc' := 8) (l' := [some (.ref 0), some (.int (nI 1)), some (.int (nI f)), some (.int i), some (.int x), none]) (st' := []) (σ' := σ) (pc2 := 16) (l2 := [some (.ref 0), some (.int (nI 1)), some (.int (nI f)), some (.int i), some (.int x), none]) (st2 := []) (σ2 := σ) (fun f => rfl) (by decide) ?_
  refine pi_ca 3 (m' := 94) (l' := [some (.int (nI f)), some (.int (nI 3))]) (σ' := σ) (pc2 := 13) (l2 := [some (.ref 0), some (.int (nI 1)), some (.int (nI f)), some (.int i), some (.int x), none]) (t := []) (fun f => rfl) (pi_below1 _ _ (z_BL (by omega) (by omega))) ?_
  rintro _ _ ⟨rfl, rfl⟩
  refine pi_cf 1 (c := nI 1 = 0) (pc' := 19) (l' := [some (.ref 0), some (.int (nI 1)), some (.int (nI f)), some (.int i), some (.int x), none]) (st' := []) (σ' := σ) (pc2 := 16) (l2 := [some (.ref 0), some (.int (nI 1)), some (.int (nI f)), some (.int i), some (.int x), none]) (st2 := []) (σ2 := σ) (fun f => rfl) (by decide) ?_
  refine pi_aq 4 (u := 1) (n := 4) (a := 47) (c := 50) (pc' := 25) (l' := [some (.ref 0), some (.int (nI 1)), some (.int (nI f)), some (.int i), some (.int x), none]) (t := []) (σ' := σ) (fun f => rfl) (by omega) (by omega) rfl ?_
  refine pi_ca 3 (m' := 38) (l' := [some (.ref 50), some (.int (nI f)), some (.int i)]) (σ' := σ) (pc2 := 30) (l2 := [some (.ref 0), some (.int (nI 1)), some (.int (nI f)), some (.int i), some (.int x), none]) (t := []) (fun f => rfl) (pi_C_why1_3 hR.k hf3 hq1 h3) ?_
  rintro _ _ ⟨rfl, rfl⟩
  refine pi_cf 3 (c := nI 3 = 0) (pc' := 37) (l' := [some (.ref 0), some (.int (nI 1)), some (.int (nI f)), some (.int i), some (.int x), some (.int (nI 3))]) (st' := []) (σ' := σ) (pc2 := 44) (l2 := [some (.ref 0), some (.int (nI 1)), some (.int (nI f)), some (.int i), some (.int x), some (.int (nI 3))]) (st2 := []) (σ2 := σ) (fun f => rfl) (by decide) ?_
  refine pi_ca 3 (m' := 96) (l' := [some (.ref 0), some (.int (nI 3))]) (σ' := σ) (pc2 := 43) (l2 := [some (.ref 0), some (.int (nI 1)), some (.int (nI f)), some (.int i), some (.int x), some (.int (nI 3))]) (t := []) (fun f => rfl) (pi_C_found (nI 3)) ?_
  rintro _ t1 ⟨rfl, et1, kt1, rt1⟩
  refine pi_rt 1 (v := some (.int ((-10) - (nI 3)))) (σ' := t1) (fun f => rfl) ?_
  have hfr : pi_fr [0] t1 σ := pi_fr_tr rt1 (by decide) (pi_fr_rf)
  exact ⟨rfl, hR.fnd (et1) hfr, pi_fr_tr hfr (by decide) pi_fr_rf⟩
set_option maxRecDepth 20000 in
theorem pi_X_get1_3 {xs : Nat → Int32} {L d : Nat} {W : zW} {σ : pi_S} (hR : z_CR W σ) {f : Nat} {i : Int32} (hf3 : f < 3) (hq1 : ¬ W.th 1 = 0) (h3 : ¬ W.fo 1 = f)  : pi_wp xs L (d + 9) 89 0 [some (.ref 0), some (.int (nI 1)), some (.int (nI f)), some (.int i), none] [] σ (fun v s => v = some (.int (Int32.ofNat 2147483648)) ∧ z_CR (W.sS 0 (nI 3)) s ∧ pi_fr z_CC s σ) := by
  have hk := hR.k.p.wk
  have hnd8 := hk.wd.nd8
  have hns12 := hk.wd.ns12
  have hn60 := hk.nine
  have hnf := hk.nf
  have hnw := hk.nw
  have hnc := hk.nc
  have hn08 := hk.wd.n0
  have hn140 := hk.wd.n1
  refine pi_ca 3 (m' := 94) (l' := [some (.int (nI 1)), some (.int (nI 4))]) (σ' := σ) (pc2 := 5) (l2 := [some (.ref 0), some (.int (nI 1)), some (.int (nI f)), some (.int i), none]) (t := []) (fun f => rfl) (pi_below1 _ _ (z_BL (by omega) (by omega))) ?_
  rintro _ _ ⟨rfl, rfl⟩
  refine pi_cf 1 (c := nI 1 = 0) (pc' := 8) (l' := [some (.ref 0), some (.int (nI 1)), some (.int (nI f)), some (.int i), none]) (st' := []) (σ' := σ) (pc2 := 16) (l2 := [some (.ref 0), some (.int (nI 1)), some (.int (nI f)), some (.int i), none]) (st2 := []) (σ2 := σ) (fun f => rfl) (by decide) ?_
  refine pi_ca 3 (m' := 94) (l' := [some (.int (nI f)), some (.int (nI 3))]) (σ' := σ) (pc2 := 13) (l2 := [some (.ref 0), some (.int (nI 1)), some (.int (nI f)), some (.int i), none]) (t := []) (fun f => rfl) (pi_below1 _ _ (z_BL (by omega) (by omega))) ?_
  rintro _ _ ⟨rfl, rfl⟩
  refine pi_cf 1 (c := nI 1 = 0) (pc' := 20) (l' := [some (.ref 0), some (.int (nI 1)), some (.int (nI f)), some (.int i), none]) (st' := []) (σ' := σ) (pc2 := 16) (l2 := [some (.ref 0), some (.int (nI 1)), some (.int (nI f)), some (.int i), none]) (st2 := []) (σ2 := σ) (fun f => rfl) (by decide) ?_
  refine pi_aq 4 (u := 1) (n := 4) (a := 47) (c := 50) (pc' := 26) (l' := [some (.ref 0), some (.int (nI 1)), some (.int (nI f)), some (.int i), none]) (t := []) (σ' := σ) (fun f => rfl) (by omega) (by omega) rfl ?_
  refine pi_ca 3 (m' := 38) (l' := [some (.ref 50), some (.int (nI f)), some (.int i)]) (σ' := σ) (pc2 := 31) (l2 := [some (.ref 0), some (.int (nI 1)), some (.int (nI f)), some (.int i), none]) (t := []) (fun f => rfl) (pi_C_why1_3 hR.k hf3 hq1 h3) ?_
  rintro _ _ ⟨rfl, rfl⟩
  refine pi_cf 3 (c := nI 3 = 0) (pc' := 38) (l' := [some (.ref 0), some (.int (nI 1)), some (.int (nI f)), some (.int i), some (.int (nI 3))]) (st' := []) (σ' := σ) (pc2 := 48) (l2 := [some (.ref 0), some (.int (nI 1)), some (.int (nI f)), some (.int i), some (.int (nI 3))]) (st2 := []) (σ2 := σ) (fun f => rfl) (by decide) ?_
  refine pi_go 3 (pc' := 44) (l' := [some (.ref 0), some (.int (nI 1)), some (.int (nI f)), some (.int i), some (.int (nI 3))]) (st' := []) (σ' := (pi_up σ 0 7 (nI 3))) (fun f => rfl) ?_
  generalize es1 : pi_up σ 0 7 (nI 3) = s1
  refine pi_rt 2 (v := some (.int (Int32.ofNat 2147483648))) (σ' := s1) (fun f => rfl) ?_
  have hfr : pi_fr [0] s1 σ := pi_fr_of es1 (by decide) (pi_fr_rf)
  exact ⟨rfl, hR.fnd ((congrFun (congrFun es1 0) 7).symm.trans (pi_up_ss _ _ _ _)) hfr, pi_fr_tr hfr (by decide) pi_fr_rf⟩
set_option maxRecDepth 20000 in
theorem pi_X_put1_2 {xs : Nat → Int32} {L d : Nat} {W : zW} {σ : pi_S} (hR : z_CR W σ) {f : Nat} {i x : Int32} (hf3 : f < 3) (hq1 : ¬ W.th 1 = 0) (h3 : W.fo 1 = f) (h2 : ¬ z_B (W.si 1) i)  : pi_wp xs L (d + 9) 88 0 [some (.ref 0), some (.int (nI 1)), some (.int (nI f)), some (.int i), some (.int x), none] [] σ (fun v s => v = some (.int ((-10) - (nI 2))) ∧ z_CR (W.sS 0 (nI 2)) s ∧ pi_fr z_CC s σ) := by
  have hk := hR.k.p.wk
  have hnd8 := hk.wd.nd8
  have hns12 := hk.wd.ns12
  have hn60 := hk.nine
  have hnf := hk.nf
  have hnw := hk.nw
  have hnc := hk.nc
  have hn08 := hk.wd.n0
  have hn140 := hk.wd.n1
  refine pi_ca 3 (m' := 94) (l' := [some (.int (nI 1)), some (.int (nI 4))]) (σ' := σ) (pc2 := 5) (l2 := [some (.ref 0), some (.int (nI 1)), some (.int (nI f)), some (.int i), some (.int x), none]) (t := []) (fun f => rfl) (pi_below1 _ _ (z_BL (by omega) (by omega))) ?_
  rintro _ _ ⟨rfl, rfl⟩
  refine pi_cf 1 (c := nI 1 = 0) (pc' := 8) (l' := [some (.ref 0), some (.int (nI 1)), some (.int (nI f)), some (.int i), some (.int x), none]) (st' := []) (σ' := σ) (pc2 := 16) (l2 := [some (.ref 0), some (.int (nI 1)), some (.int (nI f)), some (.int i), some (.int x), none]) (st2 := []) (σ2 := σ) (fun f => rfl) (by decide) ?_
  refine pi_ca 3 (m' := 94) (l' := [some (.int (nI f)), some (.int (nI 3))]) (σ' := σ) (pc2 := 13) (l2 := [some (.ref 0), some (.int (nI 1)), some (.int (nI f)), some (.int i), some (.int x), none]) (t := []) (fun f => rfl) (pi_below1 _ _ (z_BL (by omega) (by omega))) ?_
  rintro _ _ ⟨rfl, rfl⟩
  refine pi_cf 1 (c := nI 1 = 0) (pc' := 19) (l' := [some (.ref 0), some (.int (nI 1)), some (.int (nI f)), some (.int i), some (.int x), none]) (st' := []) (σ' := σ) (pc2 := 16) (l2 := [some (.ref 0), some (.int (nI 1)), some (.int (nI f)), some (.int i), some (.int x), none]) (st2 := []) (σ2 := σ) (fun f => rfl) (by decide) ?_
  refine pi_aq 4 (u := 1) (n := 4) (a := 47) (c := 50) (pc' := 25) (l' := [some (.ref 0), some (.int (nI 1)), some (.int (nI f)), some (.int i), some (.int x), none]) (t := []) (σ' := σ) (fun f => rfl) (by omega) (by omega) rfl ?_
  refine pi_ca 3 (m' := 38) (l' := [some (.ref 50), some (.int (nI f)), some (.int i)]) (σ' := σ) (pc2 := 30) (l2 := [some (.ref 0), some (.int (nI 1)), some (.int (nI f)), some (.int i), some (.int x), none]) (t := []) (fun f => rfl) (pi_C_why1_2 hR.k hf3 hq1 h3 h2) ?_
  rintro _ _ ⟨rfl, rfl⟩
  refine pi_cf 3 (c := nI 2 = 0) (pc' := 37) (l' := [some (.ref 0), some (.int (nI 1)), some (.int (nI f)), some (.int i), some (.int x), some (.int (nI 2))]) (st' := []) (σ' := σ) (pc2 := 44) (l2 := [some (.ref 0), some (.int (nI 1)), some (.int (nI f)), some (.int i), some (.int x), some (.int (nI 2))]) (st2 := []) (σ2 := σ) (fun f => rfl) (by decide) ?_
  refine pi_ca 3 (m' := 96) (l' := [some (.ref 0), some (.int (nI 2))]) (σ' := σ) (pc2 := 43) (l2 := [some (.ref 0), some (.int (nI 1)), some (.int (nI f)), some (.int i), some (.int x), some (.int (nI 2))]) (t := []) (fun f => rfl) (pi_C_found (nI 2)) ?_
  rintro _ t1 ⟨rfl, et1, kt1, rt1⟩
  refine pi_rt 1 (v := some (.int ((-10) - (nI 2)))) (σ' := t1) (fun f => rfl) ?_
  have hfr : pi_fr [0] t1 σ := pi_fr_tr rt1 (by decide) (pi_fr_rf)
  exact ⟨rfl, hR.fnd (et1) hfr, pi_fr_tr hfr (by decide) pi_fr_rf⟩
set_option maxRecDepth 20000 in
theorem pi_X_get1_2 {xs : Nat → Int32} {L d : Nat} {W : zW} {σ : pi_S} (hR : z_CR W σ) {f : Nat} {i : Int32} (hf3 : f < 3) (hq1 : ¬ W.th 1 = 0) (h3 : W.fo 1 = f) (h2 : ¬ z_B (W.si 1) i)  : pi_wp xs L (d + 9) 89 0 [some (.ref 0), some (.int (nI 1)), some (.int (nI f)), some (.int i), none] [] σ (fun v s => v = some (.int (Int32.ofNat 2147483648)) ∧ z_CR (W.sS 0 (nI 2)) s ∧ pi_fr z_CC s σ) := by
  have hk := hR.k.p.wk
  have hnd8 := hk.wd.nd8
  have hns12 := hk.wd.ns12
  have hn60 := hk.nine
  have hnf := hk.nf
  have hnw := hk.nw
  have hnc := hk.nc
  have hn08 := hk.wd.n0
  have hn140 := hk.wd.n1
  refine pi_ca 3 (m' := 94) (l' := [some (.int (nI 1)), some (.int (nI 4))]) (σ' := σ) (pc2 := 5) (l2 := [some (.ref 0), some (.int (nI 1)), some (.int (nI f)), some (.int i), none]) (t := []) (fun f => rfl) (pi_below1 _ _ (z_BL (by omega) (by omega))) ?_
  rintro _ _ ⟨rfl, rfl⟩
  refine pi_cf 1 (c := nI 1 = 0) (pc' := 8) (l' := [some (.ref 0), some (.int (nI 1)), some (.int (nI f)), some (.int i), none]) (st' := []) (σ' := σ) (pc2 := 16) (l2 := [some (.ref 0), some (.int (nI 1)), some (.int (nI f)), some (.int i), none]) (st2 := []) (σ2 := σ) (fun f => rfl) (by decide) ?_
  refine pi_ca 3 (m' := 94) (l' := [some (.int (nI f)), some (.int (nI 3))]) (σ' := σ) (pc2 := 13) (l2 := [some (.ref 0), some (.int (nI 1)), some (.int (nI f)), some (.int i), none]) (t := []) (fun f => rfl) (pi_below1 _ _ (z_BL (by omega) (by omega))) ?_
  rintro _ _ ⟨rfl, rfl⟩
  refine pi_cf 1 (c := nI 1 = 0) (pc' := 20) (l' := [some (.ref 0), some (.int (nI 1)), some (.int (nI f)), some (.int i), none]) (st' := []) (σ' := σ) (pc2 := 16) (l2 := [some (.ref 0), some (.int (nI 1)), some (.int (nI f)), some (.int i), none]) (st2 := []) (σ2 := σ) (fun f => rfl) (by decide) ?_
  refine pi_aq 4 (u := 1) (n := 4) (a := 47) (c := 50) (pc' := 26) (l' := [some (.ref 0), some (.int (nI 1)), some (.int (nI f)), some (.int i), none]) (t := []) (σ' := σ) (fun f => rfl) (by omega) (by omega) rfl ?_
  refine pi_ca 3 (m' := 38) (l' := [some (.ref 50), some (.int (nI f)), some (.int i)]) (σ' := σ) (pc2 := 31) (l2 := [some (.ref 0), some (.int (nI 1)), some (.int (nI f)), some (.int i), none]) (t := []) (fun f => rfl) (pi_C_why1_2 hR.k hf3 hq1 h3 h2) ?_
  rintro _ _ ⟨rfl, rfl⟩
  refine pi_cf 3 (c := nI 2 = 0) (pc' := 38) (l' := [some (.ref 0), some (.int (nI 1)), some (.int (nI f)), some (.int i), some (.int (nI 2))]) (st' := []) (σ' := σ) (pc2 := 48) (l2 := [some (.ref 0), some (.int (nI 1)), some (.int (nI f)), some (.int i), some (.int (nI 2))]) (st2 := []) (σ2 := σ) (fun f => rfl) (by decide) ?_
  refine pi_go 3 (pc' := 44) (l' := [some (.ref 0), some (.int (nI 1)), some (.int (nI f)), some (.int i), some (.int (nI 2))]) (st' := []) (σ' := (pi_up σ 0 7 (nI 2))) (fun f => rfl) ?_
  generalize es1 : pi_up σ 0 7 (nI 2) = s1
  refine pi_rt 2 (v := some (.int (Int32.ofNat 2147483648))) (σ' := s1) (fun f => rfl) ?_
  have hfr : pi_fr [0] s1 σ := pi_fr_of es1 (by decide) (pi_fr_rf)
  exact ⟨rfl, hR.fnd ((congrFun (congrFun es1 0) 7).symm.trans (pi_up_ss _ _ _ _)) hfr, pi_fr_tr hfr (by decide) pi_fr_rf⟩
set_option maxRecDepth 20000 in
theorem pi_X_put1 {xs : Nat → Int32} {L d : Nat} {W : zW} {σ : pi_S} (hR : z_CR W σ) {f i : Nat} {x : Int32} (hf3 : f < 3) (hq1 : ¬ W.th 1 = 0) (h3 : W.fo 1 = f) (h2 : i < W.si 1)  : pi_wp xs L (d + 9) 88 0 [some (.ref 0), some (.int (nI 1)), some (.int (nI f)), some (.int (nI i)), some (.int x), none] [] σ (fun v s => v = some (.int (nI 1)) ∧ z_CR (W.sI 9 (upd W.it (48 * 1 + i) (z_nar (W.fo 1) x))) s ∧ pi_fr z_CC s σ) := by
  have hk := hR.k.p.wk
  have hnd8 := hk.wd.nd8
  have hns12 := hk.wd.ns12
  have hn60 := hk.nine
  have hnf := hk.nf
  have hnw := hk.nw
  have hnc := hk.nc
  have hn08 := hk.wd.n0
  have hn140 := hk.wd.n1
  have hsi := hk.si 1 (by omega)
  refine pi_ca 3 (m' := 94) (l' := [some (.int (nI 1)), some (.int (nI 4))]) (σ' := σ) (pc2 := 5) (l2 := [some (.ref 0), some (.int (nI 1)), some (.int (nI f)), some (.int (nI i)), some (.int x), none]) (t := []) (fun f => rfl) (pi_below1 _ _ (z_BL (by omega) (by omega))) ?_
  rintro _ _ ⟨rfl, rfl⟩
  refine pi_cf 1 (c := nI 1 = 0) (pc' := 8) (l' := [some (.ref 0), some (.int (nI 1)), some (.int (nI f)), some (.int (nI i)), some (.int x), none]) (st' := []) (σ' := σ) (pc2 := 16) (l2 := [some (.ref 0), some (.int (nI 1)), some (.int (nI f)), some (.int (nI i)), some (.int x), none]) (st2 := []) (σ2 := σ) (fun f => rfl) (by decide) ?_
  refine pi_ca 3 (m' := 94) (l' := [some (.int (nI f)), some (.int (nI 3))]) (σ' := σ) (pc2 := 13) (l2 := [some (.ref 0), some (.int (nI 1)), some (.int (nI f)), some (.int (nI i)), some (.int x), none]) (t := []) (fun f => rfl) (pi_below1 _ _ (z_BL (by omega) (by omega))) ?_
  rintro _ _ ⟨rfl, rfl⟩
  refine pi_cf 1 (c := nI 1 = 0) (pc' := 19) (l' := [some (.ref 0), some (.int (nI 1)), some (.int (nI f)), some (.int (nI i)), some (.int x), none]) (st' := []) (σ' := σ) (pc2 := 16) (l2 := [some (.ref 0), some (.int (nI 1)), some (.int (nI f)), some (.int (nI i)), some (.int x), none]) (st2 := []) (σ2 := σ) (fun f => rfl) (by decide) ?_
  refine pi_aq 4 (u := 1) (n := 4) (a := 47) (c := 50) (pc' := 25) (l' := [some (.ref 0), some (.int (nI 1)), some (.int (nI f)), some (.int (nI i)), some (.int x), none]) (t := []) (σ' := σ) (fun f => rfl) (by omega) (by omega) rfl ?_
  refine pi_ca 3 (m' := 38) (l' := [some (.ref 50), some (.int (nI f)), some (.int (nI i))]) (σ' := σ) (pc2 := 30) (l2 := [some (.ref 0), some (.int (nI 1)), some (.int (nI f)), some (.int (nI i)), some (.int x), none]) (t := []) (fun f => rfl) (pi_C_why1_0 hR.k hf3 hq1 h3 h2) ?_
  rintro _ _ ⟨rfl, rfl⟩
  refine pi_ct 3 (c := nI 0 = 0) (pc' := 44) (l' := [some (.ref 0), some (.int (nI 1)), some (.int (nI f)), some (.int (nI i)), some (.int x), some (.int (nI 0))]) (st' := []) (σ' := σ) (pc2 := 37) (l2 := [some (.ref 0), some (.int (nI 1)), some (.int (nI f)), some (.int (nI i)), some (.int x), some (.int (nI 0))]) (st2 := []) (σ2 := σ) (fun f => rfl) (by decide) ?_
  refine pi_aq 4 (u := 1) (n := 4) (a := 47) (c := 50) (pc' := 50) (l' := [some (.ref 0), some (.int (nI 1)), some (.int (nI f)), some (.int (nI i)), some (.int x), some (.int (nI 0))]) (t := []) (σ' := σ) (fun f => rfl) (by omega) (by omega) rfl ?_
  refine pi_ca 3 (m' := 41) (l' := [some (.ref 50), some (.int (nI i)), some (.int x)]) (σ' := σ) (pc2 := 56) (l2 := [some (.ref 0), some (.int (nI 1)), some (.int (nI f)), some (.int (nI i)), some (.int x), some (.int (nI 0))]) (t := []) (fun f => rfl) (pi_C_store1 (W := W) (hR.k.p.sf1) (hk.si 1 (by omega)).2.1 (hR.k.p.ss1.trans (z_sz_f hq1)) (hk.si 1 (by omega)).1 (i := i) (by omega) x) ?_
  rintro _ t1 ⟨rfl, et1, rt1⟩
  refine pi_rt 2 (v := some (.int (nI 1))) (σ' := t1) (fun f => rfl) ?_
  have hfr : pi_fr [51] t1 σ := pi_fr_tr rt1 (by decide) (pi_fr_rf)
  exact ⟨rfl, hR.it1 (fun j hj => (congrFun (et1) j).trans (z_put_at (hR.k.p.si1 j hj))) (fun q hq => z_upd_n _ _ (hq i (by omega))) hfr, pi_fr_tr hfr (by decide) pi_fr_rf⟩
set_option maxRecDepth 20000 in
theorem pi_X_get1 {xs : Nat → Int32} {L d : Nat} {W : zW} {σ : pi_S} (hR : z_CR W σ) {f i : Nat} (hf3 : f < 3) (hq1 : ¬ W.th 1 = 0) (h3 : W.fo 1 = f) (h2 : i < W.si 1)  : pi_wp xs L (d + 9) 89 0 [some (.ref 0), some (.int (nI 1)), some (.int (nI f)), some (.int (nI i)), none] [] σ (fun v s => v = some (.int (W.it (48 * 1 + i))) ∧ z_CR W s ∧ pi_fr z_CJ s σ) := by
  have hk := hR.k.p.wk
  have hnd8 := hk.wd.nd8
  have hns12 := hk.wd.ns12
  have hn60 := hk.nine
  have hnf := hk.nf
  have hnw := hk.nw
  have hnc := hk.nc
  have hn08 := hk.wd.n0
  have hn140 := hk.wd.n1
  have hsi := hk.si 1 (by omega)
  refine pi_ca 3 (m' := 94) (l' := [some (.int (nI 1)), some (.int (nI 4))]) (σ' := σ) (pc2 := 5) (l2 := [some (.ref 0), some (.int (nI 1)), some (.int (nI f)), some (.int (nI i)), none]) (t := []) (fun f => rfl) (pi_below1 _ _ (z_BL (by omega) (by omega))) ?_
  rintro _ _ ⟨rfl, rfl⟩
  refine pi_cf 1 (c := nI 1 = 0) (pc' := 8) (l' := [some (.ref 0), some (.int (nI 1)), some (.int (nI f)), some (.int (nI i)), none]) (st' := []) (σ' := σ) (pc2 := 16) (l2 := [some (.ref 0), some (.int (nI 1)), some (.int (nI f)), some (.int (nI i)), none]) (st2 := []) (σ2 := σ) (fun f => rfl) (by decide) ?_
  refine pi_ca 3 (m' := 94) (l' := [some (.int (nI f)), some (.int (nI 3))]) (σ' := σ) (pc2 := 13) (l2 := [some (.ref 0), some (.int (nI 1)), some (.int (nI f)), some (.int (nI i)), none]) (t := []) (fun f => rfl) (pi_below1 _ _ (z_BL (by omega) (by omega))) ?_
  rintro _ _ ⟨rfl, rfl⟩
  refine pi_cf 1 (c := nI 1 = 0) (pc' := 20) (l' := [some (.ref 0), some (.int (nI 1)), some (.int (nI f)), some (.int (nI i)), none]) (st' := []) (σ' := σ) (pc2 := 16) (l2 := [some (.ref 0), some (.int (nI 1)), some (.int (nI f)), some (.int (nI i)), none]) (st2 := []) (σ2 := σ) (fun f => rfl) (by decide) ?_
  refine pi_aq 4 (u := 1) (n := 4) (a := 47) (c := 50) (pc' := 26) (l' := [some (.ref 0), some (.int (nI 1)), some (.int (nI f)), some (.int (nI i)), none]) (t := []) (σ' := σ) (fun f => rfl) (by omega) (by omega) rfl ?_
  refine pi_ca 3 (m' := 38) (l' := [some (.ref 50), some (.int (nI f)), some (.int (nI i))]) (σ' := σ) (pc2 := 31) (l2 := [some (.ref 0), some (.int (nI 1)), some (.int (nI f)), some (.int (nI i)), none]) (t := []) (fun f => rfl) (pi_C_why1_0 hR.k hf3 hq1 h3 h2) ?_
  rintro _ _ ⟨rfl, rfl⟩
  refine pi_ct 3 (c := nI 0 = 0) (pc' := 48) (l' := [some (.ref 0), some (.int (nI 1)), some (.int (nI f)), some (.int (nI i)), some (.int (nI 0))]) (st' := []) (σ' := σ) (pc2 := 38) (l2 := [some (.ref 0), some (.int (nI 1)), some (.int (nI f)), some (.int (nI i)), some (.int (nI 0))]) (st2 := []) (σ2 := σ) (fun f => rfl) (by decide) ?_
  refine pi_aq 4 (u := 1) (n := 4) (a := 47) (c := 50) (pc' := 54) (l' := [some (.ref 0), some (.int (nI 1)), some (.int (nI f)), some (.int (nI i)), some (.int (nI 0))]) (t := []) (σ' := σ) (fun f => rfl) (by omega) (by omega) rfl ?_
  refine pi_ca 2 (m' := 40) (l' := [some (.ref 50), some (.int (nI i))]) (σ' := σ) (pc2 := 58) (l2 := [some (.ref 0), some (.int (nI 1)), some (.int (nI f)), some (.int (nI i)), some (.int (nI 0))]) (t := []) (fun f => rfl) (pi_C_itemAt1 (W := W) (i := i) (hR.k.p.ss1.trans (z_sz_f hq1)) (hk.si 1 (by omega)).1 ((hR.k.p.si1 i (by omega))) (by omega)) ?_
  rintro _ _ ⟨rfl, rfl⟩
  refine pi_rt 1 (v := some (.int (W.it (48 * 1 + i)))) (σ' := σ) (fun f => rfl) ?_
  exact ⟨rfl, hR, pi_fr_rf⟩
set_option maxRecDepth 20000 in
theorem pi_X_write1_null {xs : Nat → Int32} {L d : Nat} {W : zW} {σ : pi_S} (hR : z_CR W σ) {mi : Nat} (hi : mi < W.nine + 1) (hq0 : W.th 1 = 0)  : pi_wp xs L (d + 9) 91 0 [some (.ref 0), some (.int (nI mi)), some (.int (nI 1)), none, none, none, none] [] σ (fun v s => v = some (.int ((-10) - (nI 1))) ∧ z_CR (W.sS 0 (nI 1)) s ∧ pi_fr z_CC s σ) := by
  have hk := hR.k.p.wk
  have hnd8 := hk.wd.nd8
  have hns12 := hk.wd.ns12
  have hn60 := hk.nine
  have hnf := hk.nf
  have hnw := hk.nw
  have hnc := hk.nc
  have hn08 := hk.wd.n0
  have hn140 := hk.wd.n1
  refine pi_ca 3 (m' := 95) (l' := [some (.ref 0), some (.int (nI mi))]) (σ' := σ) (pc2 := 5) (l2 := [some (.ref 0), some (.int (nI mi)), some (.int (nI 1)), none, none, none, none]) (t := []) (fun f => rfl) (pi_C_toNineT hR.k (by omega)) ?_
  rintro _ _ ⟨rfl, rfl⟩
  refine pi_cf 1 (c := nI 1 = 0) (pc' := 8) (l' := [some (.ref 0), some (.int (nI mi)), some (.int (nI 1)), none, none, none, none]) (st' := []) (σ' := σ) (pc2 := 16) (l2 := [some (.ref 0), some (.int (nI mi)), some (.int (nI 1)), none, none, none, none]) (st2 := []) (σ2 := σ) (fun f => rfl) (by decide) ?_
  refine pi_ca 3 (m' := 94) (l' := [some (.int (nI 1)), some (.int (nI 4))]) (σ' := σ) (pc2 := 13) (l2 := [some (.ref 0), some (.int (nI mi)), some (.int (nI 1)), none, none, none, none]) (t := []) (fun f => rfl) (pi_below1 _ _ (z_BL (by omega) (by omega))) ?_
  rintro _ _ ⟨rfl, rfl⟩
  refine pi_cf 1 (c := nI 1 = 0) (pc' := 19) (l' := [some (.ref 0), some (.int (nI mi)), some (.int (nI 1)), none, none, none, none]) (st' := []) (σ' := σ) (pc2 := 16) (l2 := [some (.ref 0), some (.int (nI mi)), some (.int (nI 1)), none, none, none, none]) (st2 := []) (σ2 := σ) (fun f => rfl) (by decide) ?_
  refine pi_aq 4 (u := 1) (n := 4) (a := 47) (c := 50) (pc' := 25) (l' := [some (.ref 0), some (.int (nI mi)), some (.int (nI 1)), none, none, none, none]) (t := []) (σ' := σ) (fun f => rfl) (by omega) (by omega) rfl ?_
  refine pi_ca 3 (m' := 36) (l' := [some (.ref 50)]) (σ' := σ) (pc2 := 30) (l2 := [some (.ref 0), some (.int (nI mi)), some (.int (nI 1)), some (.ref 50), none, none, none]) (t := []) (fun f => rfl) (pi_C_lost1_t hR.k hq0) ?_
  rintro _ _ ⟨rfl, rfl⟩
  refine pi_cf 1 (c := nI 1 = 0) (pc' := 33) (l' := [some (.ref 0), some (.int (nI mi)), some (.int (nI 1)), some (.ref 50), none, none, none]) (st' := []) (σ' := σ) (pc2 := 39) (l2 := [some (.ref 0), some (.int (nI mi)), some (.int (nI 1)), some (.ref 50), none, none, none]) (st2 := []) (σ2 := σ) (fun f => rfl) (by decide) ?_
  refine pi_ca 3 (m' := 96) (l' := [some (.ref 0), some (.int (nI 1))]) (σ' := σ) (pc2 := 38) (l2 := [some (.ref 0), some (.int (nI mi)), some (.int (nI 1)), some (.ref 50), none, none, none]) (t := []) (fun f => rfl) (pi_C_found (nI 1)) ?_
  rintro _ t1 ⟨rfl, et1, kt1, rt1⟩
  refine pi_rt 1 (v := some (.int ((-10) - (nI 1)))) (σ' := t1) (fun f => rfl) ?_
  have hfr : pi_fr [0] t1 σ := pi_fr_tr rt1 (by decide) (pi_fr_rf)
  exact ⟨rfl, hR.fnd (et1) hfr, pi_fr_tr hfr (by decide) pi_fr_rf⟩
set_option maxRecDepth 20000 in
theorem pi_X_write1c {xs : Nat → Int32} {L d : Nat} {W : zW} {σ : pi_S} (hR : z_CR W σ) (hq1 : ¬ W.th 1 = 0) {N : Nat} (hN : N ≤ W.si 1 ∧ N ≤ W.nd ∧ (N = W.si 1 ∨ N = W.nd))  : pi_wp xs L (d + 9) 91 0 [some (.ref 0), some (.int (nI W.nine)), some (.int (nI 1)), none, none, none, none] [] σ (fun v s => v = some (.int (nI N)) ∧ z_CR (W.sI 9 (z_wr W 1 ((z_A W).1.1.1) N)) s ∧ pi_fr z_CC s σ) := by
  have hk := hR.k.p.wk
  have hnd8 := hk.wd.nd8
  have hns12 := hk.wd.ns12
  have hn60 := hk.nine
  have hnf := hk.nf
  have hnw := hk.nw
  have hnc := hk.nc
  have hn08 := hk.wd.n0
  have hn140 := hk.wd.n1
  have hsi := hk.si 1 (by omega)
  refine pi_ca 3 (m' := 95) (l' := [some (.ref 0), some (.int (nI W.nine))]) (σ' := σ) (pc2 := 5) (l2 := [some (.ref 0), some (.int (nI W.nine)), some (.int (nI 1)), none, none, none, none]) (t := []) (fun f => rfl) (pi_C_toNineT hR.k (by omega)) ?_
  rintro _ _ ⟨rfl, rfl⟩
  refine pi_cf 1 (c := nI 1 = 0) (pc' := 8) (l' := [some (.ref 0), some (.int (nI W.nine)), some (.int (nI 1)), none, none, none, none]) (st' := []) (σ' := σ) (pc2 := 16) (l2 := [some (.ref 0), some (.int (nI W.nine)), some (.int (nI 1)), none, none, none, none]) (st2 := []) (σ2 := σ) (fun f => rfl) (by decide) ?_
  refine pi_ca 3 (m' := 94) (l' := [some (.int (nI 1)), some (.int (nI 4))]) (σ' := σ) (pc2 := 13) (l2 := [some (.ref 0), some (.int (nI W.nine)), some (.int (nI 1)), none, none, none, none]) (t := []) (fun f => rfl) (pi_below1 _ _ (z_BL (by omega) (by omega))) ?_
  rintro _ _ ⟨rfl, rfl⟩
  refine pi_cf 1 (c := nI 1 = 0) (pc' := 19) (l' := [some (.ref 0), some (.int (nI W.nine)), some (.int (nI 1)), none, none, none, none]) (st' := []) (σ' := σ) (pc2 := 16) (l2 := [some (.ref 0), some (.int (nI W.nine)), some (.int (nI 1)), none, none, none, none]) (st2 := []) (σ2 := σ) (fun f => rfl) (by decide) ?_
  refine pi_aq 4 (u := 1) (n := 4) (a := 47) (c := 50) (pc' := 25) (l' := [some (.ref 0), some (.int (nI W.nine)), some (.int (nI 1)), none, none, none, none]) (t := []) (σ' := σ) (fun f => rfl) (by omega) (by omega) rfl ?_
  refine pi_ca 3 (m' := 36) (l' := [some (.ref 50)]) (σ' := σ) (pc2 := 30) (l2 := [some (.ref 0), some (.int (nI W.nine)), some (.int (nI 1)), some (.ref 50), none, none, none]) (t := []) (fun f => rfl) (pi_C_lost1_f hR.k hq1) ?_
  rintro _ _ ⟨rfl, rfl⟩
  refine pi_ct 1 (c := nI 0 = 0) (pc' := 39) (l' := [some (.ref 0), some (.int (nI W.nine)), some (.int (nI 1)), some (.ref 50), none, none, none]) (st' := []) (σ' := σ) (pc2 := 33) (l2 := [some (.ref 0), some (.int (nI W.nine)), some (.int (nI 1)), some (.ref 50), none, none, none]) (st2 := []) (σ2 := σ) (fun f => rfl) (by decide) ?_
  refine pi_ca 3 (m' := 98) (l' := [some (.ref 0), some (.int (nI W.nine))]) (σ' := σ) (pc2 := 44) (l2 := [some (.ref 0), some (.int (nI W.nine)), some (.int (nI 1)), some (.ref 50), none, none, none]) (t := []) (fun f => rfl) (pi_C_behind_c hR.k) ?_
  rintro _ _ ⟨rfl, rfl⟩
  refine pi_go 4 (pc' := 53) (l' := [some (.ref 0), some (.int (nI W.nine)), some (.int (nI 1)), some (.ref 50), some (.ref 34), none, none]) (st' := [.int (σ 50 2)]) (σ' := σ) (fun f => rfl) ?_
  refine pi_tp (y := nI (W.si 1)) (hR.k.p.ss1.trans (z_sz_f hq1)) ?_
  refine pi_go 3 (pc' := 60) (l' := [some (.ref 0), some (.int (nI W.nine)), some (.int (nI 1)), some (.ref 50), some (.ref 34), none, none]) (st' := [.int (σ 1 8), .int (nI (W.si 1))]) (σ' := σ) (fun f => rfl) ?_
  refine pi_tp (y := nI W.nd) (hR.k.t.d) ?_
  refine pi_go 1 (pc' := 63) (l' := [some (.ref 0), some (.int (nI W.nine)), some (.int (nI 1)), some (.ref 50), some (.ref 34), none, none]) (st' := [.int (if nI W.nd < nI (W.si 1) then nI W.nd else nI (W.si 1))]) (σ' := σ) (fun f => rfl) ?_
  refine pi_tp (y := nI N) (z_min_N (by omega) (by omega) hN) ?_
  refine pi_go 3 (pc' := 68) (l' := [some (.ref 0), some (.int (nI W.nine)), some (.int (nI 1)), some (.ref 50), some (.ref 34), some (.int (nI N)), some (.int (nI 0))]) (st' := []) (σ' := σ) (fun f => rfl) ?_
  have hcr0 : z_CR W σ := hR
  have hfb : σ 35 = (z_A W).1.1.1 := hR.b
  have hfr0 : pi_fr z_CC σ σ := pi_fr_rf
  suffices hl1 : ∀ q9, q9 ≤ N → ∀ (z1 : pi_S), pi_fr z_CC z1 σ → (pi_fr [51] z1 σ ∧ ∀ j, j < 48 → z1 51 j = z_wr W 1 ((z_A W).1.1.1) q9 (48 * 1 + j)) → pi_wp xs L (d + 9) 91 68 [some (.ref 0), some (.int (nI W.nine)), some (.int (nI 1)), some (.ref 50), some (.ref 34), some (.int (nI N)), some (.int (nI q9))] [] z1 (fun v s => v = some (.int (nI N)) ∧ z_CR (W.sI 9 (z_wr W 1 ((z_A W).1.1.1) N)) s ∧ pi_fr z_CC s σ) from hl1 0 (by omega) _ (pi_fr_rf) (⟨pi_fr_rf, hcr0.k.p.si1⟩)
  refine pi_lp0 ?_ ?_
  · intro z1 hrz1 hx1
    refine pi_ct 3 (c := nI N ≤ nI N) (pc' := 94) (l' := [some (.ref 0), some (.int (nI W.nine)), some (.int (nI 1)), some (.ref 50), some (.ref 34), some (.int (nI N)), some (.int (nI N))]) (st' := []) (σ' := z1) (pc2 := 75) (l2 := [some (.ref 0), some (.int (nI W.nine)), some (.int (nI 1)), some (.ref 50), some (.ref 34), some (.int (nI N)), some (.int (nI N))]) (st2 := []) (σ2 := z1) (fun f => rfl) ((show nI N ≤ nI N ↔ _ from nI_leI (by omega) (by omega)).mpr (by omega)) ?_
    refine pi_rt 2 (v := some (.int (nI N))) (σ' := z1) (fun f => rfl) ?_
    exact ⟨rfl, hcr0.it1 hx1.2 (z_wr_o N (by omega)) hx1.1, pi_fr_tr hrz1 (by decide) (pi_fr_rf)⟩
  · intro q9 hi1 ih1 z1 hrz1 hx1
    refine pi_cf 3 (c := nI N ≤ nI q9) (pc' := 75) (l' := [some (.ref 0), some (.int (nI W.nine)), some (.int (nI 1)), some (.ref 50), some (.ref 34), some (.int (nI N)), some (.int (nI q9))]) (st' := []) (σ' := z1) (pc2 := 94) (l2 := [some (.ref 0), some (.int (nI W.nine)), some (.int (nI 1)), some (.ref 50), some (.ref 34), some (.int (nI N)), some (.int (nI q9))]) (st2 := []) (σ2 := z1) (fun f => rfl) (fun zq => absurd ((show nI N ≤ nI q9 ↔ _ from nI_leI (by omega) (by omega)).mp zq) (by omega)) ?_
    refine pi_ca 5 (m' := 23) (l' := [some (.ref 34), some (.int (nI q9)), none, none]) (σ' := z1) (pc2 := 85) (l2 := [some (.ref 0), some (.int (nI W.nine)), some (.int (nI 1)), some (.ref 50), some (.ref 34), some (.int (nI N)), some (.int (nI q9))]) (t := [.int (nI q9), .ref 50]) (fun f => rfl) (pi_C_all_c (by omega)) ?_
    rintro _ _ ⟨rfl, rfl⟩
    refine pi_tp (y := z_all ((z_A W).1.1.1) q9) (congrArg (fun z => z_all z q9) ((hx1.1 35 (by decide)).trans hfb)) ?_
    refine pi_ca 1 (m' := 41) (l' := [some (.ref 50), some (.int (nI q9)), some (.int (z_all ((z_A W).1.1.1) q9))]) (σ' := z1) (pc2 := 88) (l2 := [some (.ref 0), some (.int (nI W.nine)), some (.int (nI 1)), some (.ref 50), some (.ref 34), some (.int (nI N)), some (.int (nI q9))]) (t := []) (fun f => rfl) (pi_C_store1 (W := W) ((congrFun (hx1.1 50 (by decide)) 1).trans (hcr0.k.p.sf1)) (hk.si 1 (by omega)).2.1 ((congrFun (hx1.1 50 (by decide)) 2).trans (hcr0.k.p.ss1.trans (z_sz_f hq1))) (hk.si 1 (by omega)).1 (i := q9) (by omega) (z_all ((z_A W).1.1.1) q9)) ?_
    rintro _ t2 ⟨rfl, et2, rt2⟩
    refine pi_go 1 (pc' := 91) (l' := [some (.ref 0), some (.int (nI W.nine)), some (.int (nI 1)), some (.ref 50), some (.ref 34), some (.int (nI N)), some (.int (nI q9 + nI 1))]) (st' := []) (σ' := t2) (fun f => rfl) ?_
    rw [show nI q9 + nI 1 = nI (q9 + 1) from nI_add _ 1]
    refine pi_go 1 (pc' := 68) (l' := [some (.ref 0), some (.int (nI W.nine)), some (.int (nI 1)), some (.ref 50), some (.ref 34), some (.int (nI N)), some (.int (nI (q9 + 1)))]) (st' := []) (σ' := t2) (fun f => rfl) ?_
    exact ih1 _ (pi_fr_tr rt2 (by decide) (pi_fr_tr hrz1 (by decide) (pi_fr_rf))) (⟨pi_fr_tr rt2 (by decide) (hx1.1), fun j hj => (congrFun (et2) j).trans (z_wr_st rfl hx1.2 j hj)⟩)
set_option maxRecDepth 20000 in
theorem pi_X_write1t {xs : Nat → Int32} {L d : Nat} {W : zW} {σ : pi_S} (hR : z_CR W σ) {mi : Nat} (hmi : mi < W.nine) (hq1 : ¬ W.th 1 = 0) {N : Nat} (hN : N ≤ W.si 1 ∧ N ≤ W.nd ∧ (N = W.si 1 ∨ N = W.nd))  : pi_wp xs L (d + 9) 91 0 [some (.ref 0), some (.int (nI mi)), some (.int (nI 1)), none, none, none, none] [] σ (fun v s => v = some (.int (nI N)) ∧ z_CR (W.sI 9 (z_wr W 1 ((z_R W (-1) (-1) 0 (fun _ => 0) (mi + 1)).1.1.1) N)) s ∧ pi_fr z_CC s σ) := by
  have hk := hR.k.p.wk
  have hnd8 := hk.wd.nd8
  have hns12 := hk.wd.ns12
  have hn60 := hk.nine
  have hnf := hk.nf
  have hnw := hk.nw
  have hnc := hk.nc
  have hn08 := hk.wd.n0
  have hn140 := hk.wd.n1
  have hsi := hk.si 1 (by omega)
  refine pi_ca 3 (m' := 95) (l' := [some (.ref 0), some (.int (nI mi))]) (σ' := σ) (pc2 := 5) (l2 := [some (.ref 0), some (.int (nI mi)), some (.int (nI 1)), none, none, none, none]) (t := []) (fun f => rfl) (pi_C_toNineT hR.k (by omega)) ?_
  rintro _ _ ⟨rfl, rfl⟩
  refine pi_cf 1 (c := nI 1 = 0) (pc' := 8) (l' := [some (.ref 0), some (.int (nI mi)), some (.int (nI 1)), none, none, none, none]) (st' := []) (σ' := σ) (pc2 := 16) (l2 := [some (.ref 0), some (.int (nI mi)), some (.int (nI 1)), none, none, none, none]) (st2 := []) (σ2 := σ) (fun f => rfl) (by decide) ?_
  refine pi_ca 3 (m' := 94) (l' := [some (.int (nI 1)), some (.int (nI 4))]) (σ' := σ) (pc2 := 13) (l2 := [some (.ref 0), some (.int (nI mi)), some (.int (nI 1)), none, none, none, none]) (t := []) (fun f => rfl) (pi_below1 _ _ (z_BL (by omega) (by omega))) ?_
  rintro _ _ ⟨rfl, rfl⟩
  refine pi_cf 1 (c := nI 1 = 0) (pc' := 19) (l' := [some (.ref 0), some (.int (nI mi)), some (.int (nI 1)), none, none, none, none]) (st' := []) (σ' := σ) (pc2 := 16) (l2 := [some (.ref 0), some (.int (nI mi)), some (.int (nI 1)), none, none, none, none]) (st2 := []) (σ2 := σ) (fun f => rfl) (by decide) ?_
  refine pi_aq 4 (u := 1) (n := 4) (a := 47) (c := 50) (pc' := 25) (l' := [some (.ref 0), some (.int (nI mi)), some (.int (nI 1)), none, none, none, none]) (t := []) (σ' := σ) (fun f => rfl) (by omega) (by omega) rfl ?_
  refine pi_ca 3 (m' := 36) (l' := [some (.ref 50)]) (σ' := σ) (pc2 := 30) (l2 := [some (.ref 0), some (.int (nI mi)), some (.int (nI 1)), some (.ref 50), none, none, none]) (t := []) (fun f => rfl) (pi_C_lost1_f hR.k hq1) ?_
  rintro _ _ ⟨rfl, rfl⟩
  refine pi_ct 1 (c := nI 0 = 0) (pc' := 39) (l' := [some (.ref 0), some (.int (nI mi)), some (.int (nI 1)), some (.ref 50), none, none, none]) (st' := []) (σ' := σ) (pc2 := 33) (l2 := [some (.ref 0), some (.int (nI mi)), some (.int (nI 1)), some (.ref 50), none, none, none]) (st2 := []) (σ2 := σ) (fun f => rfl) (by decide) ?_
  refine pi_ca 3 (m' := 98) (l' := [some (.ref 0), some (.int (nI mi))]) (σ' := σ) (pc2 := 44) (l2 := [some (.ref 0), some (.int (nI mi)), some (.int (nI 1)), some (.ref 50), none, none, none]) (t := []) (fun f => rfl) (pi_C_behind_t hR (by omega)) ?_
  rintro _ t1 ⟨rfl, et1_1, et1_2, gt1, rt1⟩
  refine pi_go 4 (pc' := 53) (l' := [some (.ref 0), some (.int (nI mi)), some (.int (nI 1)), some (.ref 50), some (.ref 38), none, none]) (st' := [.int (t1 50 2)]) (σ' := t1) (fun f => rfl) ?_
  refine pi_tp (y := nI (W.si 1)) ((congrFun (rt1 50 (by decide)) 2).trans (hR.k.p.ss1.trans (z_sz_f hq1))) ?_
  refine pi_go 3 (pc' := 60) (l' := [some (.ref 0), some (.int (nI mi)), some (.int (nI 1)), some (.ref 50), some (.ref 38), none, none]) (st' := [.int (t1 1 8), .int (nI (W.si 1))]) (σ' := t1) (fun f => rfl) ?_
  refine pi_tp (y := nI W.nd) ((congrFun (rt1 1 (by decide)) 8).trans (hR.k.t.d)) ?_
  refine pi_go 1 (pc' := 63) (l' := [some (.ref 0), some (.int (nI mi)), some (.int (nI 1)), some (.ref 50), some (.ref 38), none, none]) (st' := [.int (if nI W.nd < nI (W.si 1) then nI W.nd else nI (W.si 1))]) (σ' := t1) (fun f => rfl) ?_
  refine pi_tp (y := nI N) (z_min_N (by omega) (by omega) hN) ?_
  refine pi_go 3 (pc' := 68) (l' := [some (.ref 0), some (.int (nI mi)), some (.int (nI 1)), some (.ref 50), some (.ref 38), some (.int (nI N)), some (.int (nI 0))]) (st' := []) (σ' := t1) (fun f => rfl) ?_
  have hcr0 : z_CR W t1 := gt1
  have hfb : t1 39 = (z_R W (-1) (-1) 0 (fun _ => 0) (mi + 1)).1.1.1 := et1_1
  have hfr0 : pi_fr z_CC t1 σ := pi_fr_tr rt1 (by decide) (pi_fr_rf)
  suffices hl2 : ∀ q9, q9 ≤ N → ∀ (z2 : pi_S), pi_fr z_CC z2 σ → (pi_fr [51] z2 t1 ∧ ∀ j, j < 48 → z2 51 j = z_wr W 1 ((z_R W (-1) (-1) 0 (fun _ => 0) (mi + 1)).1.1.1) q9 (48 * 1 + j)) → pi_wp xs L (d + 9) 91 68 [some (.ref 0), some (.int (nI mi)), some (.int (nI 1)), some (.ref 50), some (.ref 38), some (.int (nI N)), some (.int (nI q9))] [] z2 (fun v s => v = some (.int (nI N)) ∧ z_CR (W.sI 9 (z_wr W 1 ((z_R W (-1) (-1) 0 (fun _ => 0) (mi + 1)).1.1.1) N)) s ∧ pi_fr z_CC s σ) from hl2 0 (by omega) _ (pi_fr_tr rt1 (by decide) (pi_fr_rf)) (⟨pi_fr_rf, hcr0.k.p.si1⟩)
  refine pi_lp0 ?_ ?_
  · intro z2 hrz2 hx2
    refine pi_ct 3 (c := nI N ≤ nI N) (pc' := 94) (l' := [some (.ref 0), some (.int (nI mi)), some (.int (nI 1)), some (.ref 50), some (.ref 38), some (.int (nI N)), some (.int (nI N))]) (st' := []) (σ' := z2) (pc2 := 75) (l2 := [some (.ref 0), some (.int (nI mi)), some (.int (nI 1)), some (.ref 50), some (.ref 38), some (.int (nI N)), some (.int (nI N))]) (st2 := []) (σ2 := z2) (fun f => rfl) ((show nI N ≤ nI N ↔ _ from nI_leI (by omega) (by omega)).mpr (by omega)) ?_
    refine pi_rt 2 (v := some (.int (nI N))) (σ' := z2) (fun f => rfl) ?_
    exact ⟨rfl, hcr0.it1 hx2.2 (z_wr_o N (by omega)) hx2.1, pi_fr_tr hrz2 (by decide) (pi_fr_rf)⟩
  · intro q9 hi2 ih2 z2 hrz2 hx2
    refine pi_cf 3 (c := nI N ≤ nI q9) (pc' := 75) (l' := [some (.ref 0), some (.int (nI mi)), some (.int (nI 1)), some (.ref 50), some (.ref 38), some (.int (nI N)), some (.int (nI q9))]) (st' := []) (σ' := z2) (pc2 := 94) (l2 := [some (.ref 0), some (.int (nI mi)), some (.int (nI 1)), some (.ref 50), some (.ref 38), some (.int (nI N)), some (.int (nI q9))]) (st2 := []) (σ2 := z2) (fun f => rfl) (fun zq => absurd ((show nI N ≤ nI q9 ↔ _ from nI_leI (by omega) (by omega)).mp zq) (by omega)) ?_
    refine pi_ca 5 (m' := 23) (l' := [some (.ref 38), some (.int (nI q9)), none, none]) (σ' := z2) (pc2 := 85) (l2 := [some (.ref 0), some (.int (nI mi)), some (.int (nI 1)), some (.ref 50), some (.ref 38), some (.int (nI N)), some (.int (nI q9))]) (t := [.int (nI q9), .ref 50]) (fun f => rfl) (pi_C_all_t (by omega)) ?_
    rintro _ _ ⟨rfl, rfl⟩
    refine pi_tp (y := z_all ((z_R W (-1) (-1) 0 (fun _ => 0) (mi + 1)).1.1.1) q9) (congrArg (fun z => z_all z q9) ((hx2.1 39 (by decide)).trans hfb)) ?_
    refine pi_ca 1 (m' := 41) (l' := [some (.ref 50), some (.int (nI q9)), some (.int (z_all ((z_R W (-1) (-1) 0 (fun _ => 0) (mi + 1)).1.1.1) q9))]) (σ' := z2) (pc2 := 88) (l2 := [some (.ref 0), some (.int (nI mi)), some (.int (nI 1)), some (.ref 50), some (.ref 38), some (.int (nI N)), some (.int (nI q9))]) (t := []) (fun f => rfl) (pi_C_store1 (W := W) ((congrFun (hx2.1 50 (by decide)) 1).trans (hcr0.k.p.sf1)) (hk.si 1 (by omega)).2.1 ((congrFun (hx2.1 50 (by decide)) 2).trans (hcr0.k.p.ss1.trans (z_sz_f hq1))) (hk.si 1 (by omega)).1 (i := q9) (by omega) (z_all ((z_R W (-1) (-1) 0 (fun _ => 0) (mi + 1)).1.1.1) q9)) ?_
    rintro _ t3 ⟨rfl, et3, rt3⟩
    refine pi_go 1 (pc' := 91) (l' := [some (.ref 0), some (.int (nI mi)), some (.int (nI 1)), some (.ref 50), some (.ref 38), some (.int (nI N)), some (.int (nI q9 + nI 1))]) (st' := []) (σ' := t3) (fun f => rfl) ?_
    rw [show nI q9 + nI 1 = nI (q9 + 1) from nI_add _ 1]
    refine pi_go 1 (pc' := 68) (l' := [some (.ref 0), some (.int (nI mi)), some (.int (nI 1)), some (.ref 50), some (.ref 38), some (.int (nI N)), some (.int (nI (q9 + 1)))]) (st' := []) (σ' := t3) (fun f => rfl) ?_
    exact ih2 _ (pi_fr_tr rt3 (by decide) (pi_fr_tr hrz2 (by decide) (pi_fr_rf))) (⟨pi_fr_tr rt3 (by decide) (hx2.1), fun j hj => (congrFun (et3) j).trans (z_wr_st rfl hx2.2 j hj)⟩)
set_option maxRecDepth 20000 in
theorem pi_C_readH2 {xs : Nat → Int32} {L d : Nat} {W : zW} {σ : pi_S} (hc : z_CK W σ) {N : Nat} (hq1 : ¬ W.th 2 = 0) (hrs : z_rs W 2 N)  : pi_wp xs L (d + 2) 29 0 [some (.ref 12), some (.ref 52), none] [] σ (fun v s => v = some (.int (nI N)) ∧ (∀ j, j < 8 → s 14 j = z_rh W 2 N j) ∧ pi_fr [14] s σ) := by
  have hk := hc.p.wk
  have hnd8 := hk.wd.nd8
  have hns12 := hk.wd.ns12
  have hn60 := hk.nine
  have hnf := hk.nf
  have hnw := hk.nw
  have hnc := hk.nc
  have hn08 := hk.wd.n0
  have hn140 := hk.wd.n1
  have hsi := hk.si 2 (by omega)
  refine pi_go 2 (pc' := 2) (l' := [some (.ref 12), some (.ref 52), some (.int (nI 0))]) (st' := []) (σ' := σ) (fun f => rfl) ?_
  suffices hl1 : ∀ i, i ≤ N → ∀ (z1 : pi_S), pi_fr [14] z1 σ → (∀ j, j < 8 → z1 14 j = z_rh W 2 i j) → pi_wp xs L (d + 2) 29 2 [some (.ref 12), some (.ref 52), some (.int (nI i))] [] z1 (fun v s => v = some (.int (nI N)) ∧ (∀ j, j < 8 → s 14 j = z_rh W 2 N j) ∧ pi_fr [14] s σ) from hl1 0 (by omega) _ (pi_fr_rf) (hc.p.hd)
  refine pi_lp0 ?_ ?_
  · intro z1 hrz1 hx1
    have hi8 : N ≤ 8 ∧ N ≤ W.si 2 := ⟨hrs.1, hrs.2.1⟩
    refine pi_if 3 (c := nI 8 ≤ nI N) (pc' := 44) (l' := [some (.ref 12), some (.ref 52), some (.int (nI N))]) (st' := []) (σ' := z1) (pc2 := 8) (l2 := [some (.ref 12), some (.ref 52), some (.int (nI N))]) (st2 := []) (σ2 := z1) (fun f => rfl) (fun h1 => ?_) (fun h1 => ?_)
    · replace h1 : 8 ≤ N := (nI_leI (by omega) (by omega)).mp h1
      refine pi_rt 2 (v := some (.int (nI N))) (σ' := z1) (fun f => rfl) ?_
      exact ⟨rfl, hx1, pi_fr_tr hrz1 (by decide) (pi_fr_rf)⟩
    · replace h1 : ¬ (8 ≤ N) := fun zq => h1 ((nI_leI (by omega) (by omega)).mpr zq)
      refine pi_go 3 (pc' := 13) (l' := [some (.ref 12), some (.ref 52), some (.int (nI N))]) (st' := [.int (z1 52 2), .int (nI N)]) (σ' := z1) (fun f => rfl) ?_
      refine pi_tp (y := nI (W.si 2)) ((congrFun (hrz1 52 (by decide)) 2).trans (hc.p.ss2.trans (z_sz_f hq1))) ?_
      refine pi_if 1 (c := nI (W.si 2) ≤ nI N) (pc' := 44) (l' := [some (.ref 12), some (.ref 52), some (.int (nI N))]) (st' := []) (σ' := z1) (pc2 := 16) (l2 := [some (.ref 12), some (.ref 52), some (.int (nI N))]) (st2 := []) (σ2 := z1) (fun f => rfl) (fun h2 => ?_) (fun h2 => ?_)
      · replace h2 : (W.si 2) ≤ N := (nI_leI (by omega) (by omega)).mp h2
        refine pi_rt 2 (v := some (.int (nI N))) (σ' := z1) (fun f => rfl) ?_
        exact ⟨rfl, hx1, pi_fr_tr hrz1 (by decide) (pi_fr_rf)⟩
      · replace h2 : ¬ ((W.si 2) ≤ N) := fun zq => h2 ((nI_leI (by omega) (by omega)).mpr zq)
        refine pi_ca 3 (m' := 40) (l' := [some (.ref 52), some (.int (nI N))]) (σ' := z1) (pc2 := 21) (l2 := [some (.ref 12), some (.ref 52), some (.int (nI N))]) (t := []) (fun f => rfl) (pi_C_itemAt2 (W := W) (i := N) ((congrFun (hrz1 52 (by decide)) 2).trans (hc.p.ss2.trans (z_sz_f hq1))) (hk.si 2 (by omega)).1 ((congrFun (hrz1 53 (by decide)) N).trans ((hc.p.si2 N (by omega)))) (by omega)) ?_
        rintro _ _ ⟨rfl, rfl⟩
        refine pi_ca 1 (m' := 28) (l' := [some (.int (W.it (48 * 2 + N)))]) (σ' := z1) (pc2 := 24) (l2 := [some (.ref 12), some (.ref 52), some (.int (nI N))]) (t := []) (fun f => rfl) (pi_C_isHold (W.it (48 * 2 + N))) ?_
        rintro _ _ (⟨b3, rfl, rfl⟩ | ⟨b3, rfl, rfl⟩)
        · refine pi_cf 1 (c := nI 1 = 0) (pc' := 27) (l' := [some (.ref 12), some (.ref 52), some (.int (nI N))]) (st' := []) (σ' := z1) (pc2 := 44) (l2 := [some (.ref 12), some (.ref 52), some (.int (nI N))]) (st2 := []) (σ2 := z1) (fun f => rfl) (by decide) ?_
          exact absurd hrs.2.2.2 (fun q => q.elim (fun q => absurd q (by omega)) (fun q => q.elim (fun q => absurd q (by omega)) (fun q => q b3)))
        · refine pi_ct 1 (c := nI 0 = 0) (pc' := 44) (l' := [some (.ref 12), some (.ref 52), some (.int (nI N))]) (st' := []) (σ' := z1) (pc2 := 27) (l2 := [some (.ref 12), some (.ref 52), some (.int (nI N))]) (st2 := []) (σ2 := z1) (fun f => rfl) (by decide) ?_
          refine pi_rt 2 (v := some (.int (nI N))) (σ' := z1) (fun f => rfl) ?_
          exact ⟨rfl, hx1, pi_fr_tr hrz1 (by decide) (pi_fr_rf)⟩
  · intro i hi1 ih1 z1 hrz1 hx1
    have hj : z_B 100 (W.it (48 * 2 + i)) := hrs.2.2.1 i hi1
    have hi8 : i < 8 ∧ i < W.si 2 := ⟨by have := hrs.1; omega, by have := hrs.2.1; omega⟩
    refine pi_cf 3 (c := nI 8 ≤ nI i) (pc' := 8) (l' := [some (.ref 12), some (.ref 52), some (.int (nI i))]) (st' := []) (σ' := z1) (pc2 := 44) (l2 := [some (.ref 12), some (.ref 52), some (.int (nI i))]) (st2 := []) (σ2 := z1) (fun f => rfl) (fun zq => absurd ((show nI 8 ≤ nI i ↔ _ from nI_leI (by omega) (by omega)).mp zq) (by omega)) ?_
    refine pi_go 3 (pc' := 13) (l' := [some (.ref 12), some (.ref 52), some (.int (nI i))]) (st' := [.int (z1 52 2), .int (nI i)]) (σ' := z1) (fun f => rfl) ?_
    refine pi_tp (y := nI (W.si 2)) ((congrFun (hrz1 52 (by decide)) 2).trans (hc.p.ss2.trans (z_sz_f hq1))) ?_
    refine pi_cf 1 (c := nI (W.si 2) ≤ nI i) (pc' := 16) (l' := [some (.ref 12), some (.ref 52), some (.int (nI i))]) (st' := []) (σ' := z1) (pc2 := 44) (l2 := [some (.ref 12), some (.ref 52), some (.int (nI i))]) (st2 := []) (σ2 := z1) (fun f => rfl) (fun zq => absurd ((show nI (W.si 2) ≤ nI i ↔ _ from nI_leI (by omega) (by omega)).mp zq) (by omega)) ?_
    refine pi_ca 3 (m' := 40) (l' := [some (.ref 52), some (.int (nI i))]) (σ' := z1) (pc2 := 21) (l2 := [some (.ref 12), some (.ref 52), some (.int (nI i))]) (t := []) (fun f => rfl) (pi_C_itemAt2 (W := W) (i := i) ((congrFun (hrz1 52 (by decide)) 2).trans (hc.p.ss2.trans (z_sz_f hq1))) (hk.si 2 (by omega)).1 ((congrFun (hrz1 53 (by decide)) i).trans ((hc.p.si2 i (by omega)))) (by omega)) ?_
    rintro _ _ ⟨rfl, rfl⟩
    refine pi_ca 1 (m' := 28) (l' := [some (.int (W.it (48 * 2 + i)))]) (σ' := z1) (pc2 := 24) (l2 := [some (.ref 12), some (.ref 52), some (.int (nI i))]) (t := []) (fun f => rfl) (pi_C_isHoldT hj) ?_
    rintro _ _ ⟨rfl, rfl⟩
    refine pi_cf 1 (c := nI 1 = 0) (pc' := 27) (l' := [some (.ref 12), some (.ref 52), some (.int (nI i))]) (st' := []) (σ' := z1) (pc2 := 44) (l2 := [some (.ref 12), some (.ref 52), some (.int (nI i))]) (st2 := []) (σ2 := z1) (fun f => rfl) (by decide) ?_
    refine pi_ca 6 (m' := 40) (l' := [some (.ref 52), some (.int (nI i))]) (σ' := z1) (pc2 := 37) (l2 := [some (.ref 12), some (.ref 52), some (.int (nI i))]) (t := [.int (nI i), .ref 14]) (fun f => rfl) (pi_C_itemAt2 (W := W) (i := i) ((congrFun (hrz1 52 (by decide)) 2).trans (hc.p.ss2.trans (z_sz_f hq1))) (hk.si 2 (by omega)).1 ((congrFun (hrz1 53 (by decide)) i).trans ((hc.p.si2 i (by omega)))) (by omega)) ?_
    rintro _ _ ⟨rfl, rfl⟩
    refine pi_au 1 (u := i) (n := 8) (a := 14) (x := W.it (48 * 2 + i)) (pc' := 38) (l' := [some (.ref 12), some (.ref 52), some (.int (nI i))]) (t := []) (σ' := z1) (fun f => rfl) (by omega) (by omega) ?_
    generalize es2 : pi_up z1 14 i (W.it (48 * 2 + i)) = s2
    refine pi_go 1 (pc' := 41) (l' := [some (.ref 12), some (.ref 52), some (.int (nI i + nI 1))]) (st' := []) (σ' := s2) (fun f => rfl) ?_
    rw [show nI i + nI 1 = nI (i + 1) from nI_add _ 1]
    refine pi_go 1 (pc' := 2) (l' := [some (.ref 12), some (.ref 52), some (.int (nI (i + 1)))]) (st' := []) (σ' := s2) (fun f => rfl) ?_
    exact ih1 _ (pi_fr_of es2 (by decide) (pi_fr_tr hrz1 (by decide) (pi_fr_rf))) ((fun j hj8 => (congrFun ((congrFun es2 14).symm.trans ((pi_up_self _ _ _ _))) j).trans (z_upd_c (hx1 j hj8))))
set_option maxRecDepth 20000 in
theorem pi_X_read2_null {xs : Nat → Int32} {L d : Nat} {W : zW} {σ : pi_S} (hR : z_CR W σ) (hq0 : W.th 2 = 0)  : pi_wp xs L (d + 9) 67 0 [some (.ref 0), some (.int (nI 2)), none] [] σ (fun v s => v = some (.int ((-10) - (nI 1))) ∧ z_CR (W.sS 0 (nI 1)) s ∧ pi_fr z_CC s σ) := by
  have hk := hR.k.p.wk
  have hnd8 := hk.wd.nd8
  have hns12 := hk.wd.ns12
  have hn60 := hk.nine
  have hnf := hk.nf
  have hnw := hk.nw
  have hnc := hk.nc
  have hn08 := hk.wd.n0
  have hn140 := hk.wd.n1
  refine pi_ca 3 (m' := 94) (l' := [some (.int (nI 2)), some (.int (nI 4))]) (σ' := σ) (pc2 := 5) (l2 := [some (.ref 0), some (.int (nI 2)), none]) (t := []) (fun f => rfl) (pi_below1 _ _ (z_BL (by omega) (by omega))) ?_
  rintro _ _ ⟨rfl, rfl⟩
  refine pi_cf 1 (c := nI 1 = 0) (pc' := 11) (l' := [some (.ref 0), some (.int (nI 2)), none]) (st' := []) (σ' := σ) (pc2 := 8) (l2 := [some (.ref 0), some (.int (nI 2)), none]) (st2 := []) (σ2 := σ) (fun f => rfl) (by decide) ?_
  refine pi_aq 4 (u := 2) (n := 4) (a := 47) (c := 52) (pc' := 17) (l' := [some (.ref 0), some (.int (nI 2)), none]) (t := []) (σ' := σ) (fun f => rfl) (by omega) (by omega) rfl ?_
  refine pi_ca 3 (m' := 36) (l' := [some (.ref 52)]) (σ' := σ) (pc2 := 22) (l2 := [some (.ref 0), some (.int (nI 2)), some (.ref 52)]) (t := []) (fun f => rfl) (pi_C_lost2_t hR.k hq0) ?_
  rintro _ _ ⟨rfl, rfl⟩
  refine pi_cf 1 (c := nI 1 = 0) (pc' := 25) (l' := [some (.ref 0), some (.int (nI 2)), some (.ref 52)]) (st' := []) (σ' := σ) (pc2 := 31) (l2 := [some (.ref 0), some (.int (nI 2)), some (.ref 52)]) (st2 := []) (σ2 := σ) (fun f => rfl) (by decide) ?_
  refine pi_ca 3 (m' := 96) (l' := [some (.ref 0), some (.int (nI 1))]) (σ' := σ) (pc2 := 30) (l2 := [some (.ref 0), some (.int (nI 2)), some (.ref 52)]) (t := []) (fun f => rfl) (pi_C_found (nI 1)) ?_
  rintro _ t1 ⟨rfl, et1, kt1, rt1⟩
  refine pi_rt 1 (v := some (.int ((-10) - (nI 1)))) (σ' := t1) (fun f => rfl) ?_
  have hfr : pi_fr [0] t1 σ := pi_fr_tr rt1 (by decide) (pi_fr_rf)
  exact ⟨rfl, hR.fnd (et1) hfr, pi_fr_tr hfr (by decide) pi_fr_rf⟩
set_option maxRecDepth 20000 in
theorem pi_X_read2 {xs : Nat → Int32} {L d : Nat} {W : zW} {σ : pi_S} (hR : z_CR W σ) {N : Nat} (hq1 : ¬ W.th 2 = 0) (hrs : z_rs W 2 N)  : pi_wp xs L (d + 9) 67 0 [some (.ref 0), some (.int (nI 2)), none] [] σ (fun v s => v = some (.int (nI N)) ∧ z_CR (W.sI 2 (z_rh W 2 N)) s ∧ pi_fr z_CC s σ) := by
  have hk := hR.k.p.wk
  have hnd8 := hk.wd.nd8
  have hns12 := hk.wd.ns12
  have hn60 := hk.nine
  have hnf := hk.nf
  have hnw := hk.nw
  have hnc := hk.nc
  have hn08 := hk.wd.n0
  have hn140 := hk.wd.n1
  refine pi_ca 3 (m' := 94) (l' := [some (.int (nI 2)), some (.int (nI 4))]) (σ' := σ) (pc2 := 5) (l2 := [some (.ref 0), some (.int (nI 2)), none]) (t := []) (fun f => rfl) (pi_below1 _ _ (z_BL (by omega) (by omega))) ?_
  rintro _ _ ⟨rfl, rfl⟩
  refine pi_cf 1 (c := nI 1 = 0) (pc' := 11) (l' := [some (.ref 0), some (.int (nI 2)), none]) (st' := []) (σ' := σ) (pc2 := 8) (l2 := [some (.ref 0), some (.int (nI 2)), none]) (st2 := []) (σ2 := σ) (fun f => rfl) (by decide) ?_
  refine pi_aq 4 (u := 2) (n := 4) (a := 47) (c := 52) (pc' := 17) (l' := [some (.ref 0), some (.int (nI 2)), none]) (t := []) (σ' := σ) (fun f => rfl) (by omega) (by omega) rfl ?_
  refine pi_ca 3 (m' := 36) (l' := [some (.ref 52)]) (σ' := σ) (pc2 := 22) (l2 := [some (.ref 0), some (.int (nI 2)), some (.ref 52)]) (t := []) (fun f => rfl) (pi_C_lost2_f hR.k hq1) ?_
  rintro _ _ ⟨rfl, rfl⟩
  refine pi_ct 1 (c := nI 0 = 0) (pc' := 31) (l' := [some (.ref 0), some (.int (nI 2)), some (.ref 52)]) (st' := []) (σ' := σ) (pc2 := 25) (l2 := [some (.ref 0), some (.int (nI 2)), some (.ref 52)]) (st2 := []) (σ2 := σ) (fun f => rfl) (by decide) ?_
  refine pi_ca 5 (m' := 29) (l' := [some (.ref 12), some (.ref 52), none]) (σ' := σ) (pc2 := 40) (l2 := [some (.ref 0), some (.int (nI 2)), some (.ref 52)]) (t := [.ref 0]) (fun f => rfl) (pi_C_readH2 hR.k hq1 hrs) ?_
  rintro _ t1 ⟨rfl, et1, rt1⟩
  have hcp : z_CP (W.sI 2 (z_rh W 2 N)) t1 := hR.k.p.re (z_rh_b hk hrs) et1 (pi_fr_tr rt1 (by decide) (pi_fr_rf))
  have hct : z_CT (W.sI 2 (z_rh W 2 N)) t1 := (hR.k.t.of2 (pi_fr_tr rt1 (by decide) (pi_fr_rf)) : z_CT W t1)
  have hck := z_CK.mk hcp hct
  refine pi_ca 1 (m' := 97) (l' := [some (.ref 0), some (.int (nI N))]) (σ' := t1) (pc2 := 43) (l2 := [some (.ref 0), some (.int (nI 2)), some (.ref 52)]) (t := []) (fun f => rfl) (pi_C_settled hck (hR.tl.of (pi_fr_tr rt1 (by decide) (pi_fr_rf))) (nI N)) ?_
  rintro _ t2 ⟨rfl, gt2, rt2⟩
  refine pi_rt 1 (v := some (.int (nI N))) (σ' := t2) (fun f => rfl) ?_
  exact ⟨rfl, gt2, pi_fr_tr rt2 (by decide) (pi_fr_tr rt1 (by decide) (pi_fr_rf))⟩
set_option maxRecDepth 20000 in
theorem pi_X_sheet2 {xs : Nat → Int32} {L d : Nat} {W : zW} {σ : pi_S} (hR : z_CR W σ) {f n : Nat} (hf3 : f < 3) (hn : n ≤ 48)  : pi_wp xs L (d + 9) 86 0 [some (.ref 0), some (.int (nI 2)), some (.int (nI f)), some (.int (nI n))] [] σ (fun v s => v = some (.int (nI n)) ∧ z_CR ((((W.sF 8 (z_u W.th 2 1)).sF 4 (z_u W.fo 2 f)).sF 5 (z_u W.si 2 n)).sI 9 (z_c48 2 48 W.it)) s ∧ pi_fr z_CC s σ) := by
  have hk := hR.k.p.wk
  have hnd8 := hk.wd.nd8
  have hns12 := hk.wd.ns12
  have hn60 := hk.nine
  have hnf := hk.nf
  have hnw := hk.nw
  have hnc := hk.nc
  have hn08 := hk.wd.n0
  have hn140 := hk.wd.n1
  refine pi_ca 3 (m' := 94) (l' := [some (.int (nI 2)), some (.int (nI 4))]) (σ' := σ) (pc2 := 5) (l2 := [some (.ref 0), some (.int (nI 2)), some (.int (nI f)), some (.int (nI n))]) (t := []) (fun f => rfl) (pi_below1 _ _ (z_BL (by omega) (by omega))) ?_
  rintro _ _ ⟨rfl, rfl⟩
  refine pi_cf 1 (c := nI 1 = 0) (pc' := 8) (l' := [some (.ref 0), some (.int (nI 2)), some (.int (nI f)), some (.int (nI n))]) (st' := []) (σ' := σ) (pc2 := 22) (l2 := [some (.ref 0), some (.int (nI 2)), some (.int (nI f)), some (.int (nI n))]) (st2 := []) (σ2 := σ) (fun f => rfl) (by decide) ?_
  refine pi_ca 3 (m' := 94) (l' := [some (.int (nI f)), some (.int (nI 3))]) (σ' := σ) (pc2 := 13) (l2 := [some (.ref 0), some (.int (nI 2)), some (.int (nI f)), some (.int (nI n))]) (t := []) (fun f => rfl) (pi_below1 _ _ (z_BL (by omega) (by omega))) ?_
  rintro _ _ ⟨rfl, rfl⟩
  refine pi_cf 1 (c := nI 1 = 0) (pc' := 16) (l' := [some (.ref 0), some (.int (nI 2)), some (.int (nI f)), some (.int (nI n))]) (st' := []) (σ' := σ) (pc2 := 22) (l2 := [some (.ref 0), some (.int (nI 2)), some (.int (nI f)), some (.int (nI n))]) (st2 := []) (σ2 := σ) (fun f => rfl) (by decide) ?_
  refine pi_ct 3 (c := nI n ≤ nI 48) (pc' := 25) (l' := [some (.ref 0), some (.int (nI 2)), some (.int (nI f)), some (.int (nI n))]) (st' := []) (σ' := σ) (pc2 := 22) (l2 := [some (.ref 0), some (.int (nI 2)), some (.int (nI f)), some (.int (nI n))]) (st2 := []) (σ2 := σ) (fun f => rfl) ((nI_leI (by omega) (by omega)).mpr hn) ?_
  refine pi_ct 2 (c := 0 ≤ nI n) (pc' := 35) (l' := [some (.ref 0), some (.int (nI 2)), some (.int (nI f)), some (.int (nI n))]) (st' := []) (σ' := σ) (pc2 := 29) (l2 := [some (.ref 0), some (.int (nI 2)), some (.int (nI f)), some (.int (nI n))]) (st2 := []) (σ2 := σ) (fun f => rfl) (Int32.not_lt.mp (z_ltz (by omega))) ?_
  refine pi_aq 4 (u := 2) (n := 4) (a := 47) (c := 52) (pc' := 41) (l' := [some (.ref 0), some (.int (nI 2)), some (.int (nI f)), some (.int (nI n))]) (t := []) (σ' := σ) (fun f => rfl) (by omega) (by omega) rfl ?_
  refine pi_ca 3 (m' := 37) (l' := [some (.ref 52), some (.int (nI f)), some (.int (nI n)), none]) (σ' := σ) (pc2 := 46) (l2 := [some (.ref 0), some (.int (nI 2)), some (.int (nI f)), some (.int (nI n))]) (t := []) (fun f => rfl) (pi_C_renew2 hR.k hf3 hn) ?_
  rintro _ t1 ⟨rfl, et1_1, et1_2, et1_3, rt1⟩
  refine pi_rt 2 (v := some (.int (nI n))) (σ' := t1) (fun f => rfl) ?_
  have hfr : pi_fr [52, 53] t1 σ := pi_fr_tr rt1 (by decide) (pi_fr_rf)
  exact ⟨rfl, hR.sheet2 hf3 hn et1_1 et1_2 et1_3 hfr, pi_fr_tr hfr (by decide) pi_fr_rf⟩
set_option maxRecDepth 20000 in
theorem pi_X_lose2_null {xs : Nat → Int32} {L d : Nat} {W : zW} {σ : pi_S} (hR : z_CR W σ) (hq0 : W.th 2 = 0)  : pi_wp xs L (d + 9) 87 0 [some (.ref 0), some (.int (nI 2)), none, none] [] σ (fun v s => v = some (.int ((-10) - (nI 1))) ∧ z_CR (W.sS 0 (nI 1)) s ∧ pi_fr z_CC s σ) := by
  have hk := hR.k.p.wk
  have hnd8 := hk.wd.nd8
  have hns12 := hk.wd.ns12
  have hn60 := hk.nine
  have hnf := hk.nf
  have hnw := hk.nw
  have hnc := hk.nc
  have hn08 := hk.wd.n0
  have hn140 := hk.wd.n1
  refine pi_ca 3 (m' := 94) (l' := [some (.int (nI 2)), some (.int (nI 4))]) (σ' := σ) (pc2 := 5) (l2 := [some (.ref 0), some (.int (nI 2)), none, none]) (t := []) (fun f => rfl) (pi_below1 _ _ (z_BL (by omega) (by omega))) ?_
  rintro _ _ ⟨rfl, rfl⟩
  refine pi_cf 1 (c := nI 1 = 0) (pc' := 11) (l' := [some (.ref 0), some (.int (nI 2)), none, none]) (st' := []) (σ' := σ) (pc2 := 8) (l2 := [some (.ref 0), some (.int (nI 2)), none, none]) (st2 := []) (σ2 := σ) (fun f => rfl) (by decide) ?_
  refine pi_aq 4 (u := 2) (n := 4) (a := 47) (c := 52) (pc' := 17) (l' := [some (.ref 0), some (.int (nI 2)), none, none]) (t := []) (σ' := σ) (fun f => rfl) (by omega) (by omega) rfl ?_
  refine pi_ca 3 (m' := 36) (l' := [some (.ref 52)]) (σ' := σ) (pc2 := 22) (l2 := [some (.ref 0), some (.int (nI 2)), some (.ref 52), none]) (t := []) (fun f => rfl) (pi_C_lost2_t hR.k hq0) ?_
  rintro _ _ ⟨rfl, rfl⟩
  refine pi_cf 1 (c := nI 1 = 0) (pc' := 25) (l' := [some (.ref 0), some (.int (nI 2)), some (.ref 52), none]) (st' := []) (σ' := σ) (pc2 := 31) (l2 := [some (.ref 0), some (.int (nI 2)), some (.ref 52), none]) (st2 := []) (σ2 := σ) (fun f => rfl) (by decide) ?_
  refine pi_ca 3 (m' := 96) (l' := [some (.ref 0), some (.int (nI 1))]) (σ' := σ) (pc2 := 30) (l2 := [some (.ref 0), some (.int (nI 2)), some (.ref 52), none]) (t := []) (fun f => rfl) (pi_C_found (nI 1)) ?_
  rintro _ t1 ⟨rfl, et1, kt1, rt1⟩
  refine pi_rt 1 (v := some (.int ((-10) - (nI 1)))) (σ' := t1) (fun f => rfl) ?_
  have hfr : pi_fr [0] t1 σ := pi_fr_tr rt1 (by decide) (pi_fr_rf)
  exact ⟨rfl, hR.fnd (et1) hfr, pi_fr_tr hfr (by decide) pi_fr_rf⟩
set_option maxRecDepth 20000 in
theorem pi_X_lose2 {xs : Nat → Int32} {L d : Nat} {W : zW} {σ : pi_S} (hR : z_CR W σ) (hq1 : ¬ W.th 2 = 0)  : pi_wp xs L (d + 9) 87 0 [some (.ref 0), some (.int (nI 2)), none, none] [] σ (fun v s => v = some (.int (nI (W.si 2))) ∧ z_CR (W.sF 8 (z_u W.th 2 0)) s ∧ pi_fr z_CC s σ) := by
  have hk := hR.k.p.wk
  have hnd8 := hk.wd.nd8
  have hns12 := hk.wd.ns12
  have hn60 := hk.nine
  have hnf := hk.nf
  have hnw := hk.nw
  have hnc := hk.nc
  have hn08 := hk.wd.n0
  have hn140 := hk.wd.n1
  refine pi_ca 3 (m' := 94) (l' := [some (.int (nI 2)), some (.int (nI 4))]) (σ' := σ) (pc2 := 5) (l2 := [some (.ref 0), some (.int (nI 2)), none, none]) (t := []) (fun f => rfl) (pi_below1 _ _ (z_BL (by omega) (by omega))) ?_
  rintro _ _ ⟨rfl, rfl⟩
  refine pi_cf 1 (c := nI 1 = 0) (pc' := 11) (l' := [some (.ref 0), some (.int (nI 2)), none, none]) (st' := []) (σ' := σ) (pc2 := 8) (l2 := [some (.ref 0), some (.int (nI 2)), none, none]) (st2 := []) (σ2 := σ) (fun f => rfl) (by decide) ?_
  refine pi_aq 4 (u := 2) (n := 4) (a := 47) (c := 52) (pc' := 17) (l' := [some (.ref 0), some (.int (nI 2)), none, none]) (t := []) (σ' := σ) (fun f => rfl) (by omega) (by omega) rfl ?_
  refine pi_ca 3 (m' := 36) (l' := [some (.ref 52)]) (σ' := σ) (pc2 := 22) (l2 := [some (.ref 0), some (.int (nI 2)), some (.ref 52), none]) (t := []) (fun f => rfl) (pi_C_lost2_f hR.k hq1) ?_
  rintro _ _ ⟨rfl, rfl⟩
  refine pi_ct 1 (c := nI 0 = 0) (pc' := 31) (l' := [some (.ref 0), some (.int (nI 2)), some (.ref 52), none]) (st' := []) (σ' := σ) (pc2 := 25) (l2 := [some (.ref 0), some (.int (nI 2)), some (.ref 52), none]) (st2 := []) (σ2 := σ) (fun f => rfl) (by decide) ?_
  refine pi_go 2 (pc' := 35) (l' := [some (.ref 0), some (.int (nI 2)), some (.ref 52), none]) (st' := [.int (σ 52 2)]) (σ' := σ) (fun f => rfl) ?_
  refine pi_tp (y := nI (W.si 2)) (hR.k.p.ss2.trans (z_sz_f hq1)) ?_
  refine pi_go 4 (pc' := 41) (l' := [some (.ref 0), some (.int (nI 2)), some (.ref 52), some (.int (nI (W.si 2)))]) (st' := []) (σ' := (pi_up σ 52 2 (-1))) (fun f => rfl) ?_
  generalize es1 : pi_up σ 52 2 (-1) = s1
  refine pi_rt 2 (v := some (.int (nI (W.si 2)))) (σ' := s1) (fun f => rfl) ?_
  have hfr : pi_fr [52] s1 σ := pi_fr_of es1 (by decide) (pi_fr_rf)
  exact ⟨rfl, hR.lose2 ((congrFun (congrFun es1 52) 1).symm.trans ((pi_up_sn _ _ _ (by decide)).trans (rfl))) ((congrFun (congrFun es1 52) 2).symm.trans (pi_up_ss _ _ _ _)) hfr, pi_fr_tr hfr (by decide) pi_fr_rf⟩
set_option maxRecDepth 20000 in
theorem pi_X_put2_1 {xs : Nat → Int32} {L d : Nat} {W : zW} {σ : pi_S} (hR : z_CR W σ) {f : Nat} {i x : Int32} (hf3 : f < 3) (hq0 : W.th 2 = 0)  : pi_wp xs L (d + 9) 88 0 [some (.ref 0), some (.int (nI 2)), some (.int (nI f)), some (.int i), some (.int x), none] [] σ (fun v s => v = some (.int ((-10) - (nI 1))) ∧ z_CR (W.sS 0 (nI 1)) s ∧ pi_fr z_CC s σ) := by
  have hk := hR.k.p.wk
  have hnd8 := hk.wd.nd8
  have hns12 := hk.wd.ns12
  have hn60 := hk.nine
  have hnf := hk.nf
  have hnw := hk.nw
  have hnc := hk.nc
  have hn08 := hk.wd.n0
  have hn140 := hk.wd.n1
  refine pi_ca 3 (m' := 94) (l' := [some (.int (nI 2)), some (.int (nI 4))]) (σ' := σ) (pc2 := 5) (l2 := [some (.ref 0), some (.int (nI 2)), some (.int (nI f)), some (.int i), some (.int x), none]) (t := []) (fun f => rfl) (pi_below1 _ _ (z_BL (by omega) (by omega))) ?_
  rintro _ _ ⟨rfl, rfl⟩
  refine pi_cf 1 (c := nI 1 = 0) (pc' := 8) (l' := [some (.ref 0), some (.int (nI 2)), some (.int (nI f)), some (.int i), some (.int x), none]) (st' := []) (σ' := σ) (pc2 := 16) (l2 := [some (.ref 0), some (.int (nI 2)), some (.int (nI f)), some (.int i), some (.int x), none]) (st2 := []) (σ2 := σ) (fun f => rfl) (by decide) ?_
  refine pi_ca 3 (m' := 94) (l' := [some (.int (nI f)), some (.int (nI 3))]) (σ' := σ) (pc2 := 13) (l2 := [some (.ref 0), some (.int (nI 2)), some (.int (nI f)), some (.int i), some (.int x), none]) (t := []) (fun f => rfl) (pi_below1 _ _ (z_BL (by omega) (by omega))) ?_
  rintro _ _ ⟨rfl, rfl⟩
  refine pi_cf 1 (c := nI 1 = 0) (pc' := 19) (l' := [some (.ref 0), some (.int (nI 2)), some (.int (nI f)), some (.int i), some (.int x), none]) (st' := []) (σ' := σ) (pc2 := 16) (l2 := [some (.ref 0), some (.int (nI 2)), some (.int (nI f)), some (.int i), some (.int x), none]) (st2 := []) (σ2 := σ) (fun f => rfl) (by decide) ?_
  refine pi_aq 4 (u := 2) (n := 4) (a := 47) (c := 52) (pc' := 25) (l' := [some (.ref 0), some (.int (nI 2)), some (.int (nI f)), some (.int i), some (.int x), none]) (t := []) (σ' := σ) (fun f => rfl) (by omega) (by omega) rfl ?_
  refine pi_ca 3 (m' := 38) (l' := [some (.ref 52), some (.int (nI f)), some (.int i)]) (σ' := σ) (pc2 := 30) (l2 := [some (.ref 0), some (.int (nI 2)), some (.int (nI f)), some (.int i), some (.int x), none]) (t := []) (fun f => rfl) (pi_C_why2_1 hR.k hf3 hq0) ?_
  rintro _ _ ⟨rfl, rfl⟩
  refine pi_cf 3 (c := nI 1 = 0) (pc' := 37) (l' := [some (.ref 0), some (.int (nI 2)), some (.int (nI f)), some (.int i), some (.int x), some (.int (nI 1))]) (st' := []) (σ' := σ) (pc2 := 44) (l2 := [some (.ref 0), some (.int (nI 2)), some (.int (nI f)), some (.int i), some (.int x), some (.int (nI 1))]) (st2 := []) (σ2 := σ) (fun f => rfl) (by decide) ?_
  refine pi_ca 3 (m' := 96) (l' := [some (.ref 0), some (.int (nI 1))]) (σ' := σ) (pc2 := 43) (l2 := [some (.ref 0), some (.int (nI 2)), some (.int (nI f)), some (.int i), some (.int x), some (.int (nI 1))]) (t := []) (fun f => rfl) (pi_C_found (nI 1)) ?_
  rintro _ t1 ⟨rfl, et1, kt1, rt1⟩
  refine pi_rt 1 (v := some (.int ((-10) - (nI 1)))) (σ' := t1) (fun f => rfl) ?_
  have hfr : pi_fr [0] t1 σ := pi_fr_tr rt1 (by decide) (pi_fr_rf)
  exact ⟨rfl, hR.fnd (et1) hfr, pi_fr_tr hfr (by decide) pi_fr_rf⟩
set_option maxRecDepth 20000 in
theorem pi_X_get2_1 {xs : Nat → Int32} {L d : Nat} {W : zW} {σ : pi_S} (hR : z_CR W σ) {f : Nat} {i : Int32} (hf3 : f < 3) (hq0 : W.th 2 = 0)  : pi_wp xs L (d + 9) 89 0 [some (.ref 0), some (.int (nI 2)), some (.int (nI f)), some (.int i), none] [] σ (fun v s => v = some (.int (Int32.ofNat 2147483648)) ∧ z_CR (W.sS 0 (nI 1)) s ∧ pi_fr z_CC s σ) := by
  have hk := hR.k.p.wk
  have hnd8 := hk.wd.nd8
  have hns12 := hk.wd.ns12
  have hn60 := hk.nine
  have hnf := hk.nf
  have hnw := hk.nw
  have hnc := hk.nc
  have hn08 := hk.wd.n0
  have hn140 := hk.wd.n1
  refine pi_ca 3 (m' := 94) (l' := [some (.int (nI 2)), some (.int (nI 4))]) (σ' := σ) (pc2 := 5) (l2 := [some (.ref 0), some (.int (nI 2)), some (.int (nI f)), some (.int i), none]) (t := []) (fun f => rfl) (pi_below1 _ _ (z_BL (by omega) (by omega))) ?_
  rintro _ _ ⟨rfl, rfl⟩
  refine pi_cf 1 (c := nI 1 = 0) (pc' := 8) (l' := [some (.ref 0), some (.int (nI 2)), some (.int (nI f)), some (.int i), none]) (st' := []) (σ' := σ) (pc2 := 16) (l2 := [some (.ref 0), some (.int (nI 2)), some (.int (nI f)), some (.int i), none]) (st2 := []) (σ2 := σ) (fun f => rfl) (by decide) ?_
  refine pi_ca 3 (m' := 94) (l' := [some (.int (nI f)), some (.int (nI 3))]) (σ' := σ) (pc2 := 13) (l2 := [some (.ref 0), some (.int (nI 2)), some (.int (nI f)), some (.int i), none]) (t := []) (fun f => rfl) (pi_below1 _ _ (z_BL (by omega) (by omega))) ?_
  rintro _ _ ⟨rfl, rfl⟩
  refine pi_cf 1 (c := nI 1 = 0) (pc' := 20) (l' := [some (.ref 0), some (.int (nI 2)), some (.int (nI f)), some (.int i), none]) (st' := []) (σ' := σ) (pc2 := 16) (l2 := [some (.ref 0), some (.int (nI 2)), some (.int (nI f)), some (.int i), none]) (st2 := []) (σ2 := σ) (fun f => rfl) (by decide) ?_
  refine pi_aq 4 (u := 2) (n := 4) (a := 47) (c := 52) (pc' := 26) (l' := [some (.ref 0), some (.int (nI 2)), some (.int (nI f)), some (.int i), none]) (t := []) (σ' := σ) (fun f => rfl) (by omega) (by omega) rfl ?_
  refine pi_ca 3 (m' := 38) (l' := [some (.ref 52), some (.int (nI f)), some (.int i)]) (σ' := σ) (pc2 := 31) (l2 := [some (.ref 0), some (.int (nI 2)), some (.int (nI f)), some (.int i), none]) (t := []) (fun f => rfl) (pi_C_why2_1 hR.k hf3 hq0) ?_
  rintro _ _ ⟨rfl, rfl⟩
  refine pi_cf 3 (c := nI 1 = 0) (pc' := 38) (l' := [some (.ref 0), some (.int (nI 2)), some (.int (nI f)), some (.int i), some (.int (nI 1))]) (st' := []) (σ' := σ) (pc2 := 48) (l2 := [some (.ref 0), some (.int (nI 2)), some (.int (nI f)), some (.int i), some (.int (nI 1))]) (st2 := []) (σ2 := σ) (fun f => rfl) (by decide) ?_
  refine pi_go 3 (pc' := 44) (l' := [some (.ref 0), some (.int (nI 2)), some (.int (nI f)), some (.int i), some (.int (nI 1))]) (st' := []) (σ' := (pi_up σ 0 7 (nI 1))) (fun f => rfl) ?_
  generalize es1 : pi_up σ 0 7 (nI 1) = s1
  refine pi_rt 2 (v := some (.int (Int32.ofNat 2147483648))) (σ' := s1) (fun f => rfl) ?_
  have hfr : pi_fr [0] s1 σ := pi_fr_of es1 (by decide) (pi_fr_rf)
  exact ⟨rfl, hR.fnd ((congrFun (congrFun es1 0) 7).symm.trans (pi_up_ss _ _ _ _)) hfr, pi_fr_tr hfr (by decide) pi_fr_rf⟩
set_option maxRecDepth 20000 in
theorem pi_X_put2_3 {xs : Nat → Int32} {L d : Nat} {W : zW} {σ : pi_S} (hR : z_CR W σ) {f : Nat} {i x : Int32} (hf3 : f < 3) (hq1 : ¬ W.th 2 = 0) (h3 : ¬ W.fo 2 = f)  : pi_wp xs L (d + 9) 88 0 [some (.ref 0), some (.int (nI 2)), some (.int (nI f)), some (.int i), some (.int x), none] [] σ (fun v s => v = some (.int ((-10) - (nI 3))) ∧ z_CR (W.sS 0 (nI 3)) s ∧ pi_fr z_CC s σ) := by
  have hk := hR.k.p.wk
  have hnd8 := hk.wd.nd8
  have hns12 := hk.wd.ns12
  have hn60 := hk.nine
  have hnf := hk.nf
  have hnw := hk.nw
  have hnc := hk.nc
  have hn08 := hk.wd.n0
  have hn140 := hk.wd.n1
  refine pi_ca 3 (m' := 94) (l' := [some (.int (nI 2)), some (.int (nI 4))]) (σ' := σ) (pc2 := 5) (l2 := [some (.ref 0), some (.int (nI 2)), some (.int (nI f)), some (.int i), some (.int x), none]) (t := []) (fun f => rfl) (pi_below1 _ _ (z_BL (by omega) (by omega))) ?_
  rintro _ _ ⟨rfl, rfl⟩
  refine pi_cf 1 (c := nI 1 = 0) (pc' := 8) (l' := [some (.ref 0), some (.int (nI 2)), some (.int (nI f)), some (.int i), some (.int x), none]) (st' := []) (σ' := σ) (pc2 := 16) (l2 := [some (.ref 0), some (.int (nI 2)), some (.int (nI f)), some (.int i), some (.int x), none]) (st2 := []) (σ2 := σ) (fun f => rfl) (by decide) ?_
  refine pi_ca 3 (m' := 94) (l' := [some (.int (nI f)), some (.int (nI 3))]) (σ' := σ) (pc2 := 13) (l2 := [some (.ref 0), some (.int (nI 2)), some (.int (nI f)), some (.int i), some (.int x), none]) (t := []) (fun f => rfl) (pi_below1 _ _ (z_BL (by omega) (by omega))) ?_
  rintro _ _ ⟨rfl, rfl⟩
  refine pi_cf 1 (c := nI 1 = 0) (pc' := 19) (l' := [some (.ref 0), some (.int (nI 2)), some (.int (nI f)), some (.int i), some (.int x), none]) (st' := []) (σ' := σ) (pc2 := 16) (l2 := [some (.ref 0), some (.int (nI 2)), some (.int (nI f)), some (.int i), some (.int x), none]) (st2 := []) (σ2 := σ) (fun f => rfl) (by decide) ?_
  refine pi_aq 4 (u := 2) (n := 4) (a := 47) (c := 52) (pc' := 25) (l' := [some (.ref 0), some (.int (nI 2)), some (.int (nI f)), some (.int i), some (.int x), none]) (t := []) (σ' := σ) (fun f => rfl) (by omega) (by omega) rfl ?_
  refine pi_ca 3 (m' := 38) (l' := [some (.ref 52), some (.int (nI f)), some (.int i)]) (σ' := σ) (pc2 := 30) (l2 := [some (.ref 0), some (.int (nI 2)), some (.int (nI f)), some (.int i), some (.int x), none]) (t := []) (fun f => rfl) (pi_C_why2_3 hR.k hf3 hq1 h3) ?_
  rintro _ _ ⟨rfl, rfl⟩
  refine pi_cf 3 (c := nI 3 = 0) (pc' := 37) (l' := [some (.ref 0), some (.int (nI 2)), some (.int (nI f)), some (.int i), some (.int x), some (.int (nI 3))]) (st' := []) (σ' := σ) (pc2 := 44) (l2 := [some (.ref 0), some (.int (nI 2)), some (.int (nI f)), some (.int i), some (.int x), some (.int (nI 3))]) (st2 := []) (σ2 := σ) (fun f => rfl) (by decide) ?_
  refine pi_ca 3 (m' := 96) (l' := [some (.ref 0), some (.int (nI 3))]) (σ' := σ) (pc2 := 43) (l2 := [some (.ref 0), some (.int (nI 2)), some (.int (nI f)), some (.int i), some (.int x), some (.int (nI 3))]) (t := []) (fun f => rfl) (pi_C_found (nI 3)) ?_
  rintro _ t1 ⟨rfl, et1, kt1, rt1⟩
  refine pi_rt 1 (v := some (.int ((-10) - (nI 3)))) (σ' := t1) (fun f => rfl) ?_
  have hfr : pi_fr [0] t1 σ := pi_fr_tr rt1 (by decide) (pi_fr_rf)
  exact ⟨rfl, hR.fnd (et1) hfr, pi_fr_tr hfr (by decide) pi_fr_rf⟩
set_option maxRecDepth 20000 in
theorem pi_X_get2_3 {xs : Nat → Int32} {L d : Nat} {W : zW} {σ : pi_S} (hR : z_CR W σ) {f : Nat} {i : Int32} (hf3 : f < 3) (hq1 : ¬ W.th 2 = 0) (h3 : ¬ W.fo 2 = f)  : pi_wp xs L (d + 9) 89 0 [some (.ref 0), some (.int (nI 2)), some (.int (nI f)), some (.int i), none] [] σ (fun v s => v = some (.int (Int32.ofNat 2147483648)) ∧ z_CR (W.sS 0 (nI 3)) s ∧ pi_fr z_CC s σ) := by
  have hk := hR.k.p.wk
  have hnd8 := hk.wd.nd8
  have hns12 := hk.wd.ns12
  have hn60 := hk.nine
  have hnf := hk.nf
  have hnw := hk.nw
  have hnc := hk.nc
  have hn08 := hk.wd.n0
  have hn140 := hk.wd.n1
  refine pi_ca 3 (m' := 94) (l' := [some (.int (nI 2)), some (.int (nI 4))]) (σ' := σ) (pc2 := 5) (l2 := [some (.ref 0), some (.int (nI 2)), some (.int (nI f)), some (.int i), none]) (t := []) (fun f => rfl) (pi_below1 _ _ (z_BL (by omega) (by omega))) ?_
  rintro _ _ ⟨rfl, rfl⟩
  refine pi_cf 1 (c := nI 1 = 0) (pc' := 8) (l' := [some (.ref 0), some (.int (nI 2)), some (.int (nI f)), some (.int i), none]) (st' := []) (σ' := σ) (pc2 := 16) (l2 := [some (.ref 0), some (.int (nI 2)), some (.int (nI f)), some (.int i), none]) (st2 := []) (σ2 := σ) (fun f => rfl) (by decide) ?_
  refine pi_ca 3 (m' := 94) (l' := [some (.int (nI f)), some (.int (nI 3))]) (σ' := σ) (pc2 := 13) (l2 := [some (.ref 0), some (.int (nI 2)), some (.int (nI f)), some (.int i), none]) (t := []) (fun f => rfl) (pi_below1 _ _ (z_BL (by omega) (by omega))) ?_
  rintro _ _ ⟨rfl, rfl⟩
  refine pi_cf 1 (c := nI 1 = 0) (pc' := 20) (l' := [some (.ref 0), some (.int (nI 2)), some (.int (nI f)), some (.int i), none]) (st' := []) (σ' := σ) (pc2 := 16) (l2 := [some (.ref 0), some (.int (nI 2)), some (.int (nI f)), some (.int i), none]) (st2 := []) (σ2 := σ) (fun f => rfl) (by decide) ?_
  refine pi_aq 4 (u := 2) (n := 4) (a := 47) (c := 52) (pc' := 26) (l' := [some (.ref 0), some (.int (nI 2)), some (.int (nI f)), some (.int i), none]) (t := []) (σ' := σ) (fun f => rfl) (by omega) (by omega) rfl ?_
  refine pi_ca 3 (m' := 38) (l' := [some (.ref 52), some (.int (nI f)), some (.int i)]) (σ' := σ) (pc2 := 31) (l2 := [some (.ref 0), some (.int (nI 2)), some (.int (nI f)), some (.int i), none]) (t := []) (fun f => rfl) (pi_C_why2_3 hR.k hf3 hq1 h3) ?_
  rintro _ _ ⟨rfl, rfl⟩
  refine pi_cf 3 (c := nI 3 = 0) (pc' := 38) (l' := [some (.ref 0), some (.int (nI 2)), some (.int (nI f)), some (.int i), some (.int (nI 3))]) (st' := []) (σ' := σ) (pc2 := 48) (l2 := [some (.ref 0), some (.int (nI 2)), some (.int (nI f)), some (.int i), some (.int (nI 3))]) (st2 := []) (σ2 := σ) (fun f => rfl) (by decide) ?_
  refine pi_go 3 (pc' := 44) (l' := [some (.ref 0), some (.int (nI 2)), some (.int (nI f)), some (.int i), some (.int (nI 3))]) (st' := []) (σ' := (pi_up σ 0 7 (nI 3))) (fun f => rfl) ?_
  generalize es1 : pi_up σ 0 7 (nI 3) = s1
  refine pi_rt 2 (v := some (.int (Int32.ofNat 2147483648))) (σ' := s1) (fun f => rfl) ?_
  have hfr : pi_fr [0] s1 σ := pi_fr_of es1 (by decide) (pi_fr_rf)
  exact ⟨rfl, hR.fnd ((congrFun (congrFun es1 0) 7).symm.trans (pi_up_ss _ _ _ _)) hfr, pi_fr_tr hfr (by decide) pi_fr_rf⟩
set_option maxRecDepth 20000 in
theorem pi_X_put2_2 {xs : Nat → Int32} {L d : Nat} {W : zW} {σ : pi_S} (hR : z_CR W σ) {f : Nat} {i x : Int32} (hf3 : f < 3) (hq1 : ¬ W.th 2 = 0) (h3 : W.fo 2 = f) (h2 : ¬ z_B (W.si 2) i)  : pi_wp xs L (d + 9) 88 0 [some (.ref 0), some (.int (nI 2)), some (.int (nI f)), some (.int i), some (.int x), none] [] σ (fun v s => v = some (.int ((-10) - (nI 2))) ∧ z_CR (W.sS 0 (nI 2)) s ∧ pi_fr z_CC s σ) := by
  have hk := hR.k.p.wk
  have hnd8 := hk.wd.nd8
  have hns12 := hk.wd.ns12
  have hn60 := hk.nine
  have hnf := hk.nf
  have hnw := hk.nw
  have hnc := hk.nc
  have hn08 := hk.wd.n0
  have hn140 := hk.wd.n1
  refine pi_ca 3 (m' := 94) (l' := [some (.int (nI 2)), some (.int (nI 4))]) (σ' := σ) (pc2 := 5) (l2 := [some (.ref 0), some (.int (nI 2)), some (.int (nI f)), some (.int i), some (.int x), none]) (t := []) (fun f => rfl) (pi_below1 _ _ (z_BL (by omega) (by omega))) ?_
  rintro _ _ ⟨rfl, rfl⟩
  refine pi_cf 1 (c := nI 1 = 0) (pc' := 8) (l' := [some (.ref 0), some (.int (nI 2)), some (.int (nI f)), some (.int i), some (.int x), none]) (st' := []) (σ' := σ) (pc2 := 16) (l2 := [some (.ref 0), some (.int (nI 2)), some (.int (nI f)), some (.int i), some (.int x), none]) (st2 := []) (σ2 := σ) (fun f => rfl) (by decide) ?_
  refine pi_ca 3 (m' := 94) (l' := [some (.int (nI f)), some (.int (nI 3))]) (σ' := σ) (pc2 := 13) (l2 := [some (.ref 0), some (.int (nI 2)), some (.int (nI f)), some (.int i), some (.int x), none]) (t := []) (fun f => rfl) (pi_below1 _ _ (z_BL (by omega) (by omega))) ?_
  rintro _ _ ⟨rfl, rfl⟩
  refine pi_cf 1 (c := nI 1 = 0) (pc' := 19) (l' := [some (.ref 0), some (.int (nI 2)), some (.int (nI f)), some (.int i), some (.int x), none]) (st' := []) (σ' := σ) (pc2 := 16) (l2 := [some (.ref 0), some (.int (nI 2)), some (.int (nI f)), some (.int i), some (.int x), none]) (st2 := []) (σ2 := σ) (fun f => rfl) (by decide) ?_
  refine pi_aq 4 (u := 2) (n := 4) (a := 47) (c := 52) (pc' := 25) (l' := [some (.ref 0), some (.int (nI 2)), some (.int (nI f)), some (.int i), some (.int x), none]) (t := []) (σ' := σ) (fun f => rfl) (by omega) (by omega) rfl ?_
  refine pi_ca 3 (m' := 38) (l' := [some (.ref 52), some (.int (nI f)), some (.int i)]) (σ' := σ) (pc2 := 30) (l2 := [some (.ref 0), some (.int (nI 2)), some (.int (nI f)), some (.int i), some (.int x), none]) (t := []) (fun f => rfl) (pi_C_why2_2 hR.k hf3 hq1 h3 h2) ?_
  rintro _ _ ⟨rfl, rfl⟩
  refine pi_cf 3 (c := nI 2 = 0) (pc' := 37) (l' := [some (.ref 0), some (.int (nI 2)), some (.int (nI f)), some (.int i), some (.int x), some (.int (nI 2))]) (st' := []) (σ' := σ) (pc2 := 44) (l2 := [some (.ref 0), some (.int (nI 2)), some (.int (nI f)), some (.int i), some (.int x), some (.int (nI 2))]) (st2 := []) (σ2 := σ) (fun f => rfl) (by decide) ?_
  refine pi_ca 3 (m' := 96) (l' := [some (.ref 0), some (.int (nI 2))]) (σ' := σ) (pc2 := 43) (l2 := [some (.ref 0), some (.int (nI 2)), some (.int (nI f)), some (.int i), some (.int x), some (.int (nI 2))]) (t := []) (fun f => rfl) (pi_C_found (nI 2)) ?_
  rintro _ t1 ⟨rfl, et1, kt1, rt1⟩
  refine pi_rt 1 (v := some (.int ((-10) - (nI 2)))) (σ' := t1) (fun f => rfl) ?_
  have hfr : pi_fr [0] t1 σ := pi_fr_tr rt1 (by decide) (pi_fr_rf)
  exact ⟨rfl, hR.fnd (et1) hfr, pi_fr_tr hfr (by decide) pi_fr_rf⟩
set_option maxRecDepth 20000 in
theorem pi_X_get2_2 {xs : Nat → Int32} {L d : Nat} {W : zW} {σ : pi_S} (hR : z_CR W σ) {f : Nat} {i : Int32} (hf3 : f < 3) (hq1 : ¬ W.th 2 = 0) (h3 : W.fo 2 = f) (h2 : ¬ z_B (W.si 2) i)  : pi_wp xs L (d + 9) 89 0 [some (.ref 0), some (.int (nI 2)), some (.int (nI f)), some (.int i), none] [] σ (fun v s => v = some (.int (Int32.ofNat 2147483648)) ∧ z_CR (W.sS 0 (nI 2)) s ∧ pi_fr z_CC s σ) := by
  have hk := hR.k.p.wk
  have hnd8 := hk.wd.nd8
  have hns12 := hk.wd.ns12
  have hn60 := hk.nine
  have hnf := hk.nf
  have hnw := hk.nw
  have hnc := hk.nc
  have hn08 := hk.wd.n0
  have hn140 := hk.wd.n1
  refine pi_ca 3 (m' := 94) (l' := [some (.int (nI 2)), some (.int (nI 4))]) (σ' := σ) (pc2 := 5) (l2 := [some (.ref 0), some (.int (nI 2)), some (.int (nI f)), some (.int i), none]) (t := []) (fun f => rfl) (pi_below1 _ _ (z_BL (by omega) (by omega))) ?_
  rintro _ _ ⟨rfl, rfl⟩
  refine pi_cf 1 (c := nI 1 = 0) (pc' := 8) (l' := [some (.ref 0), some (.int (nI 2)), some (.int (nI f)), some (.int i), none]) (st' := []) (σ' := σ) (pc2 := 16) (l2 := [some (.ref 0), some (.int (nI 2)), some (.int (nI f)), some (.int i), none]) (st2 := []) (σ2 := σ) (fun f => rfl) (by decide) ?_
  refine pi_ca 3 (m' := 94) (l' := [some (.int (nI f)), some (.int (nI 3))]) (σ' := σ) (pc2 := 13) (l2 := [some (.ref 0), some (.int (nI 2)), some (.int (nI f)), some (.int i), none]) (t := []) (fun f => rfl) (pi_below1 _ _ (z_BL (by omega) (by omega))) ?_
  rintro _ _ ⟨rfl, rfl⟩
  refine pi_cf 1 (c := nI 1 = 0) (pc' := 20) (l' := [some (.ref 0), some (.int (nI 2)), some (.int (nI f)), some (.int i), none]) (st' := []) (σ' := σ) (pc2 := 16) (l2 := [some (.ref 0), some (.int (nI 2)), some (.int (nI f)), some (.int i), none]) (st2 := []) (σ2 := σ) (fun f => rfl) (by decide) ?_
  refine pi_aq 4 (u := 2) (n := 4) (a := 47) (c := 52) (pc' := 26) (l' := [some (.ref 0), some (.int (nI 2)), some (.int (nI f)), some (.int i), none]) (t := []) (σ' := σ) (fun f => rfl) (by omega) (by omega) rfl ?_
  refine pi_ca 3 (m' := 38) (l' := [some (.ref 52), some (.int (nI f)), some (.int i)]) (σ' := σ) (pc2 := 31) (l2 := [some (.ref 0), some (.int (nI 2)), some (.int (nI f)), some (.int i), none]) (t := []) (fun f => rfl) (pi_C_why2_2 hR.k hf3 hq1 h3 h2) ?_
  rintro _ _ ⟨rfl, rfl⟩
  refine pi_cf 3 (c := nI 2 = 0) (pc' := 38) (l' := [some (.ref 0), some (.int (nI 2)), some (.int (nI f)), some (.int i), some (.int (nI 2))]) (st' := []) (σ' := σ) (pc2 := 48) (l2 := [some (.ref 0), some (.int (nI 2)), some (.int (nI f)), some (.int i), some (.int (nI 2))]) (st2 := []) (σ2 := σ) (fun f => rfl) (by decide) ?_
  refine pi_go 3 (pc' := 44) (l' := [some (.ref 0), some (.int (nI 2)), some (.int (nI f)), some (.int i), some (.int (nI 2))]) (st' := []) (σ' := (pi_up σ 0 7 (nI 2))) (fun f => rfl) ?_
  generalize es1 : pi_up σ 0 7 (nI 2) = s1
  refine pi_rt 2 (v := some (.int (Int32.ofNat 2147483648))) (σ' := s1) (fun f => rfl) ?_
  have hfr : pi_fr [0] s1 σ := pi_fr_of es1 (by decide) (pi_fr_rf)
  exact ⟨rfl, hR.fnd ((congrFun (congrFun es1 0) 7).symm.trans (pi_up_ss _ _ _ _)) hfr, pi_fr_tr hfr (by decide) pi_fr_rf⟩
set_option maxRecDepth 20000 in
theorem pi_X_put2 {xs : Nat → Int32} {L d : Nat} {W : zW} {σ : pi_S} (hR : z_CR W σ) {f i : Nat} {x : Int32} (hf3 : f < 3) (hq1 : ¬ W.th 2 = 0) (h3 : W.fo 2 = f) (h2 : i < W.si 2)  : pi_wp xs L (d + 9) 88 0 [some (.ref 0), some (.int (nI 2)), some (.int (nI f)), some (.int (nI i)), some (.int x), none] [] σ (fun v s => v = some (.int (nI 1)) ∧ z_CR (W.sI 9 (upd W.it (48 * 2 + i) (z_nar (W.fo 2) x))) s ∧ pi_fr z_CC s σ) := by
  have hk := hR.k.p.wk
  have hnd8 := hk.wd.nd8
  have hns12 := hk.wd.ns12
  have hn60 := hk.nine
  have hnf := hk.nf
  have hnw := hk.nw
  have hnc := hk.nc
  have hn08 := hk.wd.n0
  have hn140 := hk.wd.n1
  have hsi := hk.si 2 (by omega)
  refine pi_ca 3 (m' := 94) (l' := [some (.int (nI 2)), some (.int (nI 4))]) (σ' := σ) (pc2 := 5) (l2 := [some (.ref 0), some (.int (nI 2)), some (.int (nI f)), some (.int (nI i)), some (.int x), none]) (t := []) (fun f => rfl) (pi_below1 _ _ (z_BL (by omega) (by omega))) ?_
  rintro _ _ ⟨rfl, rfl⟩
  refine pi_cf 1 (c := nI 1 = 0) (pc' := 8) (l' := [some (.ref 0), some (.int (nI 2)), some (.int (nI f)), some (.int (nI i)), some (.int x), none]) (st' := []) (σ' := σ) (pc2 := 16) (l2 := [some (.ref 0), some (.int (nI 2)), some (.int (nI f)), some (.int (nI i)), some (.int x), none]) (st2 := []) (σ2 := σ) (fun f => rfl) (by decide) ?_
  refine pi_ca 3 (m' := 94) (l' := [some (.int (nI f)), some (.int (nI 3))]) (σ' := σ) (pc2 := 13) (l2 := [some (.ref 0), some (.int (nI 2)), some (.int (nI f)), some (.int (nI i)), some (.int x), none]) (t := []) (fun f => rfl) (pi_below1 _ _ (z_BL (by omega) (by omega))) ?_
  rintro _ _ ⟨rfl, rfl⟩
  refine pi_cf 1 (c := nI 1 = 0) (pc' := 19) (l' := [some (.ref 0), some (.int (nI 2)), some (.int (nI f)), some (.int (nI i)), some (.int x), none]) (st' := []) (σ' := σ) (pc2 := 16) (l2 := [some (.ref 0), some (.int (nI 2)), some (.int (nI f)), some (.int (nI i)), some (.int x), none]) (st2 := []) (σ2 := σ) (fun f => rfl) (by decide) ?_
  refine pi_aq 4 (u := 2) (n := 4) (a := 47) (c := 52) (pc' := 25) (l' := [some (.ref 0), some (.int (nI 2)), some (.int (nI f)), some (.int (nI i)), some (.int x), none]) (t := []) (σ' := σ) (fun f => rfl) (by omega) (by omega) rfl ?_
  refine pi_ca 3 (m' := 38) (l' := [some (.ref 52), some (.int (nI f)), some (.int (nI i))]) (σ' := σ) (pc2 := 30) (l2 := [some (.ref 0), some (.int (nI 2)), some (.int (nI f)), some (.int (nI i)), some (.int x), none]) (t := []) (fun f => rfl) (pi_C_why2_0 hR.k hf3 hq1 h3 h2) ?_
  rintro _ _ ⟨rfl, rfl⟩
  refine pi_ct 3 (c := nI 0 = 0) (pc' := 44) (l' := [some (.ref 0), some (.int (nI 2)), some (.int (nI f)), some (.int (nI i)), some (.int x), some (.int (nI 0))]) (st' := []) (σ' := σ) (pc2 := 37) (l2 := [some (.ref 0), some (.int (nI 2)), some (.int (nI f)), some (.int (nI i)), some (.int x), some (.int (nI 0))]) (st2 := []) (σ2 := σ) (fun f => rfl) (by decide) ?_
  refine pi_aq 4 (u := 2) (n := 4) (a := 47) (c := 52) (pc' := 50) (l' := [some (.ref 0), some (.int (nI 2)), some (.int (nI f)), some (.int (nI i)), some (.int x), some (.int (nI 0))]) (t := []) (σ' := σ) (fun f => rfl) (by omega) (by omega) rfl ?_
  refine pi_ca 3 (m' := 41) (l' := [some (.ref 52), some (.int (nI i)), some (.int x)]) (σ' := σ) (pc2 := 56) (l2 := [some (.ref 0), some (.int (nI 2)), some (.int (nI f)), some (.int (nI i)), some (.int x), some (.int (nI 0))]) (t := []) (fun f => rfl) (pi_C_store2 (W := W) (hR.k.p.sf2) (hk.si 2 (by omega)).2.1 (hR.k.p.ss2.trans (z_sz_f hq1)) (hk.si 2 (by omega)).1 (i := i) (by omega) x) ?_
  rintro _ t1 ⟨rfl, et1, rt1⟩
  refine pi_rt 2 (v := some (.int (nI 1))) (σ' := t1) (fun f => rfl) ?_
  have hfr : pi_fr [53] t1 σ := pi_fr_tr rt1 (by decide) (pi_fr_rf)
  exact ⟨rfl, hR.it2 (fun j hj => (congrFun (et1) j).trans (z_put_at (hR.k.p.si2 j hj))) (fun q hq => z_upd_n _ _ (hq i (by omega))) hfr, pi_fr_tr hfr (by decide) pi_fr_rf⟩
set_option maxRecDepth 20000 in
theorem pi_X_get2 {xs : Nat → Int32} {L d : Nat} {W : zW} {σ : pi_S} (hR : z_CR W σ) {f i : Nat} (hf3 : f < 3) (hq1 : ¬ W.th 2 = 0) (h3 : W.fo 2 = f) (h2 : i < W.si 2)  : pi_wp xs L (d + 9) 89 0 [some (.ref 0), some (.int (nI 2)), some (.int (nI f)), some (.int (nI i)), none] [] σ (fun v s => v = some (.int (W.it (48 * 2 + i))) ∧ z_CR W s ∧ pi_fr z_CJ s σ) := by
  have hk := hR.k.p.wk
  have hnd8 := hk.wd.nd8
  have hns12 := hk.wd.ns12
  have hn60 := hk.nine
  have hnf := hk.nf
  have hnw := hk.nw
  have hnc := hk.nc
  have hn08 := hk.wd.n0
  have hn140 := hk.wd.n1
  have hsi := hk.si 2 (by omega)
  refine pi_ca 3 (m' := 94) (l' := [some (.int (nI 2)), some (.int (nI 4))]) (σ' := σ) (pc2 := 5) (l2 := [some (.ref 0), some (.int (nI 2)), some (.int (nI f)), some (.int (nI i)), none]) (t := []) (fun f => rfl) (pi_below1 _ _ (z_BL (by omega) (by omega))) ?_
  rintro _ _ ⟨rfl, rfl⟩
  refine pi_cf 1 (c := nI 1 = 0) (pc' := 8) (l' := [some (.ref 0), some (.int (nI 2)), some (.int (nI f)), some (.int (nI i)), none]) (st' := []) (σ' := σ) (pc2 := 16) (l2 := [some (.ref 0), some (.int (nI 2)), some (.int (nI f)), some (.int (nI i)), none]) (st2 := []) (σ2 := σ) (fun f => rfl) (by decide) ?_
  refine pi_ca 3 (m' := 94) (l' := [some (.int (nI f)), some (.int (nI 3))]) (σ' := σ) (pc2 := 13) (l2 := [some (.ref 0), some (.int (nI 2)), some (.int (nI f)), some (.int (nI i)), none]) (t := []) (fun f => rfl) (pi_below1 _ _ (z_BL (by omega) (by omega))) ?_
  rintro _ _ ⟨rfl, rfl⟩
  refine pi_cf 1 (c := nI 1 = 0) (pc' := 20) (l' := [some (.ref 0), some (.int (nI 2)), some (.int (nI f)), some (.int (nI i)), none]) (st' := []) (σ' := σ) (pc2 := 16) (l2 := [some (.ref 0), some (.int (nI 2)), some (.int (nI f)), some (.int (nI i)), none]) (st2 := []) (σ2 := σ) (fun f => rfl) (by decide) ?_
  refine pi_aq 4 (u := 2) (n := 4) (a := 47) (c := 52) (pc' := 26) (l' := [some (.ref 0), some (.int (nI 2)), some (.int (nI f)), some (.int (nI i)), none]) (t := []) (σ' := σ) (fun f => rfl) (by omega) (by omega) rfl ?_
  refine pi_ca 3 (m' := 38) (l' := [some (.ref 52), some (.int (nI f)), some (.int (nI i))]) (σ' := σ) (pc2 := 31) (l2 := [some (.ref 0), some (.int (nI 2)), some (.int (nI f)), some (.int (nI i)), none]) (t := []) (fun f => rfl) (pi_C_why2_0 hR.k hf3 hq1 h3 h2) ?_
  rintro _ _ ⟨rfl, rfl⟩
  refine pi_ct 3 (c := nI 0 = 0) (pc' := 48) (l' := [some (.ref 0), some (.int (nI 2)), some (.int (nI f)), some (.int (nI i)), some (.int (nI 0))]) (st' := []) (σ' := σ) (pc2 := 38) (l2 := [some (.ref 0), some (.int (nI 2)), some (.int (nI f)), some (.int (nI i)), some (.int (nI 0))]) (st2 := []) (σ2 := σ) (fun f => rfl) (by decide) ?_
  refine pi_aq 4 (u := 2) (n := 4) (a := 47) (c := 52) (pc' := 54) (l' := [some (.ref 0), some (.int (nI 2)), some (.int (nI f)), some (.int (nI i)), some (.int (nI 0))]) (t := []) (σ' := σ) (fun f => rfl) (by omega) (by omega) rfl ?_
  refine pi_ca 2 (m' := 40) (l' := [some (.ref 52), some (.int (nI i))]) (σ' := σ) (pc2 := 58) (l2 := [some (.ref 0), some (.int (nI 2)), some (.int (nI f)), some (.int (nI i)), some (.int (nI 0))]) (t := []) (fun f => rfl) (pi_C_itemAt2 (W := W) (i := i) (hR.k.p.ss2.trans (z_sz_f hq1)) (hk.si 2 (by omega)).1 ((hR.k.p.si2 i (by omega))) (by omega)) ?_
  rintro _ _ ⟨rfl, rfl⟩
  refine pi_rt 1 (v := some (.int (W.it (48 * 2 + i)))) (σ' := σ) (fun f => rfl) ?_
  exact ⟨rfl, hR, pi_fr_rf⟩
set_option maxRecDepth 20000 in
theorem pi_X_write2_null {xs : Nat → Int32} {L d : Nat} {W : zW} {σ : pi_S} (hR : z_CR W σ) {mi : Nat} (hi : mi < W.nine + 1) (hq0 : W.th 2 = 0)  : pi_wp xs L (d + 9) 91 0 [some (.ref 0), some (.int (nI mi)), some (.int (nI 2)), none, none, none, none] [] σ (fun v s => v = some (.int ((-10) - (nI 1))) ∧ z_CR (W.sS 0 (nI 1)) s ∧ pi_fr z_CC s σ) := by
  have hk := hR.k.p.wk
  have hnd8 := hk.wd.nd8
  have hns12 := hk.wd.ns12
  have hn60 := hk.nine
  have hnf := hk.nf
  have hnw := hk.nw
  have hnc := hk.nc
  have hn08 := hk.wd.n0
  have hn140 := hk.wd.n1
  refine pi_ca 3 (m' := 95) (l' := [some (.ref 0), some (.int (nI mi))]) (σ' := σ) (pc2 := 5) (l2 := [some (.ref 0), some (.int (nI mi)), some (.int (nI 2)), none, none, none, none]) (t := []) (fun f => rfl) (pi_C_toNineT hR.k (by omega)) ?_
  rintro _ _ ⟨rfl, rfl⟩
  refine pi_cf 1 (c := nI 1 = 0) (pc' := 8) (l' := [some (.ref 0), some (.int (nI mi)), some (.int (nI 2)), none, none, none, none]) (st' := []) (σ' := σ) (pc2 := 16) (l2 := [some (.ref 0), some (.int (nI mi)), some (.int (nI 2)), none, none, none, none]) (st2 := []) (σ2 := σ) (fun f => rfl) (by decide) ?_
  refine pi_ca 3 (m' := 94) (l' := [some (.int (nI 2)), some (.int (nI 4))]) (σ' := σ) (pc2 := 13) (l2 := [some (.ref 0), some (.int (nI mi)), some (.int (nI 2)), none, none, none, none]) (t := []) (fun f => rfl) (pi_below1 _ _ (z_BL (by omega) (by omega))) ?_
  rintro _ _ ⟨rfl, rfl⟩
  refine pi_cf 1 (c := nI 1 = 0) (pc' := 19) (l' := [some (.ref 0), some (.int (nI mi)), some (.int (nI 2)), none, none, none, none]) (st' := []) (σ' := σ) (pc2 := 16) (l2 := [some (.ref 0), some (.int (nI mi)), some (.int (nI 2)), none, none, none, none]) (st2 := []) (σ2 := σ) (fun f => rfl) (by decide) ?_
  refine pi_aq 4 (u := 2) (n := 4) (a := 47) (c := 52) (pc' := 25) (l' := [some (.ref 0), some (.int (nI mi)), some (.int (nI 2)), none, none, none, none]) (t := []) (σ' := σ) (fun f => rfl) (by omega) (by omega) rfl ?_
  refine pi_ca 3 (m' := 36) (l' := [some (.ref 52)]) (σ' := σ) (pc2 := 30) (l2 := [some (.ref 0), some (.int (nI mi)), some (.int (nI 2)), some (.ref 52), none, none, none]) (t := []) (fun f => rfl) (pi_C_lost2_t hR.k hq0) ?_
  rintro _ _ ⟨rfl, rfl⟩
  refine pi_cf 1 (c := nI 1 = 0) (pc' := 33) (l' := [some (.ref 0), some (.int (nI mi)), some (.int (nI 2)), some (.ref 52), none, none, none]) (st' := []) (σ' := σ) (pc2 := 39) (l2 := [some (.ref 0), some (.int (nI mi)), some (.int (nI 2)), some (.ref 52), none, none, none]) (st2 := []) (σ2 := σ) (fun f => rfl) (by decide) ?_
  refine pi_ca 3 (m' := 96) (l' := [some (.ref 0), some (.int (nI 1))]) (σ' := σ) (pc2 := 38) (l2 := [some (.ref 0), some (.int (nI mi)), some (.int (nI 2)), some (.ref 52), none, none, none]) (t := []) (fun f => rfl) (pi_C_found (nI 1)) ?_
  rintro _ t1 ⟨rfl, et1, kt1, rt1⟩
  refine pi_rt 1 (v := some (.int ((-10) - (nI 1)))) (σ' := t1) (fun f => rfl) ?_
  have hfr : pi_fr [0] t1 σ := pi_fr_tr rt1 (by decide) (pi_fr_rf)
  exact ⟨rfl, hR.fnd (et1) hfr, pi_fr_tr hfr (by decide) pi_fr_rf⟩
set_option maxRecDepth 20000 in
theorem pi_X_write2c {xs : Nat → Int32} {L d : Nat} {W : zW} {σ : pi_S} (hR : z_CR W σ) (hq1 : ¬ W.th 2 = 0) {N : Nat} (hN : N ≤ W.si 2 ∧ N ≤ W.nd ∧ (N = W.si 2 ∨ N = W.nd))  : pi_wp xs L (d + 9) 91 0 [some (.ref 0), some (.int (nI W.nine)), some (.int (nI 2)), none, none, none, none] [] σ (fun v s => v = some (.int (nI N)) ∧ z_CR (W.sI 9 (z_wr W 2 ((z_A W).1.1.1) N)) s ∧ pi_fr z_CC s σ) := by
  have hk := hR.k.p.wk
  have hnd8 := hk.wd.nd8
  have hns12 := hk.wd.ns12
  have hn60 := hk.nine
  have hnf := hk.nf
  have hnw := hk.nw
  have hnc := hk.nc
  have hn08 := hk.wd.n0
  have hn140 := hk.wd.n1
  have hsi := hk.si 2 (by omega)
  refine pi_ca 3 (m' := 95) (l' := [some (.ref 0), some (.int (nI W.nine))]) (σ' := σ) (pc2 := 5) (l2 := [some (.ref 0), some (.int (nI W.nine)), some (.int (nI 2)), none, none, none, none]) (t := []) (fun f => rfl) (pi_C_toNineT hR.k (by omega)) ?_
  rintro _ _ ⟨rfl, rfl⟩
  refine pi_cf 1 (c := nI 1 = 0) (pc' := 8) (l' := [some (.ref 0), some (.int (nI W.nine)), some (.int (nI 2)), none, none, none, none]) (st' := []) (σ' := σ) (pc2 := 16) (l2 := [some (.ref 0), some (.int (nI W.nine)), some (.int (nI 2)), none, none, none, none]) (st2 := []) (σ2 := σ) (fun f => rfl) (by decide) ?_
  refine pi_ca 3 (m' := 94) (l' := [some (.int (nI 2)), some (.int (nI 4))]) (σ' := σ) (pc2 := 13) (l2 := [some (.ref 0), some (.int (nI W.nine)), some (.int (nI 2)), none, none, none, none]) (t := []) (fun f => rfl) (pi_below1 _ _ (z_BL (by omega) (by omega))) ?_
  rintro _ _ ⟨rfl, rfl⟩
  refine pi_cf 1 (c := nI 1 = 0) (pc' := 19) (l' := [some (.ref 0), some (.int (nI W.nine)), some (.int (nI 2)), none, none, none, none]) (st' := []) (σ' := σ) (pc2 := 16) (l2 := [some (.ref 0), some (.int (nI W.nine)), some (.int (nI 2)), none, none, none, none]) (st2 := []) (σ2 := σ) (fun f => rfl) (by decide) ?_
  refine pi_aq 4 (u := 2) (n := 4) (a := 47) (c := 52) (pc' := 25) (l' := [some (.ref 0), some (.int (nI W.nine)), some (.int (nI 2)), none, none, none, none]) (t := []) (σ' := σ) (fun f => rfl) (by omega) (by omega) rfl ?_
  refine pi_ca 3 (m' := 36) (l' := [some (.ref 52)]) (σ' := σ) (pc2 := 30) (l2 := [some (.ref 0), some (.int (nI W.nine)), some (.int (nI 2)), some (.ref 52), none, none, none]) (t := []) (fun f => rfl) (pi_C_lost2_f hR.k hq1) ?_
  rintro _ _ ⟨rfl, rfl⟩
  refine pi_ct 1 (c := nI 0 = 0) (pc' := 39) (l' := [some (.ref 0), some (.int (nI W.nine)), some (.int (nI 2)), some (.ref 52), none, none, none]) (st' := []) (σ' := σ) (pc2 := 33) (l2 := [some (.ref 0), some (.int (nI W.nine)), some (.int (nI 2)), some (.ref 52), none, none, none]) (st2 := []) (σ2 := σ) (fun f => rfl) (by decide) ?_
  refine pi_ca 3 (m' := 98) (l' := [some (.ref 0), some (.int (nI W.nine))]) (σ' := σ) (pc2 := 44) (l2 := [some (.ref 0), some (.int (nI W.nine)), some (.int (nI 2)), some (.ref 52), none, none, none]) (t := []) (fun f => rfl) (pi_C_behind_c hR.k) ?_
  rintro _ _ ⟨rfl, rfl⟩
  refine pi_go 4 (pc' := 53) (l' := [some (.ref 0), some (.int (nI W.nine)), some (.int (nI 2)), some (.ref 52), some (.ref 34), none, none]) (st' := [.int (σ 52 2)]) (σ' := σ) (fun f => rfl) ?_
  refine pi_tp (y := nI (W.si 2)) (hR.k.p.ss2.trans (z_sz_f hq1)) ?_
  refine pi_go 3 (pc' := 60) (l' := [some (.ref 0), some (.int (nI W.nine)), some (.int (nI 2)), some (.ref 52), some (.ref 34), none, none]) (st' := [.int (σ 1 8), .int (nI (W.si 2))]) (σ' := σ) (fun f => rfl) ?_
  refine pi_tp (y := nI W.nd) (hR.k.t.d) ?_
  refine pi_go 1 (pc' := 63) (l' := [some (.ref 0), some (.int (nI W.nine)), some (.int (nI 2)), some (.ref 52), some (.ref 34), none, none]) (st' := [.int (if nI W.nd < nI (W.si 2) then nI W.nd else nI (W.si 2))]) (σ' := σ) (fun f => rfl) ?_
  refine pi_tp (y := nI N) (z_min_N (by omega) (by omega) hN) ?_
  refine pi_go 3 (pc' := 68) (l' := [some (.ref 0), some (.int (nI W.nine)), some (.int (nI 2)), some (.ref 52), some (.ref 34), some (.int (nI N)), some (.int (nI 0))]) (st' := []) (σ' := σ) (fun f => rfl) ?_
  have hcr0 : z_CR W σ := hR
  have hfb : σ 35 = (z_A W).1.1.1 := hR.b
  have hfr0 : pi_fr z_CC σ σ := pi_fr_rf
  suffices hl1 : ∀ q9, q9 ≤ N → ∀ (z1 : pi_S), pi_fr z_CC z1 σ → (pi_fr [53] z1 σ ∧ ∀ j, j < 48 → z1 53 j = z_wr W 2 ((z_A W).1.1.1) q9 (48 * 2 + j)) → pi_wp xs L (d + 9) 91 68 [some (.ref 0), some (.int (nI W.nine)), some (.int (nI 2)), some (.ref 52), some (.ref 34), some (.int (nI N)), some (.int (nI q9))] [] z1 (fun v s => v = some (.int (nI N)) ∧ z_CR (W.sI 9 (z_wr W 2 ((z_A W).1.1.1) N)) s ∧ pi_fr z_CC s σ) from hl1 0 (by omega) _ (pi_fr_rf) (⟨pi_fr_rf, hcr0.k.p.si2⟩)
  refine pi_lp0 ?_ ?_
  · intro z1 hrz1 hx1
    refine pi_ct 3 (c := nI N ≤ nI N) (pc' := 94) (l' := [some (.ref 0), some (.int (nI W.nine)), some (.int (nI 2)), some (.ref 52), some (.ref 34), some (.int (nI N)), some (.int (nI N))]) (st' := []) (σ' := z1) (pc2 := 75) (l2 := [some (.ref 0), some (.int (nI W.nine)), some (.int (nI 2)), some (.ref 52), some (.ref 34), some (.int (nI N)), some (.int (nI N))]) (st2 := []) (σ2 := z1) (fun f => rfl) ((show nI N ≤ nI N ↔ _ from nI_leI (by omega) (by omega)).mpr (by omega)) ?_
    refine pi_rt 2 (v := some (.int (nI N))) (σ' := z1) (fun f => rfl) ?_
    exact ⟨rfl, hcr0.it2 hx1.2 (z_wr_o N (by omega)) hx1.1, pi_fr_tr hrz1 (by decide) (pi_fr_rf)⟩
  · intro q9 hi1 ih1 z1 hrz1 hx1
    refine pi_cf 3 (c := nI N ≤ nI q9) (pc' := 75) (l' := [some (.ref 0), some (.int (nI W.nine)), some (.int (nI 2)), some (.ref 52), some (.ref 34), some (.int (nI N)), some (.int (nI q9))]) (st' := []) (σ' := z1) (pc2 := 94) (l2 := [some (.ref 0), some (.int (nI W.nine)), some (.int (nI 2)), some (.ref 52), some (.ref 34), some (.int (nI N)), some (.int (nI q9))]) (st2 := []) (σ2 := z1) (fun f => rfl) (fun zq => absurd ((show nI N ≤ nI q9 ↔ _ from nI_leI (by omega) (by omega)).mp zq) (by omega)) ?_
    refine pi_ca 5 (m' := 23) (l' := [some (.ref 34), some (.int (nI q9)), none, none]) (σ' := z1) (pc2 := 85) (l2 := [some (.ref 0), some (.int (nI W.nine)), some (.int (nI 2)), some (.ref 52), some (.ref 34), some (.int (nI N)), some (.int (nI q9))]) (t := [.int (nI q9), .ref 52]) (fun f => rfl) (pi_C_all_c (by omega)) ?_
    rintro _ _ ⟨rfl, rfl⟩
    refine pi_tp (y := z_all ((z_A W).1.1.1) q9) (congrArg (fun z => z_all z q9) ((hx1.1 35 (by decide)).trans hfb)) ?_
    refine pi_ca 1 (m' := 41) (l' := [some (.ref 52), some (.int (nI q9)), some (.int (z_all ((z_A W).1.1.1) q9))]) (σ' := z1) (pc2 := 88) (l2 := [some (.ref 0), some (.int (nI W.nine)), some (.int (nI 2)), some (.ref 52), some (.ref 34), some (.int (nI N)), some (.int (nI q9))]) (t := []) (fun f => rfl) (pi_C_store2 (W := W) ((congrFun (hx1.1 52 (by decide)) 1).trans (hcr0.k.p.sf2)) (hk.si 2 (by omega)).2.1 ((congrFun (hx1.1 52 (by decide)) 2).trans (hcr0.k.p.ss2.trans (z_sz_f hq1))) (hk.si 2 (by omega)).1 (i := q9) (by omega) (z_all ((z_A W).1.1.1) q9)) ?_
    rintro _ t2 ⟨rfl, et2, rt2⟩
    refine pi_go 1 (pc' := 91) (l' := [some (.ref 0), some (.int (nI W.nine)), some (.int (nI 2)), some (.ref 52), some (.ref 34), some (.int (nI N)), some (.int (nI q9 + nI 1))]) (st' := []) (σ' := t2) (fun f => rfl) ?_
    rw [show nI q9 + nI 1 = nI (q9 + 1) from nI_add _ 1]
    refine pi_go 1 (pc' := 68) (l' := [some (.ref 0), some (.int (nI W.nine)), some (.int (nI 2)), some (.ref 52), some (.ref 34), some (.int (nI N)), some (.int (nI (q9 + 1)))]) (st' := []) (σ' := t2) (fun f => rfl) ?_
    exact ih1 _ (pi_fr_tr rt2 (by decide) (pi_fr_tr hrz1 (by decide) (pi_fr_rf))) (⟨pi_fr_tr rt2 (by decide) (hx1.1), fun j hj => (congrFun (et2) j).trans (z_wr_st rfl hx1.2 j hj)⟩)
set_option maxRecDepth 20000 in
theorem pi_X_write2t {xs : Nat → Int32} {L d : Nat} {W : zW} {σ : pi_S} (hR : z_CR W σ) {mi : Nat} (hmi : mi < W.nine) (hq1 : ¬ W.th 2 = 0) {N : Nat} (hN : N ≤ W.si 2 ∧ N ≤ W.nd ∧ (N = W.si 2 ∨ N = W.nd))  : pi_wp xs L (d + 9) 91 0 [some (.ref 0), some (.int (nI mi)), some (.int (nI 2)), none, none, none, none] [] σ (fun v s => v = some (.int (nI N)) ∧ z_CR (W.sI 9 (z_wr W 2 ((z_R W (-1) (-1) 0 (fun _ => 0) (mi + 1)).1.1.1) N)) s ∧ pi_fr z_CC s σ) := by
  have hk := hR.k.p.wk
  have hnd8 := hk.wd.nd8
  have hns12 := hk.wd.ns12
  have hn60 := hk.nine
  have hnf := hk.nf
  have hnw := hk.nw
  have hnc := hk.nc
  have hn08 := hk.wd.n0
  have hn140 := hk.wd.n1
  have hsi := hk.si 2 (by omega)
  refine pi_ca 3 (m' := 95) (l' := [some (.ref 0), some (.int (nI mi))]) (σ' := σ) (pc2 := 5) (l2 := [some (.ref 0), some (.int (nI mi)), some (.int (nI 2)), none, none, none, none]) (t := []) (fun f => rfl) (pi_C_toNineT hR.k (by omega)) ?_
  rintro _ _ ⟨rfl, rfl⟩
  refine pi_cf 1 (c := nI 1 = 0) (pc' := 8) (l' := [some (.ref 0), some (.int (nI mi)), some (.int (nI 2)), none, none, none, none]) (st' := []) (σ' := σ) (pc2 := 16) (l2 := [some (.ref 0), some (.int (nI mi)), some (.int (nI 2)), none, none, none, none]) (st2 := []) (σ2 := σ) (fun f => rfl) (by decide) ?_
  refine pi_ca 3 (m' := 94) (l' := [some (.int (nI 2)), some (.int (nI 4))]) (σ' := σ) (pc2 := 13) (l2 := [some (.ref 0), some (.int (nI mi)), some (.int (nI 2)), none, none, none, none]) (t := []) (fun f => rfl) (pi_below1 _ _ (z_BL (by omega) (by omega))) ?_
  rintro _ _ ⟨rfl, rfl⟩
  refine pi_cf 1 (c := nI 1 = 0) (pc' := 19) (l' := [some (.ref 0), some (.int (nI mi)), some (.int (nI 2)), none, none, none, none]) (st' := []) (σ' := σ) (pc2 := 16) (l2 := [some (.ref 0), some (.int (nI mi)), some (.int (nI 2)), none, none, none, none]) (st2 := []) (σ2 := σ) (fun f => rfl) (by decide) ?_
  refine pi_aq 4 (u := 2) (n := 4) (a := 47) (c := 52) (pc' := 25) (l' := [some (.ref 0), some (.int (nI mi)), some (.int (nI 2)), none, none, none, none]) (t := []) (σ' := σ) (fun f => rfl) (by omega) (by omega) rfl ?_
  refine pi_ca 3 (m' := 36) (l' := [some (.ref 52)]) (σ' := σ) (pc2 := 30) (l2 := [some (.ref 0), some (.int (nI mi)), some (.int (nI 2)), some (.ref 52), none, none, none]) (t := []) (fun f => rfl) (pi_C_lost2_f hR.k hq1) ?_
  rintro _ _ ⟨rfl, rfl⟩
  refine pi_ct 1 (c := nI 0 = 0) (pc' := 39) (l' := [some (.ref 0), some (.int (nI mi)), some (.int (nI 2)), some (.ref 52), none, none, none]) (st' := []) (σ' := σ) (pc2 := 33) (l2 := [some (.ref 0), some (.int (nI mi)), some (.int (nI 2)), some (.ref 52), none, none, none]) (st2 := []) (σ2 := σ) (fun f => rfl) (by decide) ?_
  refine pi_ca 3 (m' := 98) (l' := [some (.ref 0), some (.int (nI mi))]) (σ' := σ) (pc2 := 44) (l2 := [some (.ref 0), some (.int (nI mi)), some (.int (nI 2)), some (.ref 52), none, none, none]) (t := []) (fun f => rfl) (pi_C_behind_t hR (by omega)) ?_
  rintro _ t1 ⟨rfl, et1_1, et1_2, gt1, rt1⟩
  refine pi_go 4 (pc' := 53) (l' := [some (.ref 0), some (.int (nI mi)), some (.int (nI 2)), some (.ref 52), some (.ref 38), none, none]) (st' := [.int (t1 52 2)]) (σ' := t1) (fun f => rfl) ?_
  refine pi_tp (y := nI (W.si 2)) ((congrFun (rt1 52 (by decide)) 2).trans (hR.k.p.ss2.trans (z_sz_f hq1))) ?_
  refine pi_go 3 (pc' := 60) (l' := [some (.ref 0), some (.int (nI mi)), some (.int (nI 2)), some (.ref 52), some (.ref 38), none, none]) (st' := [.int (t1 1 8), .int (nI (W.si 2))]) (σ' := t1) (fun f => rfl) ?_
  refine pi_tp (y := nI W.nd) ((congrFun (rt1 1 (by decide)) 8).trans (hR.k.t.d)) ?_
  refine pi_go 1 (pc' := 63) (l' := [some (.ref 0), some (.int (nI mi)), some (.int (nI 2)), some (.ref 52), some (.ref 38), none, none]) (st' := [.int (if nI W.nd < nI (W.si 2) then nI W.nd else nI (W.si 2))]) (σ' := t1) (fun f => rfl) ?_
  refine pi_tp (y := nI N) (z_min_N (by omega) (by omega) hN) ?_
  refine pi_go 3 (pc' := 68) (l' := [some (.ref 0), some (.int (nI mi)), some (.int (nI 2)), some (.ref 52), some (.ref 38), some (.int (nI N)), some (.int (nI 0))]) (st' := []) (σ' := t1) (fun f => rfl) ?_
  have hcr0 : z_CR W t1 := gt1
  have hfb : t1 39 = (z_R W (-1) (-1) 0 (fun _ => 0) (mi + 1)).1.1.1 := et1_1
  have hfr0 : pi_fr z_CC t1 σ := pi_fr_tr rt1 (by decide) (pi_fr_rf)
  suffices hl2 : ∀ q9, q9 ≤ N → ∀ (z2 : pi_S), pi_fr z_CC z2 σ → (pi_fr [53] z2 t1 ∧ ∀ j, j < 48 → z2 53 j = z_wr W 2 ((z_R W (-1) (-1) 0 (fun _ => 0) (mi + 1)).1.1.1) q9 (48 * 2 + j)) → pi_wp xs L (d + 9) 91 68 [some (.ref 0), some (.int (nI mi)), some (.int (nI 2)), some (.ref 52), some (.ref 38), some (.int (nI N)), some (.int (nI q9))] [] z2 (fun v s => v = some (.int (nI N)) ∧ z_CR (W.sI 9 (z_wr W 2 ((z_R W (-1) (-1) 0 (fun _ => 0) (mi + 1)).1.1.1) N)) s ∧ pi_fr z_CC s σ) from hl2 0 (by omega) _ (pi_fr_tr rt1 (by decide) (pi_fr_rf)) (⟨pi_fr_rf, hcr0.k.p.si2⟩)
  refine pi_lp0 ?_ ?_
  · intro z2 hrz2 hx2
    refine pi_ct 3 (c := nI N ≤ nI N) (pc' := 94) (l' := [some (.ref 0), some (.int (nI mi)), some (.int (nI 2)), some (.ref 52), some (.ref 38), some (.int (nI N)), some (.int (nI N))]) (st' := []) (σ' := z2) (pc2 := 75) (l2 := [some (.ref 0), some (.int (nI mi)), some (.int (nI 2)), some (.ref 52), some (.ref 38), some (.int (nI N)), some (.int (nI N))]) (st2 := []) (σ2 := z2) (fun f => rfl) ((show nI N ≤ nI N ↔ _ from nI_leI (by omega) (by omega)).mpr (by omega)) ?_
    refine pi_rt 2 (v := some (.int (nI N))) (σ' := z2) (fun f => rfl) ?_
    exact ⟨rfl, hcr0.it2 hx2.2 (z_wr_o N (by omega)) hx2.1, pi_fr_tr hrz2 (by decide) (pi_fr_rf)⟩
  · intro q9 hi2 ih2 z2 hrz2 hx2
    refine pi_cf 3 (c := nI N ≤ nI q9) (pc' := 75) (l' := [some (.ref 0), some (.int (nI mi)), some (.int (nI 2)), some (.ref 52), some (.ref 38), some (.int (nI N)), some (.int (nI q9))]) (st' := []) (σ' := z2) (pc2 := 94) (l2 := [some (.ref 0), some (.int (nI mi)), some (.int (nI 2)), some (.ref 52), some (.ref 38), some (.int (nI N)), some (.int (nI q9))]) (st2 := []) (σ2 := z2) (fun f => rfl) (fun zq => absurd ((show nI N ≤ nI q9 ↔ _ from nI_leI (by omega) (by omega)).mp zq) (by omega)) ?_
    refine pi_ca 5 (m' := 23) (l' := [some (.ref 38), some (.int (nI q9)), none, none]) (σ' := z2) (pc2 := 85) (l2 := [some (.ref 0), some (.int (nI mi)), some (.int (nI 2)), some (.ref 52), some (.ref 38), some (.int (nI N)), some (.int (nI q9))]) (t := [.int (nI q9), .ref 52]) (fun f => rfl) (pi_C_all_t (by omega)) ?_
    rintro _ _ ⟨rfl, rfl⟩
    refine pi_tp (y := z_all ((z_R W (-1) (-1) 0 (fun _ => 0) (mi + 1)).1.1.1) q9) (congrArg (fun z => z_all z q9) ((hx2.1 39 (by decide)).trans hfb)) ?_
    refine pi_ca 1 (m' := 41) (l' := [some (.ref 52), some (.int (nI q9)), some (.int (z_all ((z_R W (-1) (-1) 0 (fun _ => 0) (mi + 1)).1.1.1) q9))]) (σ' := z2) (pc2 := 88) (l2 := [some (.ref 0), some (.int (nI mi)), some (.int (nI 2)), some (.ref 52), some (.ref 38), some (.int (nI N)), some (.int (nI q9))]) (t := []) (fun f => rfl) (pi_C_store2 (W := W) ((congrFun (hx2.1 52 (by decide)) 1).trans (hcr0.k.p.sf2)) (hk.si 2 (by omega)).2.1 ((congrFun (hx2.1 52 (by decide)) 2).trans (hcr0.k.p.ss2.trans (z_sz_f hq1))) (hk.si 2 (by omega)).1 (i := q9) (by omega) (z_all ((z_R W (-1) (-1) 0 (fun _ => 0) (mi + 1)).1.1.1) q9)) ?_
    rintro _ t3 ⟨rfl, et3, rt3⟩
    refine pi_go 1 (pc' := 91) (l' := [some (.ref 0), some (.int (nI mi)), some (.int (nI 2)), some (.ref 52), some (.ref 38), some (.int (nI N)), some (.int (nI q9 + nI 1))]) (st' := []) (σ' := t3) (fun f => rfl) ?_
    rw [show nI q9 + nI 1 = nI (q9 + 1) from nI_add _ 1]
    refine pi_go 1 (pc' := 68) (l' := [some (.ref 0), some (.int (nI mi)), some (.int (nI 2)), some (.ref 52), some (.ref 38), some (.int (nI N)), some (.int (nI (q9 + 1)))]) (st' := []) (σ' := t3) (fun f => rfl) ?_
    exact ih2 _ (pi_fr_tr rt3 (by decide) (pi_fr_tr hrz2 (by decide) (pi_fr_rf))) (⟨pi_fr_tr rt3 (by decide) (hx2.1), fun j hj => (congrFun (et3) j).trans (z_wr_st rfl hx2.2 j hj)⟩)
set_option maxRecDepth 20000 in
theorem pi_C_readH3 {xs : Nat → Int32} {L d : Nat} {W : zW} {σ : pi_S} (hc : z_CK W σ) {N : Nat} (hq1 : ¬ W.th 3 = 0) (hrs : z_rs W 3 N)  : pi_wp xs L (d + 2) 29 0 [some (.ref 12), some (.ref 54), none] [] σ (fun v s => v = some (.int (nI N)) ∧ (∀ j, j < 8 → s 14 j = z_rh W 3 N j) ∧ pi_fr [14] s σ) := by
  have hk := hc.p.wk
  have hnd8 := hk.wd.nd8
  have hns12 := hk.wd.ns12
  have hn60 := hk.nine
  have hnf := hk.nf
  have hnw := hk.nw
  have hnc := hk.nc
  have hn08 := hk.wd.n0
  have hn140 := hk.wd.n1
  have hsi := hk.si 3 (by omega)
  refine pi_go 2 (pc' := 2) (l' := [some (.ref 12), some (.ref 54), some (.int (nI 0))]) (st' := []) (σ' := σ) (fun f => rfl) ?_
  suffices hl1 : ∀ i, i ≤ N → ∀ (z1 : pi_S), pi_fr [14] z1 σ → (∀ j, j < 8 → z1 14 j = z_rh W 3 i j) → pi_wp xs L (d + 2) 29 2 [some (.ref 12), some (.ref 54), some (.int (nI i))] [] z1 (fun v s => v = some (.int (nI N)) ∧ (∀ j, j < 8 → s 14 j = z_rh W 3 N j) ∧ pi_fr [14] s σ) from hl1 0 (by omega) _ (pi_fr_rf) (hc.p.hd)
  refine pi_lp0 ?_ ?_
  · intro z1 hrz1 hx1
    have hi8 : N ≤ 8 ∧ N ≤ W.si 3 := ⟨hrs.1, hrs.2.1⟩
    refine pi_if 3 (c := nI 8 ≤ nI N) (pc' := 44) (l' := [some (.ref 12), some (.ref 54), some (.int (nI N))]) (st' := []) (σ' := z1) (pc2 := 8) (l2 := [some (.ref 12), some (.ref 54), some (.int (nI N))]) (st2 := []) (σ2 := z1) (fun f => rfl) (fun h1 => ?_) (fun h1 => ?_)
    · replace h1 : 8 ≤ N := (nI_leI (by omega) (by omega)).mp h1
      refine pi_rt 2 (v := some (.int (nI N))) (σ' := z1) (fun f => rfl) ?_
      exact ⟨rfl, hx1, pi_fr_tr hrz1 (by decide) (pi_fr_rf)⟩
    · replace h1 : ¬ (8 ≤ N) := fun zq => h1 ((nI_leI (by omega) (by omega)).mpr zq)
      refine pi_go 3 (pc' := 13) (l' := [some (.ref 12), some (.ref 54), some (.int (nI N))]) (st' := [.int (z1 54 2), .int (nI N)]) (σ' := z1) (fun f => rfl) ?_
      refine pi_tp (y := nI (W.si 3)) ((congrFun (hrz1 54 (by decide)) 2).trans (hc.p.ss3.trans (z_sz_f hq1))) ?_
      refine pi_if 1 (c := nI (W.si 3) ≤ nI N) (pc' := 44) (l' := [some (.ref 12), some (.ref 54), some (.int (nI N))]) (st' := []) (σ' := z1) (pc2 := 16) (l2 := [some (.ref 12), some (.ref 54), some (.int (nI N))]) (st2 := []) (σ2 := z1) (fun f => rfl) (fun h2 => ?_) (fun h2 => ?_)
      · replace h2 : (W.si 3) ≤ N := (nI_leI (by omega) (by omega)).mp h2
        refine pi_rt 2 (v := some (.int (nI N))) (σ' := z1) (fun f => rfl) ?_
        exact ⟨rfl, hx1, pi_fr_tr hrz1 (by decide) (pi_fr_rf)⟩
      · replace h2 : ¬ ((W.si 3) ≤ N) := fun zq => h2 ((nI_leI (by omega) (by omega)).mpr zq)
        refine pi_ca 3 (m' := 40) (l' := [some (.ref 54), some (.int (nI N))]) (σ' := z1) (pc2 := 21) (l2 := [some (.ref 12), some (.ref 54), some (.int (nI N))]) (t := []) (fun f => rfl) (pi_C_itemAt3 (W := W) (i := N) ((congrFun (hrz1 54 (by decide)) 2).trans (hc.p.ss3.trans (z_sz_f hq1))) (hk.si 3 (by omega)).1 ((congrFun (hrz1 55 (by decide)) N).trans ((hc.p.si3 N (by omega)))) (by omega)) ?_
        rintro _ _ ⟨rfl, rfl⟩
        refine pi_ca 1 (m' := 28) (l' := [some (.int (W.it (48 * 3 + N)))]) (σ' := z1) (pc2 := 24) (l2 := [some (.ref 12), some (.ref 54), some (.int (nI N))]) (t := []) (fun f => rfl) (pi_C_isHold (W.it (48 * 3 + N))) ?_
        rintro _ _ (⟨b3, rfl, rfl⟩ | ⟨b3, rfl, rfl⟩)
        · refine pi_cf 1 (c := nI 1 = 0) (pc' := 27) (l' := [some (.ref 12), some (.ref 54), some (.int (nI N))]) (st' := []) (σ' := z1) (pc2 := 44) (l2 := [some (.ref 12), some (.ref 54), some (.int (nI N))]) (st2 := []) (σ2 := z1) (fun f => rfl) (by decide) ?_
          exact absurd hrs.2.2.2 (fun q => q.elim (fun q => absurd q (by omega)) (fun q => q.elim (fun q => absurd q (by omega)) (fun q => q b3)))
        · refine pi_ct 1 (c := nI 0 = 0) (pc' := 44) (l' := [some (.ref 12), some (.ref 54), some (.int (nI N))]) (st' := []) (σ' := z1) (pc2 := 27) (l2 := [some (.ref 12), some (.ref 54), some (.int (nI N))]) (st2 := []) (σ2 := z1) (fun f => rfl) (by decide) ?_
          refine pi_rt 2 (v := some (.int (nI N))) (σ' := z1) (fun f => rfl) ?_
          exact ⟨rfl, hx1, pi_fr_tr hrz1 (by decide) (pi_fr_rf)⟩
  · intro i hi1 ih1 z1 hrz1 hx1
    have hj : z_B 100 (W.it (48 * 3 + i)) := hrs.2.2.1 i hi1
    have hi8 : i < 8 ∧ i < W.si 3 := ⟨by have := hrs.1; omega, by have := hrs.2.1; omega⟩
    refine pi_cf 3 (c := nI 8 ≤ nI i) (pc' := 8) (l' := [some (.ref 12), some (.ref 54), some (.int (nI i))]) (st' := []) (σ' := z1) (pc2 := 44) (l2 := [some (.ref 12), some (.ref 54), some (.int (nI i))]) (st2 := []) (σ2 := z1) (fun f => rfl) (fun zq => absurd ((show nI 8 ≤ nI i ↔ _ from nI_leI (by omega) (by omega)).mp zq) (by omega)) ?_
    refine pi_go 3 (pc' := 13) (l' := [some (.ref 12), some (.ref 54), some (.int (nI i))]) (st' := [.int (z1 54 2), .int (nI i)]) (σ' := z1) (fun f => rfl) ?_
    refine pi_tp (y := nI (W.si 3)) ((congrFun (hrz1 54 (by decide)) 2).trans (hc.p.ss3.trans (z_sz_f hq1))) ?_
    refine pi_cf 1 (c := nI (W.si 3) ≤ nI i) (pc' := 16) (l' := [some (.ref 12), some (.ref 54), some (.int (nI i))]) (st' := []) (σ' := z1) (pc2 := 44) (l2 := [some (.ref 12), some (.ref 54), some (.int (nI i))]) (st2 := []) (σ2 := z1) (fun f => rfl) (fun zq => absurd ((show nI (W.si 3) ≤ nI i ↔ _ from nI_leI (by omega) (by omega)).mp zq) (by omega)) ?_
    refine pi_ca 3 (m' := 40) (l' := [some (.ref 54), some (.int (nI i))]) (σ' := z1) (pc2 := 21) (l2 := [some (.ref 12), some (.ref 54), some (.int (nI i))]) (t := []) (fun f => rfl) (pi_C_itemAt3 (W := W) (i := i) ((congrFun (hrz1 54 (by decide)) 2).trans (hc.p.ss3.trans (z_sz_f hq1))) (hk.si 3 (by omega)).1 ((congrFun (hrz1 55 (by decide)) i).trans ((hc.p.si3 i (by omega)))) (by omega)) ?_
    rintro _ _ ⟨rfl, rfl⟩
    refine pi_ca 1 (m' := 28) (l' := [some (.int (W.it (48 * 3 + i)))]) (σ' := z1) (pc2 := 24) (l2 := [some (.ref 12), some (.ref 54), some (.int (nI i))]) (t := []) (fun f => rfl) (pi_C_isHoldT hj) ?_
    rintro _ _ ⟨rfl, rfl⟩
    refine pi_cf 1 (c := nI 1 = 0) (pc' := 27) (l' := [some (.ref 12), some (.ref 54), some (.int (nI i))]) (st' := []) (σ' := z1) (pc2 := 44) (l2 := [some (.ref 12), some (.ref 54), some (.int (nI i))]) (st2 := []) (σ2 := z1) (fun f => rfl) (by decide) ?_
    refine pi_ca 6 (m' := 40) (l' := [some (.ref 54), some (.int (nI i))]) (σ' := z1) (pc2 := 37) (l2 := [some (.ref 12), some (.ref 54), some (.int (nI i))]) (t := [.int (nI i), .ref 14]) (fun f => rfl) (pi_C_itemAt3 (W := W) (i := i) ((congrFun (hrz1 54 (by decide)) 2).trans (hc.p.ss3.trans (z_sz_f hq1))) (hk.si 3 (by omega)).1 ((congrFun (hrz1 55 (by decide)) i).trans ((hc.p.si3 i (by omega)))) (by omega)) ?_
    rintro _ _ ⟨rfl, rfl⟩
    refine pi_au 1 (u := i) (n := 8) (a := 14) (x := W.it (48 * 3 + i)) (pc' := 38) (l' := [some (.ref 12), some (.ref 54), some (.int (nI i))]) (t := []) (σ' := z1) (fun f => rfl) (by omega) (by omega) ?_
    generalize es2 : pi_up z1 14 i (W.it (48 * 3 + i)) = s2
    refine pi_go 1 (pc' := 41) (l' := [some (.ref 12), some (.ref 54), some (.int (nI i + nI 1))]) (st' := []) (σ' := s2) (fun f => rfl) ?_
    rw [show nI i + nI 1 = nI (i + 1) from nI_add _ 1]
    refine pi_go 1 (pc' := 2) (l' := [some (.ref 12), some (.ref 54), some (.int (nI (i + 1)))]) (st' := []) (σ' := s2) (fun f => rfl) ?_
    exact ih1 _ (pi_fr_of es2 (by decide) (pi_fr_tr hrz1 (by decide) (pi_fr_rf))) ((fun j hj8 => (congrFun ((congrFun es2 14).symm.trans ((pi_up_self _ _ _ _))) j).trans (z_upd_c (hx1 j hj8))))
set_option maxRecDepth 20000 in
theorem pi_X_read3_null {xs : Nat → Int32} {L d : Nat} {W : zW} {σ : pi_S} (hR : z_CR W σ) (hq0 : W.th 3 = 0)  : pi_wp xs L (d + 9) 67 0 [some (.ref 0), some (.int (nI 3)), none] [] σ (fun v s => v = some (.int ((-10) - (nI 1))) ∧ z_CR (W.sS 0 (nI 1)) s ∧ pi_fr z_CC s σ) := by
  have hk := hR.k.p.wk
  have hnd8 := hk.wd.nd8
  have hns12 := hk.wd.ns12
  have hn60 := hk.nine
  have hnf := hk.nf
  have hnw := hk.nw
  have hnc := hk.nc
  have hn08 := hk.wd.n0
  have hn140 := hk.wd.n1
  refine pi_ca 3 (m' := 94) (l' := [some (.int (nI 3)), some (.int (nI 4))]) (σ' := σ) (pc2 := 5) (l2 := [some (.ref 0), some (.int (nI 3)), none]) (t := []) (fun f => rfl) (pi_below1 _ _ (z_BL (by omega) (by omega))) ?_
  rintro _ _ ⟨rfl, rfl⟩
  refine pi_cf 1 (c := nI 1 = 0) (pc' := 11) (l' := [some (.ref 0), some (.int (nI 3)), none]) (st' := []) (σ' := σ) (pc2 := 8) (l2 := [some (.ref 0), some (.int (nI 3)), none]) (st2 := []) (σ2 := σ) (fun f => rfl) (by decide) ?_
  refine pi_aq 4 (u := 3) (n := 4) (a := 47) (c := 54) (pc' := 17) (l' := [some (.ref 0), some (.int (nI 3)), none]) (t := []) (σ' := σ) (fun f => rfl) (by omega) (by omega) rfl ?_
  refine pi_ca 3 (m' := 36) (l' := [some (.ref 54)]) (σ' := σ) (pc2 := 22) (l2 := [some (.ref 0), some (.int (nI 3)), some (.ref 54)]) (t := []) (fun f => rfl) (pi_C_lost3_t hR.k hq0) ?_
  rintro _ _ ⟨rfl, rfl⟩
  refine pi_cf 1 (c := nI 1 = 0) (pc' := 25) (l' := [some (.ref 0), some (.int (nI 3)), some (.ref 54)]) (st' := []) (σ' := σ) (pc2 := 31) (l2 := [some (.ref 0), some (.int (nI 3)), some (.ref 54)]) (st2 := []) (σ2 := σ) (fun f => rfl) (by decide) ?_
  refine pi_ca 3 (m' := 96) (l' := [some (.ref 0), some (.int (nI 1))]) (σ' := σ) (pc2 := 30) (l2 := [some (.ref 0), some (.int (nI 3)), some (.ref 54)]) (t := []) (fun f => rfl) (pi_C_found (nI 1)) ?_
  rintro _ t1 ⟨rfl, et1, kt1, rt1⟩
  refine pi_rt 1 (v := some (.int ((-10) - (nI 1)))) (σ' := t1) (fun f => rfl) ?_
  have hfr : pi_fr [0] t1 σ := pi_fr_tr rt1 (by decide) (pi_fr_rf)
  exact ⟨rfl, hR.fnd (et1) hfr, pi_fr_tr hfr (by decide) pi_fr_rf⟩
set_option maxRecDepth 20000 in
theorem pi_X_read3 {xs : Nat → Int32} {L d : Nat} {W : zW} {σ : pi_S} (hR : z_CR W σ) {N : Nat} (hq1 : ¬ W.th 3 = 0) (hrs : z_rs W 3 N)  : pi_wp xs L (d + 9) 67 0 [some (.ref 0), some (.int (nI 3)), none] [] σ (fun v s => v = some (.int (nI N)) ∧ z_CR (W.sI 2 (z_rh W 3 N)) s ∧ pi_fr z_CC s σ) := by
  have hk := hR.k.p.wk
  have hnd8 := hk.wd.nd8
  have hns12 := hk.wd.ns12
  have hn60 := hk.nine
  have hnf := hk.nf
  have hnw := hk.nw
  have hnc := hk.nc
  have hn08 := hk.wd.n0
  have hn140 := hk.wd.n1
  refine pi_ca 3 (m' := 94) (l' := [some (.int (nI 3)), some (.int (nI 4))]) (σ' := σ) (pc2 := 5) (l2 := [some (.ref 0), some (.int (nI 3)), none]) (t := []) (fun f => rfl) (pi_below1 _ _ (z_BL (by omega) (by omega))) ?_
  rintro _ _ ⟨rfl, rfl⟩
  refine pi_cf 1 (c := nI 1 = 0) (pc' := 11) (l' := [some (.ref 0), some (.int (nI 3)), none]) (st' := []) (σ' := σ) (pc2 := 8) (l2 := [some (.ref 0), some (.int (nI 3)), none]) (st2 := []) (σ2 := σ) (fun f => rfl) (by decide) ?_
  refine pi_aq 4 (u := 3) (n := 4) (a := 47) (c := 54) (pc' := 17) (l' := [some (.ref 0), some (.int (nI 3)), none]) (t := []) (σ' := σ) (fun f => rfl) (by omega) (by omega) rfl ?_
  refine pi_ca 3 (m' := 36) (l' := [some (.ref 54)]) (σ' := σ) (pc2 := 22) (l2 := [some (.ref 0), some (.int (nI 3)), some (.ref 54)]) (t := []) (fun f => rfl) (pi_C_lost3_f hR.k hq1) ?_
  rintro _ _ ⟨rfl, rfl⟩
  refine pi_ct 1 (c := nI 0 = 0) (pc' := 31) (l' := [some (.ref 0), some (.int (nI 3)), some (.ref 54)]) (st' := []) (σ' := σ) (pc2 := 25) (l2 := [some (.ref 0), some (.int (nI 3)), some (.ref 54)]) (st2 := []) (σ2 := σ) (fun f => rfl) (by decide) ?_
  refine pi_ca 5 (m' := 29) (l' := [some (.ref 12), some (.ref 54), none]) (σ' := σ) (pc2 := 40) (l2 := [some (.ref 0), some (.int (nI 3)), some (.ref 54)]) (t := [.ref 0]) (fun f => rfl) (pi_C_readH3 hR.k hq1 hrs) ?_
  rintro _ t1 ⟨rfl, et1, rt1⟩
  have hcp : z_CP (W.sI 2 (z_rh W 3 N)) t1 := hR.k.p.re (z_rh_b hk hrs) et1 (pi_fr_tr rt1 (by decide) (pi_fr_rf))
  have hct : z_CT (W.sI 2 (z_rh W 3 N)) t1 := (hR.k.t.of2 (pi_fr_tr rt1 (by decide) (pi_fr_rf)) : z_CT W t1)
  have hck := z_CK.mk hcp hct
  refine pi_ca 1 (m' := 97) (l' := [some (.ref 0), some (.int (nI N))]) (σ' := t1) (pc2 := 43) (l2 := [some (.ref 0), some (.int (nI 3)), some (.ref 54)]) (t := []) (fun f => rfl) (pi_C_settled hck (hR.tl.of (pi_fr_tr rt1 (by decide) (pi_fr_rf))) (nI N)) ?_
  rintro _ t2 ⟨rfl, gt2, rt2⟩
  refine pi_rt 1 (v := some (.int (nI N))) (σ' := t2) (fun f => rfl) ?_
  exact ⟨rfl, gt2, pi_fr_tr rt2 (by decide) (pi_fr_tr rt1 (by decide) (pi_fr_rf))⟩
set_option maxRecDepth 20000 in
theorem pi_X_sheet3 {xs : Nat → Int32} {L d : Nat} {W : zW} {σ : pi_S} (hR : z_CR W σ) {f n : Nat} (hf3 : f < 3) (hn : n ≤ 48)  : pi_wp xs L (d + 9) 86 0 [some (.ref 0), some (.int (nI 3)), some (.int (nI f)), some (.int (nI n))] [] σ (fun v s => v = some (.int (nI n)) ∧ z_CR ((((W.sF 8 (z_u W.th 3 1)).sF 4 (z_u W.fo 3 f)).sF 5 (z_u W.si 3 n)).sI 9 (z_c48 3 48 W.it)) s ∧ pi_fr z_CC s σ) := by
  have hk := hR.k.p.wk
  have hnd8 := hk.wd.nd8
  have hns12 := hk.wd.ns12
  have hn60 := hk.nine
  have hnf := hk.nf
  have hnw := hk.nw
  have hnc := hk.nc
  have hn08 := hk.wd.n0
  have hn140 := hk.wd.n1
  refine pi_ca 3 (m' := 94) (l' := [some (.int (nI 3)), some (.int (nI 4))]) (σ' := σ) (pc2 := 5) (l2 := [some (.ref 0), some (.int (nI 3)), some (.int (nI f)), some (.int (nI n))]) (t := []) (fun f => rfl) (pi_below1 _ _ (z_BL (by omega) (by omega))) ?_
  rintro _ _ ⟨rfl, rfl⟩
  refine pi_cf 1 (c := nI 1 = 0) (pc' := 8) (l' := [some (.ref 0), some (.int (nI 3)), some (.int (nI f)), some (.int (nI n))]) (st' := []) (σ' := σ) (pc2 := 22) (l2 := [some (.ref 0), some (.int (nI 3)), some (.int (nI f)), some (.int (nI n))]) (st2 := []) (σ2 := σ) (fun f => rfl) (by decide) ?_
  refine pi_ca 3 (m' := 94) (l' := [some (.int (nI f)), some (.int (nI 3))]) (σ' := σ) (pc2 := 13) (l2 := [some (.ref 0), some (.int (nI 3)), some (.int (nI f)), some (.int (nI n))]) (t := []) (fun f => rfl) (pi_below1 _ _ (z_BL (by omega) (by omega))) ?_
  rintro _ _ ⟨rfl, rfl⟩
  refine pi_cf 1 (c := nI 1 = 0) (pc' := 16) (l' := [some (.ref 0), some (.int (nI 3)), some (.int (nI f)), some (.int (nI n))]) (st' := []) (σ' := σ) (pc2 := 22) (l2 := [some (.ref 0), some (.int (nI 3)), some (.int (nI f)), some (.int (nI n))]) (st2 := []) (σ2 := σ) (fun f => rfl) (by decide) ?_
  refine pi_ct 3 (c := nI n ≤ nI 48) (pc' := 25) (l' := [some (.ref 0), some (.int (nI 3)), some (.int (nI f)), some (.int (nI n))]) (st' := []) (σ' := σ) (pc2 := 22) (l2 := [some (.ref 0), some (.int (nI 3)), some (.int (nI f)), some (.int (nI n))]) (st2 := []) (σ2 := σ) (fun f => rfl) ((nI_leI (by omega) (by omega)).mpr hn) ?_
  refine pi_ct 2 (c := 0 ≤ nI n) (pc' := 35) (l' := [some (.ref 0), some (.int (nI 3)), some (.int (nI f)), some (.int (nI n))]) (st' := []) (σ' := σ) (pc2 := 29) (l2 := [some (.ref 0), some (.int (nI 3)), some (.int (nI f)), some (.int (nI n))]) (st2 := []) (σ2 := σ) (fun f => rfl) (Int32.not_lt.mp (z_ltz (by omega))) ?_
  refine pi_aq 4 (u := 3) (n := 4) (a := 47) (c := 54) (pc' := 41) (l' := [some (.ref 0), some (.int (nI 3)), some (.int (nI f)), some (.int (nI n))]) (t := []) (σ' := σ) (fun f => rfl) (by omega) (by omega) rfl ?_
  refine pi_ca 3 (m' := 37) (l' := [some (.ref 54), some (.int (nI f)), some (.int (nI n)), none]) (σ' := σ) (pc2 := 46) (l2 := [some (.ref 0), some (.int (nI 3)), some (.int (nI f)), some (.int (nI n))]) (t := []) (fun f => rfl) (pi_C_renew3 hR.k hf3 hn) ?_
  rintro _ t1 ⟨rfl, et1_1, et1_2, et1_3, rt1⟩
  refine pi_rt 2 (v := some (.int (nI n))) (σ' := t1) (fun f => rfl) ?_
  have hfr : pi_fr [54, 55] t1 σ := pi_fr_tr rt1 (by decide) (pi_fr_rf)
  exact ⟨rfl, hR.sheet3 hf3 hn et1_1 et1_2 et1_3 hfr, pi_fr_tr hfr (by decide) pi_fr_rf⟩
set_option maxRecDepth 20000 in
theorem pi_X_lose3_null {xs : Nat → Int32} {L d : Nat} {W : zW} {σ : pi_S} (hR : z_CR W σ) (hq0 : W.th 3 = 0)  : pi_wp xs L (d + 9) 87 0 [some (.ref 0), some (.int (nI 3)), none, none] [] σ (fun v s => v = some (.int ((-10) - (nI 1))) ∧ z_CR (W.sS 0 (nI 1)) s ∧ pi_fr z_CC s σ) := by
  have hk := hR.k.p.wk
  have hnd8 := hk.wd.nd8
  have hns12 := hk.wd.ns12
  have hn60 := hk.nine
  have hnf := hk.nf
  have hnw := hk.nw
  have hnc := hk.nc
  have hn08 := hk.wd.n0
  have hn140 := hk.wd.n1
  refine pi_ca 3 (m' := 94) (l' := [some (.int (nI 3)), some (.int (nI 4))]) (σ' := σ) (pc2 := 5) (l2 := [some (.ref 0), some (.int (nI 3)), none, none]) (t := []) (fun f => rfl) (pi_below1 _ _ (z_BL (by omega) (by omega))) ?_
  rintro _ _ ⟨rfl, rfl⟩
  refine pi_cf 1 (c := nI 1 = 0) (pc' := 11) (l' := [some (.ref 0), some (.int (nI 3)), none, none]) (st' := []) (σ' := σ) (pc2 := 8) (l2 := [some (.ref 0), some (.int (nI 3)), none, none]) (st2 := []) (σ2 := σ) (fun f => rfl) (by decide) ?_
  refine pi_aq 4 (u := 3) (n := 4) (a := 47) (c := 54) (pc' := 17) (l' := [some (.ref 0), some (.int (nI 3)), none, none]) (t := []) (σ' := σ) (fun f => rfl) (by omega) (by omega) rfl ?_
  refine pi_ca 3 (m' := 36) (l' := [some (.ref 54)]) (σ' := σ) (pc2 := 22) (l2 := [some (.ref 0), some (.int (nI 3)), some (.ref 54), none]) (t := []) (fun f => rfl) (pi_C_lost3_t hR.k hq0) ?_
  rintro _ _ ⟨rfl, rfl⟩
  refine pi_cf 1 (c := nI 1 = 0) (pc' := 25) (l' := [some (.ref 0), some (.int (nI 3)), some (.ref 54), none]) (st' := []) (σ' := σ) (pc2 := 31) (l2 := [some (.ref 0), some (.int (nI 3)), some (.ref 54), none]) (st2 := []) (σ2 := σ) (fun f => rfl) (by decide) ?_
  refine pi_ca 3 (m' := 96) (l' := [some (.ref 0), some (.int (nI 1))]) (σ' := σ) (pc2 := 30) (l2 := [some (.ref 0), some (.int (nI 3)), some (.ref 54), none]) (t := []) (fun f => rfl) (pi_C_found (nI 1)) ?_
  rintro _ t1 ⟨rfl, et1, kt1, rt1⟩
  refine pi_rt 1 (v := some (.int ((-10) - (nI 1)))) (σ' := t1) (fun f => rfl) ?_
  have hfr : pi_fr [0] t1 σ := pi_fr_tr rt1 (by decide) (pi_fr_rf)
  exact ⟨rfl, hR.fnd (et1) hfr, pi_fr_tr hfr (by decide) pi_fr_rf⟩
set_option maxRecDepth 20000 in
theorem pi_X_lose3 {xs : Nat → Int32} {L d : Nat} {W : zW} {σ : pi_S} (hR : z_CR W σ) (hq1 : ¬ W.th 3 = 0)  : pi_wp xs L (d + 9) 87 0 [some (.ref 0), some (.int (nI 3)), none, none] [] σ (fun v s => v = some (.int (nI (W.si 3))) ∧ z_CR (W.sF 8 (z_u W.th 3 0)) s ∧ pi_fr z_CC s σ) := by
  have hk := hR.k.p.wk
  have hnd8 := hk.wd.nd8
  have hns12 := hk.wd.ns12
  have hn60 := hk.nine
  have hnf := hk.nf
  have hnw := hk.nw
  have hnc := hk.nc
  have hn08 := hk.wd.n0
  have hn140 := hk.wd.n1
  refine pi_ca 3 (m' := 94) (l' := [some (.int (nI 3)), some (.int (nI 4))]) (σ' := σ) (pc2 := 5) (l2 := [some (.ref 0), some (.int (nI 3)), none, none]) (t := []) (fun f => rfl) (pi_below1 _ _ (z_BL (by omega) (by omega))) ?_
  rintro _ _ ⟨rfl, rfl⟩
  refine pi_cf 1 (c := nI 1 = 0) (pc' := 11) (l' := [some (.ref 0), some (.int (nI 3)), none, none]) (st' := []) (σ' := σ) (pc2 := 8) (l2 := [some (.ref 0), some (.int (nI 3)), none, none]) (st2 := []) (σ2 := σ) (fun f => rfl) (by decide) ?_
  refine pi_aq 4 (u := 3) (n := 4) (a := 47) (c := 54) (pc' := 17) (l' := [some (.ref 0), some (.int (nI 3)), none, none]) (t := []) (σ' := σ) (fun f => rfl) (by omega) (by omega) rfl ?_
  refine pi_ca 3 (m' := 36) (l' := [some (.ref 54)]) (σ' := σ) (pc2 := 22) (l2 := [some (.ref 0), some (.int (nI 3)), some (.ref 54), none]) (t := []) (fun f => rfl) (pi_C_lost3_f hR.k hq1) ?_
  rintro _ _ ⟨rfl, rfl⟩
  refine pi_ct 1 (c := nI 0 = 0) (pc' := 31) (l' := [some (.ref 0), some (.int (nI 3)), some (.ref 54), none]) (st' := []) (σ' := σ) (pc2 := 25) (l2 := [some (.ref 0), some (.int (nI 3)), some (.ref 54), none]) (st2 := []) (σ2 := σ) (fun f => rfl) (by decide) ?_
  refine pi_go 2 (pc' := 35) (l' := [some (.ref 0), some (.int (nI 3)), some (.ref 54), none]) (st' := [.int (σ 54 2)]) (σ' := σ) (fun f => rfl) ?_
  refine pi_tp (y := nI (W.si 3)) (hR.k.p.ss3.trans (z_sz_f hq1)) ?_
  refine pi_go 4 (pc' := 41) (l' := [some (.ref 0), some (.int (nI 3)), some (.ref 54), some (.int (nI (W.si 3)))]) (st' := []) (σ' := (pi_up σ 54 2 (-1))) (fun f => rfl) ?_
  generalize es1 : pi_up σ 54 2 (-1) = s1
  refine pi_rt 2 (v := some (.int (nI (W.si 3)))) (σ' := s1) (fun f => rfl) ?_
  have hfr : pi_fr [54] s1 σ := pi_fr_of es1 (by decide) (pi_fr_rf)
  exact ⟨rfl, hR.lose3 ((congrFun (congrFun es1 54) 1).symm.trans ((pi_up_sn _ _ _ (by decide)).trans (rfl))) ((congrFun (congrFun es1 54) 2).symm.trans (pi_up_ss _ _ _ _)) hfr, pi_fr_tr hfr (by decide) pi_fr_rf⟩
set_option maxRecDepth 20000 in
theorem pi_X_put3_1 {xs : Nat → Int32} {L d : Nat} {W : zW} {σ : pi_S} (hR : z_CR W σ) {f : Nat} {i x : Int32} (hf3 : f < 3) (hq0 : W.th 3 = 0)  : pi_wp xs L (d + 9) 88 0 [some (.ref 0), some (.int (nI 3)), some (.int (nI f)), some (.int i), some (.int x), none] [] σ (fun v s => v = some (.int ((-10) - (nI 1))) ∧ z_CR (W.sS 0 (nI 1)) s ∧ pi_fr z_CC s σ) := by
  have hk := hR.k.p.wk
  have hnd8 := hk.wd.nd8
  have hns12 := hk.wd.ns12
  have hn60 := hk.nine
  have hnf := hk.nf
  have hnw := hk.nw
  have hnc := hk.nc
  have hn08 := hk.wd.n0
  have hn140 := hk.wd.n1
  refine pi_ca 3 (m' := 94) (l' := [some (.int (nI 3)), some (.int (nI 4))]) (σ' := σ) (pc2 := 5) (l2 := [some (.ref 0), some (.int (nI 3)), some (.int (nI f)), some (.int i), some (.int x), none]) (t := []) (fun f => rfl) (pi_below1 _ _ (z_BL (by omega) (by omega))) ?_
  rintro _ _ ⟨rfl, rfl⟩
  refine pi_cf 1 (c := nI 1 = 0) (pc' := 8) (l' := [some (.ref 0), some (.int (nI 3)), some (.int (nI f)), some (.int i), some (.int x), none]) (st' := []) (σ' := σ) (pc2 := 16) (l2 := [some (.ref 0), some (.int (nI 3)), some (.int (nI f)), some (.int i), some (.int x), none]) (st2 := []) (σ2 := σ) (fun f => rfl) (by decide) ?_
  refine pi_ca 3 (m' := 94) (l' := [some (.int (nI f)), some (.int (nI 3))]) (σ' := σ) (pc2 := 13) (l2 := [some (.ref 0), some (.int (nI 3)), some (.int (nI f)), some (.int i), some (.int x), none]) (t := []) (fun f => rfl) (pi_below1 _ _ (z_BL (by omega) (by omega))) ?_
  rintro _ _ ⟨rfl, rfl⟩
  refine pi_cf 1 (c := nI 1 = 0) (pc' := 19) (l' := [some (.ref 0), some (.int (nI 3)), some (.int (nI f)), some (.int i), some (.int x), none]) (st' := []) (σ' := σ) (pc2 := 16) (l2 := [some (.ref 0), some (.int (nI 3)), some (.int (nI f)), some (.int i), some (.int x), none]) (st2 := []) (σ2 := σ) (fun f => rfl) (by decide) ?_
  refine pi_aq 4 (u := 3) (n := 4) (a := 47) (c := 54) (pc' := 25) (l' := [some (.ref 0), some (.int (nI 3)), some (.int (nI f)), some (.int i), some (.int x), none]) (t := []) (σ' := σ) (fun f => rfl) (by omega) (by omega) rfl ?_
  refine pi_ca 3 (m' := 38) (l' := [some (.ref 54), some (.int (nI f)), some (.int i)]) (σ' := σ) (pc2 := 30) (l2 := [some (.ref 0), some (.int (nI 3)), some (.int (nI f)), some (.int i), some (.int x), none]) (t := []) (fun f => rfl) (pi_C_why3_1 hR.k hf3 hq0) ?_
  rintro _ _ ⟨rfl, rfl⟩
  refine pi_cf 3 (c := nI 1 = 0) (pc' := 37) (l' := [some (.ref 0), some (.int (nI 3)), some (.int (nI f)), some (.int i), some (.int x), some (.int (nI 1))]) (st' := []) (σ' := σ) (pc2 := 44) (l2 := [some (.ref 0), some (.int (nI 3)), some (.int (nI f)), some (.int i), some (.int x), some (.int (nI 1))]) (st2 := []) (σ2 := σ) (fun f => rfl) (by decide) ?_
  refine pi_ca 3 (m' := 96) (l' := [some (.ref 0), some (.int (nI 1))]) (σ' := σ) (pc2 := 43) (l2 := [some (.ref 0), some (.int (nI 3)), some (.int (nI f)), some (.int i), some (.int x), some (.int (nI 1))]) (t := []) (fun f => rfl) (pi_C_found (nI 1)) ?_
  rintro _ t1 ⟨rfl, et1, kt1, rt1⟩
  refine pi_rt 1 (v := some (.int ((-10) - (nI 1)))) (σ' := t1) (fun f => rfl) ?_
  have hfr : pi_fr [0] t1 σ := pi_fr_tr rt1 (by decide) (pi_fr_rf)
  exact ⟨rfl, hR.fnd (et1) hfr, pi_fr_tr hfr (by decide) pi_fr_rf⟩
set_option maxRecDepth 20000 in
theorem pi_X_get3_1 {xs : Nat → Int32} {L d : Nat} {W : zW} {σ : pi_S} (hR : z_CR W σ) {f : Nat} {i : Int32} (hf3 : f < 3) (hq0 : W.th 3 = 0)  : pi_wp xs L (d + 9) 89 0 [some (.ref 0), some (.int (nI 3)), some (.int (nI f)), some (.int i), none] [] σ (fun v s => v = some (.int (Int32.ofNat 2147483648)) ∧ z_CR (W.sS 0 (nI 1)) s ∧ pi_fr z_CC s σ) := by
  have hk := hR.k.p.wk
  have hnd8 := hk.wd.nd8
  have hns12 := hk.wd.ns12
  have hn60 := hk.nine
  have hnf := hk.nf
  have hnw := hk.nw
  have hnc := hk.nc
  have hn08 := hk.wd.n0
  have hn140 := hk.wd.n1
  refine pi_ca 3 (m' := 94) (l' := [some (.int (nI 3)), some (.int (nI 4))]) (σ' := σ) (pc2 := 5) (l2 := [some (.ref 0), some (.int (nI 3)), some (.int (nI f)), some (.int i), none]) (t := []) (fun f => rfl) (pi_below1 _ _ (z_BL (by omega) (by omega))) ?_
  rintro _ _ ⟨rfl, rfl⟩
  refine pi_cf 1 (c := nI 1 = 0) (pc' := 8) (l' := [some (.ref 0), some (.int (nI 3)), some (.int (nI f)), some (.int i), none]) (st' := []) (σ' := σ) (pc2 := 16) (l2 := [some (.ref 0), some (.int (nI 3)), some (.int (nI f)), some (.int i), none]) (st2 := []) (σ2 := σ) (fun f => rfl) (by decide) ?_
  refine pi_ca 3 (m' := 94) (l' := [some (.int (nI f)), some (.int (nI 3))]) (σ' := σ) (pc2 := 13) (l2 := [some (.ref 0), some (.int (nI 3)), some (.int (nI f)), some (.int i), none]) (t := []) (fun f => rfl) (pi_below1 _ _ (z_BL (by omega) (by omega))) ?_
  rintro _ _ ⟨rfl, rfl⟩
  refine pi_cf 1 (c := nI 1 = 0) (pc' := 20) (l' := [some (.ref 0), some (.int (nI 3)), some (.int (nI f)), some (.int i), none]) (st' := []) (σ' := σ) (pc2 := 16) (l2 := [some (.ref 0), some (.int (nI 3)), some (.int (nI f)), some (.int i), none]) (st2 := []) (σ2 := σ) (fun f => rfl) (by decide) ?_
  refine pi_aq 4 (u := 3) (n := 4) (a := 47) (c := 54) (pc' := 26) (l' := [some (.ref 0), some (.int (nI 3)), some (.int (nI f)), some (.int i), none]) (t := []) (σ' := σ) (fun f => rfl) (by omega) (by omega) rfl ?_
  refine pi_ca 3 (m' := 38) (l' := [some (.ref 54), some (.int (nI f)), some (.int i)]) (σ' := σ) (pc2 := 31) (l2 := [some (.ref 0), some (.int (nI 3)), some (.int (nI f)), some (.int i), none]) (t := []) (fun f => rfl) (pi_C_why3_1 hR.k hf3 hq0) ?_
  rintro _ _ ⟨rfl, rfl⟩
  refine pi_cf 3 (c := nI 1 = 0) (pc' := 38) (l' := [some (.ref 0), some (.int (nI 3)), some (.int (nI f)), some (.int i), some (.int (nI 1))]) (st' := []) (σ' := σ) (pc2 := 48) (l2 := [some (.ref 0), some (.int (nI 3)), some (.int (nI f)), some (.int i), some (.int (nI 1))]) (st2 := []) (σ2 := σ) (fun f => rfl) (by decide) ?_
  refine pi_go 3 (pc' := 44) (l' := [some (.ref 0), some (.int (nI 3)), some (.int (nI f)), some (.int i), some (.int (nI 1))]) (st' := []) (σ' := (pi_up σ 0 7 (nI 1))) (fun f => rfl) ?_
  generalize es1 : pi_up σ 0 7 (nI 1) = s1
  refine pi_rt 2 (v := some (.int (Int32.ofNat 2147483648))) (σ' := s1) (fun f => rfl) ?_
  have hfr : pi_fr [0] s1 σ := pi_fr_of es1 (by decide) (pi_fr_rf)
  exact ⟨rfl, hR.fnd ((congrFun (congrFun es1 0) 7).symm.trans (pi_up_ss _ _ _ _)) hfr, pi_fr_tr hfr (by decide) pi_fr_rf⟩
set_option maxRecDepth 20000 in
theorem pi_X_put3_3 {xs : Nat → Int32} {L d : Nat} {W : zW} {σ : pi_S} (hR : z_CR W σ) {f : Nat} {i x : Int32} (hf3 : f < 3) (hq1 : ¬ W.th 3 = 0) (h3 : ¬ W.fo 3 = f)  : pi_wp xs L (d + 9) 88 0 [some (.ref 0), some (.int (nI 3)), some (.int (nI f)), some (.int i), some (.int x), none] [] σ (fun v s => v = some (.int ((-10) - (nI 3))) ∧ z_CR (W.sS 0 (nI 3)) s ∧ pi_fr z_CC s σ) := by
  have hk := hR.k.p.wk
  have hnd8 := hk.wd.nd8
  have hns12 := hk.wd.ns12
  have hn60 := hk.nine
  have hnf := hk.nf
  have hnw := hk.nw
  have hnc := hk.nc
  have hn08 := hk.wd.n0
  have hn140 := hk.wd.n1
  refine pi_ca 3 (m' := 94) (l' := [some (.int (nI 3)), some (.int (nI 4))]) (σ' := σ) (pc2 := 5) (l2 := [some (.ref 0), some (.int (nI 3)), some (.int (nI f)), some (.int i), some (.int x), none]) (t := []) (fun f => rfl) (pi_below1 _ _ (z_BL (by omega) (by omega))) ?_
  rintro _ _ ⟨rfl, rfl⟩
  refine pi_cf 1 (c := nI 1 = 0) (pc' := 8) (l' := [some (.ref 0), some (.int (nI 3)), some (.int (nI f)), some (.int i), some (.int x), none]) (st' := []) (σ' := σ) (pc2 := 16) (l2 := [some (.ref 0), some (.int (nI 3)), some (.int (nI f)), some (.int i), some (.int x), none]) (st2 := []) (σ2 := σ) (fun f => rfl) (by decide) ?_
  refine pi_ca 3 (m' := 94) (l' := [some (.int (nI f)), some (.int (nI 3))]) (σ' := σ) (pc2 := 13) (l2 := [some (.ref 0), some (.int (nI 3)), some (.int (nI f)), some (.int i), some (.int x), none]) (t := []) (fun f => rfl) (pi_below1 _ _ (z_BL (by omega) (by omega))) ?_
  rintro _ _ ⟨rfl, rfl⟩
  refine pi_cf 1 (c := nI 1 = 0) (pc' := 19) (l' := [some (.ref 0), some (.int (nI 3)), some (.int (nI f)), some (.int i), some (.int x), none]) (st' := []) (σ' := σ) (pc2 := 16) (l2 := [some (.ref 0), some (.int (nI 3)), some (.int (nI f)), some (.int i), some (.int x), none]) (st2 := []) (σ2 := σ) (fun f => rfl) (by decide) ?_
  refine pi_aq 4 (u := 3) (n := 4) (a := 47) (c := 54) (pc' := 25) (l' := [some (.ref 0), some (.int (nI 3)), some (.int (nI f)), some (.int i), some (.int x), none]) (t := []) (σ' := σ) (fun f => rfl) (by omega) (by omega) rfl ?_
  refine pi_ca 3 (m' := 38) (l' := [some (.ref 54), some (.int (nI f)), some (.int i)]) (σ' := σ) (pc2 := 30) (l2 := [some (.ref 0), some (.int (nI 3)), some (.int (nI f)), some (.int i), some (.int x), none]) (t := []) (fun f => rfl) (pi_C_why3_3 hR.k hf3 hq1 h3) ?_
  rintro _ _ ⟨rfl, rfl⟩
  refine pi_cf 3 (c := nI 3 = 0) (pc' := 37) (l' := [some (.ref 0), some (.int (nI 3)), some (.int (nI f)), some (.int i), some (.int x), some (.int (nI 3))]) (st' := []) (σ' := σ) (pc2 := 44) (l2 := [some (.ref 0), some (.int (nI 3)), some (.int (nI f)), some (.int i), some (.int x), some (.int (nI 3))]) (st2 := []) (σ2 := σ) (fun f => rfl) (by decide) ?_
  refine pi_ca 3 (m' := 96) (l' := [some (.ref 0), some (.int (nI 3))]) (σ' := σ) (pc2 := 43) (l2 := [some (.ref 0), some (.int (nI 3)), some (.int (nI f)), some (.int i), some (.int x), some (.int (nI 3))]) (t := []) (fun f => rfl) (pi_C_found (nI 3)) ?_
  rintro _ t1 ⟨rfl, et1, kt1, rt1⟩
  refine pi_rt 1 (v := some (.int ((-10) - (nI 3)))) (σ' := t1) (fun f => rfl) ?_
  have hfr : pi_fr [0] t1 σ := pi_fr_tr rt1 (by decide) (pi_fr_rf)
  exact ⟨rfl, hR.fnd (et1) hfr, pi_fr_tr hfr (by decide) pi_fr_rf⟩
set_option maxRecDepth 20000 in
theorem pi_X_get3_3 {xs : Nat → Int32} {L d : Nat} {W : zW} {σ : pi_S} (hR : z_CR W σ) {f : Nat} {i : Int32} (hf3 : f < 3) (hq1 : ¬ W.th 3 = 0) (h3 : ¬ W.fo 3 = f)  : pi_wp xs L (d + 9) 89 0 [some (.ref 0), some (.int (nI 3)), some (.int (nI f)), some (.int i), none] [] σ (fun v s => v = some (.int (Int32.ofNat 2147483648)) ∧ z_CR (W.sS 0 (nI 3)) s ∧ pi_fr z_CC s σ) := by
  have hk := hR.k.p.wk
  have hnd8 := hk.wd.nd8
  have hns12 := hk.wd.ns12
  have hn60 := hk.nine
  have hnf := hk.nf
  have hnw := hk.nw
  have hnc := hk.nc
  have hn08 := hk.wd.n0
  have hn140 := hk.wd.n1
  refine pi_ca 3 (m' := 94) (l' := [some (.int (nI 3)), some (.int (nI 4))]) (σ' := σ) (pc2 := 5) (l2 := [some (.ref 0), some (.int (nI 3)), some (.int (nI f)), some (.int i), none]) (t := []) (fun f => rfl) (pi_below1 _ _ (z_BL (by omega) (by omega))) ?_
  rintro _ _ ⟨rfl, rfl⟩
  refine pi_cf 1 (c := nI 1 = 0) (pc' := 8) (l' := [some (.ref 0), some (.int (nI 3)), some (.int (nI f)), some (.int i), none]) (st' := []) (σ' := σ) (pc2 := 16) (l2 := [some (.ref 0), some (.int (nI 3)), some (.int (nI f)), some (.int i), none]) (st2 := []) (σ2 := σ) (fun f => rfl) (by decide) ?_
  refine pi_ca 3 (m' := 94) (l' := [some (.int (nI f)), some (.int (nI 3))]) (σ' := σ) (pc2 := 13) (l2 := [some (.ref 0), some (.int (nI 3)), some (.int (nI f)), some (.int i), none]) (t := []) (fun f => rfl) (pi_below1 _ _ (z_BL (by omega) (by omega))) ?_
  rintro _ _ ⟨rfl, rfl⟩
  refine pi_cf 1 (c := nI 1 = 0) (pc' := 20) (l' := [some (.ref 0), some (.int (nI 3)), some (.int (nI f)), some (.int i), none]) (st' := []) (σ' := σ) (pc2 := 16) (l2 := [some (.ref 0), some (.int (nI 3)), some (.int (nI f)), some (.int i), none]) (st2 := []) (σ2 := σ) (fun f => rfl) (by decide) ?_
  refine pi_aq 4 (u := 3) (n := 4) (a := 47) (c := 54) (pc' := 26) (l' := [some (.ref 0), some (.int (nI 3)), some (.int (nI f)), some (.int i), none]) (t := []) (σ' := σ) (fun f => rfl) (by omega) (by omega) rfl ?_
  refine pi_ca 3 (m' := 38) (l' := [some (.ref 54), some (.int (nI f)), some (.int i)]) (σ' := σ) (pc2 := 31) (l2 := [some (.ref 0), some (.int (nI 3)), some (.int (nI f)), some (.int i), none]) (t := []) (fun f => rfl) (pi_C_why3_3 hR.k hf3 hq1 h3) ?_
  rintro _ _ ⟨rfl, rfl⟩
  refine pi_cf 3 (c := nI 3 = 0) (pc' := 38) (l' := [some (.ref 0), some (.int (nI 3)), some (.int (nI f)), some (.int i), some (.int (nI 3))]) (st' := []) (σ' := σ) (pc2 := 48) (l2 := [some (.ref 0), some (.int (nI 3)), some (.int (nI f)), some (.int i), some (.int (nI 3))]) (st2 := []) (σ2 := σ) (fun f => rfl) (by decide) ?_
  refine pi_go 3 (pc' := 44) (l' := [some (.ref 0), some (.int (nI 3)), some (.int (nI f)), some (.int i), some (.int (nI 3))]) (st' := []) (σ' := (pi_up σ 0 7 (nI 3))) (fun f => rfl) ?_
  generalize es1 : pi_up σ 0 7 (nI 3) = s1
  refine pi_rt 2 (v := some (.int (Int32.ofNat 2147483648))) (σ' := s1) (fun f => rfl) ?_
  have hfr : pi_fr [0] s1 σ := pi_fr_of es1 (by decide) (pi_fr_rf)
  exact ⟨rfl, hR.fnd ((congrFun (congrFun es1 0) 7).symm.trans (pi_up_ss _ _ _ _)) hfr, pi_fr_tr hfr (by decide) pi_fr_rf⟩
set_option maxRecDepth 20000 in
theorem pi_X_put3_2 {xs : Nat → Int32} {L d : Nat} {W : zW} {σ : pi_S} (hR : z_CR W σ) {f : Nat} {i x : Int32} (hf3 : f < 3) (hq1 : ¬ W.th 3 = 0) (h3 : W.fo 3 = f) (h2 : ¬ z_B (W.si 3) i)  : pi_wp xs L (d + 9) 88 0 [some (.ref 0), some (.int (nI 3)), some (.int (nI f)), some (.int i), some (.int x), none] [] σ (fun v s => v = some (.int ((-10) - (nI 2))) ∧ z_CR (W.sS 0 (nI 2)) s ∧ pi_fr z_CC s σ) := by
  have hk := hR.k.p.wk
  have hnd8 := hk.wd.nd8
  have hns12 := hk.wd.ns12
  have hn60 := hk.nine
  have hnf := hk.nf
  have hnw := hk.nw
  have hnc := hk.nc
  have hn08 := hk.wd.n0
  have hn140 := hk.wd.n1
  refine pi_ca 3 (m' := 94) (l' := [some (.int (nI 3)), some (.int (nI 4))]) (σ' := σ) (pc2 := 5) (l2 := [some (.ref 0), some (.int (nI 3)), some (.int (nI f)), some (.int i), some (.int x), none]) (t := []) (fun f => rfl) (pi_below1 _ _ (z_BL (by omega) (by omega))) ?_
  rintro _ _ ⟨rfl, rfl⟩
  refine pi_cf 1 (c := nI 1 = 0) (pc' := 8) (l' := [some (.ref 0), some (.int (nI 3)), some (.int (nI f)), some (.int i), some (.int x), none]) (st' := []) (σ' := σ) (pc2 := 16) (l2 := [some (.ref 0), some (.int (nI 3)), some (.int (nI f)), some (.int i), some (.int x), none]) (st2 := []) (σ2 := σ) (fun f => rfl) (by decide) ?_
  refine pi_ca 3 (m' := 94) (l' := [some (.int (nI f)), some (.int (nI 3))]) (σ' := σ) (pc2 := 13) (l2 := [some (.ref 0), some (.int (nI 3)), some (.int (nI f)), some (.int i), some (.int x), none]) (t := []) (fun f => rfl) (pi_below1 _ _ (z_BL (by omega) (by omega))) ?_
  rintro _ _ ⟨rfl, rfl⟩
  refine pi_cf 1 (c := nI 1 = 0) (pc' := 19) (l' := [some (.ref 0), some (.int (nI 3)), some (.int (nI f)), some (.int i), some (.int x), none]) (st' := []) (σ' := σ) (pc2 := 16) (l2 := [some (.ref 0), some (.int (nI 3)), some (.int (nI f)), some (.int i), some (.int x), none]) (st2 := []) (σ2 := σ) (fun f => rfl) (by decide) ?_
  refine pi_aq 4 (u := 3) (n := 4) (a := 47) (c := 54) (pc' := 25) (l' := [some (.ref 0), some (.int (nI 3)), some (.int (nI f)), some (.int i), some (.int x), none]) (t := []) (σ' := σ) (fun f => rfl) (by omega) (by omega) rfl ?_
  refine pi_ca 3 (m' := 38) (l' := [some (.ref 54), some (.int (nI f)), some (.int i)]) (σ' := σ) (pc2 := 30) (l2 := [some (.ref 0), some (.int (nI 3)), some (.int (nI f)), some (.int i), some (.int x), none]) (t := []) (fun f => rfl) (pi_C_why3_2 hR.k hf3 hq1 h3 h2) ?_
  rintro _ _ ⟨rfl, rfl⟩
  refine pi_cf 3 (c := nI 2 = 0) (pc' := 37) (l' := [some (.ref 0), some (.int (nI 3)), some (.int (nI f)), some (.int i), some (.int x), some (.int (nI 2))]) (st' := []) (σ' := σ) (pc2 := 44) (l2 := [some (.ref 0), some (.int (nI 3)), some (.int (nI f)), some (.int i), some (.int x), some (.int (nI 2))]) (st2 := []) (σ2 := σ) (fun f => rfl) (by decide) ?_
  refine pi_ca 3 (m' := 96) (l' := [some (.ref 0), some (.int (nI 2))]) (σ' := σ) (pc2 := 43) (l2 := [some (.ref 0), some (.int (nI 3)), some (.int (nI f)), some (.int i), some (.int x), some (.int (nI 2))]) (t := []) (fun f => rfl) (pi_C_found (nI 2)) ?_
  rintro _ t1 ⟨rfl, et1, kt1, rt1⟩
  refine pi_rt 1 (v := some (.int ((-10) - (nI 2)))) (σ' := t1) (fun f => rfl) ?_
  have hfr : pi_fr [0] t1 σ := pi_fr_tr rt1 (by decide) (pi_fr_rf)
  exact ⟨rfl, hR.fnd (et1) hfr, pi_fr_tr hfr (by decide) pi_fr_rf⟩
set_option maxRecDepth 20000 in
theorem pi_X_get3_2 {xs : Nat → Int32} {L d : Nat} {W : zW} {σ : pi_S} (hR : z_CR W σ) {f : Nat} {i : Int32} (hf3 : f < 3) (hq1 : ¬ W.th 3 = 0) (h3 : W.fo 3 = f) (h2 : ¬ z_B (W.si 3) i)  : pi_wp xs L (d + 9) 89 0 [some (.ref 0), some (.int (nI 3)), some (.int (nI f)), some (.int i), none] [] σ (fun v s => v = some (.int (Int32.ofNat 2147483648)) ∧ z_CR (W.sS 0 (nI 2)) s ∧ pi_fr z_CC s σ) := by
  have hk := hR.k.p.wk
  have hnd8 := hk.wd.nd8
  have hns12 := hk.wd.ns12
  have hn60 := hk.nine
  have hnf := hk.nf
  have hnw := hk.nw
  have hnc := hk.nc
  have hn08 := hk.wd.n0
  have hn140 := hk.wd.n1
  refine pi_ca 3 (m' := 94) (l' := [some (.int (nI 3)), some (.int (nI 4))]) (σ' := σ) (pc2 := 5) (l2 := [some (.ref 0), some (.int (nI 3)), some (.int (nI f)), some (.int i), none]) (t := []) (fun f => rfl) (pi_below1 _ _ (z_BL (by omega) (by omega))) ?_
  rintro _ _ ⟨rfl, rfl⟩
  refine pi_cf 1 (c := nI 1 = 0) (pc' := 8) (l' := [some (.ref 0), some (.int (nI 3)), some (.int (nI f)), some (.int i), none]) (st' := []) (σ' := σ) (pc2 := 16) (l2 := [some (.ref 0), some (.int (nI 3)), some (.int (nI f)), some (.int i), none]) (st2 := []) (σ2 := σ) (fun f => rfl) (by decide) ?_
  refine pi_ca 3 (m' := 94) (l' := [some (.int (nI f)), some (.int (nI 3))]) (σ' := σ) (pc2 := 13) (l2 := [some (.ref 0), some (.int (nI 3)), some (.int (nI f)), some (.int i), none]) (t := []) (fun f => rfl) (pi_below1 _ _ (z_BL (by omega) (by omega))) ?_
  rintro _ _ ⟨rfl, rfl⟩
  refine pi_cf 1 (c := nI 1 = 0) (pc' := 20) (l' := [some (.ref 0), some (.int (nI 3)), some (.int (nI f)), some (.int i), none]) (st' := []) (σ' := σ) (pc2 := 16) (l2 := [some (.ref 0), some (.int (nI 3)), some (.int (nI f)), some (.int i), none]) (st2 := []) (σ2 := σ) (fun f => rfl) (by decide) ?_
  refine pi_aq 4 (u := 3) (n := 4) (a := 47) (c := 54) (pc' := 26) (l' := [some (.ref 0), some (.int (nI 3)), some (.int (nI f)), some (.int i), none]) (t := []) (σ' := σ) (fun f => rfl) (by omega) (by omega) rfl ?_
  refine pi_ca 3 (m' := 38) (l' := [some (.ref 54), some (.int (nI f)), some (.int i)]) (σ' := σ) (pc2 := 31) (l2 := [some (.ref 0), some (.int (nI 3)), some (.int (nI f)), some (.int i), none]) (t := []) (fun f => rfl) (pi_C_why3_2 hR.k hf3 hq1 h3 h2) ?_
  rintro _ _ ⟨rfl, rfl⟩
  refine pi_cf 3 (c := nI 2 = 0) (pc' := 38) (l' := [some (.ref 0), some (.int (nI 3)), some (.int (nI f)), some (.int i), some (.int (nI 2))]) (st' := []) (σ' := σ) (pc2 := 48) (l2 := [some (.ref 0), some (.int (nI 3)), some (.int (nI f)), some (.int i), some (.int (nI 2))]) (st2 := []) (σ2 := σ) (fun f => rfl) (by decide) ?_
  refine pi_go 3 (pc' := 44) (l' := [some (.ref 0), some (.int (nI 3)), some (.int (nI f)), some (.int i), some (.int (nI 2))]) (st' := []) (σ' := (pi_up σ 0 7 (nI 2))) (fun f => rfl) ?_
  generalize es1 : pi_up σ 0 7 (nI 2) = s1
  refine pi_rt 2 (v := some (.int (Int32.ofNat 2147483648))) (σ' := s1) (fun f => rfl) ?_
  have hfr : pi_fr [0] s1 σ := pi_fr_of es1 (by decide) (pi_fr_rf)
  exact ⟨rfl, hR.fnd ((congrFun (congrFun es1 0) 7).symm.trans (pi_up_ss _ _ _ _)) hfr, pi_fr_tr hfr (by decide) pi_fr_rf⟩
set_option maxRecDepth 20000 in
theorem pi_X_put3 {xs : Nat → Int32} {L d : Nat} {W : zW} {σ : pi_S} (hR : z_CR W σ) {f i : Nat} {x : Int32} (hf3 : f < 3) (hq1 : ¬ W.th 3 = 0) (h3 : W.fo 3 = f) (h2 : i < W.si 3)  : pi_wp xs L (d + 9) 88 0 [some (.ref 0), some (.int (nI 3)), some (.int (nI f)), some (.int (nI i)), some (.int x), none] [] σ (fun v s => v = some (.int (nI 1)) ∧ z_CR (W.sI 9 (upd W.it (48 * 3 + i) (z_nar (W.fo 3) x))) s ∧ pi_fr z_CC s σ) := by
  have hk := hR.k.p.wk
  have hnd8 := hk.wd.nd8
  have hns12 := hk.wd.ns12
  have hn60 := hk.nine
  have hnf := hk.nf
  have hnw := hk.nw
  have hnc := hk.nc
  have hn08 := hk.wd.n0
  have hn140 := hk.wd.n1
  have hsi := hk.si 3 (by omega)
  refine pi_ca 3 (m' := 94) (l' := [some (.int (nI 3)), some (.int (nI 4))]) (σ' := σ) (pc2 := 5) (l2 := [some (.ref 0), some (.int (nI 3)), some (.int (nI f)), some (.int (nI i)), some (.int x), none]) (t := []) (fun f => rfl) (pi_below1 _ _ (z_BL (by omega) (by omega))) ?_
  rintro _ _ ⟨rfl, rfl⟩
  refine pi_cf 1 (c := nI 1 = 0) (pc' := 8) (l' := [some (.ref 0), some (.int (nI 3)), some (.int (nI f)), some (.int (nI i)), some (.int x), none]) (st' := []) (σ' := σ) (pc2 := 16) (l2 := [some (.ref 0), some (.int (nI 3)), some (.int (nI f)), some (.int (nI i)), some (.int x), none]) (st2 := []) (σ2 := σ) (fun f => rfl) (by decide) ?_
  refine pi_ca 3 (m' := 94) (l' := [some (.int (nI f)), some (.int (nI 3))]) (σ' := σ) (pc2 := 13) (l2 := [some (.ref 0), some (.int (nI 3)), some (.int (nI f)), some (.int (nI i)), some (.int x), none]) (t := []) (fun f => rfl) (pi_below1 _ _ (z_BL (by omega) (by omega))) ?_
  rintro _ _ ⟨rfl, rfl⟩
  refine pi_cf 1 (c := nI 1 = 0) (pc' := 19) (l' := [some (.ref 0), some (.int (nI 3)), some (.int (nI f)), some (.int (nI i)), some (.int x), none]) (st' := []) (σ' := σ) (pc2 := 16) (l2 := [some (.ref 0), some (.int (nI 3)), some (.int (nI f)), some (.int (nI i)), some (.int x), none]) (st2 := []) (σ2 := σ) (fun f => rfl) (by decide) ?_
  refine pi_aq 4 (u := 3) (n := 4) (a := 47) (c := 54) (pc' := 25) (l' := [some (.ref 0), some (.int (nI 3)), some (.int (nI f)), some (.int (nI i)), some (.int x), none]) (t := []) (σ' := σ) (fun f => rfl) (by omega) (by omega) rfl ?_
  refine pi_ca 3 (m' := 38) (l' := [some (.ref 54), some (.int (nI f)), some (.int (nI i))]) (σ' := σ) (pc2 := 30) (l2 := [some (.ref 0), some (.int (nI 3)), some (.int (nI f)), some (.int (nI i)), some (.int x), none]) (t := []) (fun f => rfl) (pi_C_why3_0 hR.k hf3 hq1 h3 h2) ?_
  rintro _ _ ⟨rfl, rfl⟩
  refine pi_ct 3 (c := nI 0 = 0) (pc' := 44) (l' := [some (.ref 0), some (.int (nI 3)), some (.int (nI f)), some (.int (nI i)), some (.int x), some (.int (nI 0))]) (st' := []) (σ' := σ) (pc2 := 37) (l2 := [some (.ref 0), some (.int (nI 3)), some (.int (nI f)), some (.int (nI i)), some (.int x), some (.int (nI 0))]) (st2 := []) (σ2 := σ) (fun f => rfl) (by decide) ?_
  refine pi_aq 4 (u := 3) (n := 4) (a := 47) (c := 54) (pc' := 50) (l' := [some (.ref 0), some (.int (nI 3)), some (.int (nI f)), some (.int (nI i)), some (.int x), some (.int (nI 0))]) (t := []) (σ' := σ) (fun f => rfl) (by omega) (by omega) rfl ?_
  refine pi_ca 3 (m' := 41) (l' := [some (.ref 54), some (.int (nI i)), some (.int x)]) (σ' := σ) (pc2 := 56) (l2 := [some (.ref 0), some (.int (nI 3)), some (.int (nI f)), some (.int (nI i)), some (.int x), some (.int (nI 0))]) (t := []) (fun f => rfl) (pi_C_store3 (W := W) (hR.k.p.sf3) (hk.si 3 (by omega)).2.1 (hR.k.p.ss3.trans (z_sz_f hq1)) (hk.si 3 (by omega)).1 (i := i) (by omega) x) ?_
  rintro _ t1 ⟨rfl, et1, rt1⟩
  refine pi_rt 2 (v := some (.int (nI 1))) (σ' := t1) (fun f => rfl) ?_
  have hfr : pi_fr [55] t1 σ := pi_fr_tr rt1 (by decide) (pi_fr_rf)
  exact ⟨rfl, hR.it3 (fun j hj => (congrFun (et1) j).trans (z_put_at (hR.k.p.si3 j hj))) (fun q hq => z_upd_n _ _ (hq i (by omega))) hfr, pi_fr_tr hfr (by decide) pi_fr_rf⟩
set_option maxRecDepth 20000 in
theorem pi_X_get3 {xs : Nat → Int32} {L d : Nat} {W : zW} {σ : pi_S} (hR : z_CR W σ) {f i : Nat} (hf3 : f < 3) (hq1 : ¬ W.th 3 = 0) (h3 : W.fo 3 = f) (h2 : i < W.si 3)  : pi_wp xs L (d + 9) 89 0 [some (.ref 0), some (.int (nI 3)), some (.int (nI f)), some (.int (nI i)), none] [] σ (fun v s => v = some (.int (W.it (48 * 3 + i))) ∧ z_CR W s ∧ pi_fr z_CJ s σ) := by
  have hk := hR.k.p.wk
  have hnd8 := hk.wd.nd8
  have hns12 := hk.wd.ns12
  have hn60 := hk.nine
  have hnf := hk.nf
  have hnw := hk.nw
  have hnc := hk.nc
  have hn08 := hk.wd.n0
  have hn140 := hk.wd.n1
  have hsi := hk.si 3 (by omega)
  refine pi_ca 3 (m' := 94) (l' := [some (.int (nI 3)), some (.int (nI 4))]) (σ' := σ) (pc2 := 5) (l2 := [some (.ref 0), some (.int (nI 3)), some (.int (nI f)), some (.int (nI i)), none]) (t := []) (fun f => rfl) (pi_below1 _ _ (z_BL (by omega) (by omega))) ?_
  rintro _ _ ⟨rfl, rfl⟩
  refine pi_cf 1 (c := nI 1 = 0) (pc' := 8) (l' := [some (.ref 0), some (.int (nI 3)), some (.int (nI f)), some (.int (nI i)), none]) (st' := []) (σ' := σ) (pc2 := 16) (l2 := [some (.ref 0), some (.int (nI 3)), some (.int (nI f)), some (.int (nI i)), none]) (st2 := []) (σ2 := σ) (fun f => rfl) (by decide) ?_
  refine pi_ca 3 (m' := 94) (l' := [some (.int (nI f)), some (.int (nI 3))]) (σ' := σ) (pc2 := 13) (l2 := [some (.ref 0), some (.int (nI 3)), some (.int (nI f)), some (.int (nI i)), none]) (t := []) (fun f => rfl) (pi_below1 _ _ (z_BL (by omega) (by omega))) ?_
  rintro _ _ ⟨rfl, rfl⟩
  refine pi_cf 1 (c := nI 1 = 0) (pc' := 20) (l' := [some (.ref 0), some (.int (nI 3)), some (.int (nI f)), some (.int (nI i)), none]) (st' := []) (σ' := σ) (pc2 := 16) (l2 := [some (.ref 0), some (.int (nI 3)), some (.int (nI f)), some (.int (nI i)), none]) (st2 := []) (σ2 := σ) (fun f => rfl) (by decide) ?_
  refine pi_aq 4 (u := 3) (n := 4) (a := 47) (c := 54) (pc' := 26) (l' := [some (.ref 0), some (.int (nI 3)), some (.int (nI f)), some (.int (nI i)), none]) (t := []) (σ' := σ) (fun f => rfl) (by omega) (by omega) rfl ?_
  refine pi_ca 3 (m' := 38) (l' := [some (.ref 54), some (.int (nI f)), some (.int (nI i))]) (σ' := σ) (pc2 := 31) (l2 := [some (.ref 0), some (.int (nI 3)), some (.int (nI f)), some (.int (nI i)), none]) (t := []) (fun f => rfl) (pi_C_why3_0 hR.k hf3 hq1 h3 h2) ?_
  rintro _ _ ⟨rfl, rfl⟩
  refine pi_ct 3 (c := nI 0 = 0) (pc' := 48) (l' := [some (.ref 0), some (.int (nI 3)), some (.int (nI f)), some (.int (nI i)), some (.int (nI 0))]) (st' := []) (σ' := σ) (pc2 := 38) (l2 := [some (.ref 0), some (.int (nI 3)), some (.int (nI f)), some (.int (nI i)), some (.int (nI 0))]) (st2 := []) (σ2 := σ) (fun f => rfl) (by decide) ?_
  refine pi_aq 4 (u := 3) (n := 4) (a := 47) (c := 54) (pc' := 54) (l' := [some (.ref 0), some (.int (nI 3)), some (.int (nI f)), some (.int (nI i)), some (.int (nI 0))]) (t := []) (σ' := σ) (fun f => rfl) (by omega) (by omega) rfl ?_
  refine pi_ca 2 (m' := 40) (l' := [some (.ref 54), some (.int (nI i))]) (σ' := σ) (pc2 := 58) (l2 := [some (.ref 0), some (.int (nI 3)), some (.int (nI f)), some (.int (nI i)), some (.int (nI 0))]) (t := []) (fun f => rfl) (pi_C_itemAt3 (W := W) (i := i) (hR.k.p.ss3.trans (z_sz_f hq1)) (hk.si 3 (by omega)).1 ((hR.k.p.si3 i (by omega))) (by omega)) ?_
  rintro _ _ ⟨rfl, rfl⟩
  refine pi_rt 1 (v := some (.int (W.it (48 * 3 + i)))) (σ' := σ) (fun f => rfl) ?_
  exact ⟨rfl, hR, pi_fr_rf⟩
set_option maxRecDepth 20000 in
theorem pi_X_write3_null {xs : Nat → Int32} {L d : Nat} {W : zW} {σ : pi_S} (hR : z_CR W σ) {mi : Nat} (hi : mi < W.nine + 1) (hq0 : W.th 3 = 0)  : pi_wp xs L (d + 9) 91 0 [some (.ref 0), some (.int (nI mi)), some (.int (nI 3)), none, none, none, none] [] σ (fun v s => v = some (.int ((-10) - (nI 1))) ∧ z_CR (W.sS 0 (nI 1)) s ∧ pi_fr z_CC s σ) := by
  have hk := hR.k.p.wk
  have hnd8 := hk.wd.nd8
  have hns12 := hk.wd.ns12
  have hn60 := hk.nine
  have hnf := hk.nf
  have hnw := hk.nw
  have hnc := hk.nc
  have hn08 := hk.wd.n0
  have hn140 := hk.wd.n1
  refine pi_ca 3 (m' := 95) (l' := [some (.ref 0), some (.int (nI mi))]) (σ' := σ) (pc2 := 5) (l2 := [some (.ref 0), some (.int (nI mi)), some (.int (nI 3)), none, none, none, none]) (t := []) (fun f => rfl) (pi_C_toNineT hR.k (by omega)) ?_
  rintro _ _ ⟨rfl, rfl⟩
  refine pi_cf 1 (c := nI 1 = 0) (pc' := 8) (l' := [some (.ref 0), some (.int (nI mi)), some (.int (nI 3)), none, none, none, none]) (st' := []) (σ' := σ) (pc2 := 16) (l2 := [some (.ref 0), some (.int (nI mi)), some (.int (nI 3)), none, none, none, none]) (st2 := []) (σ2 := σ) (fun f => rfl) (by decide) ?_
  refine pi_ca 3 (m' := 94) (l' := [some (.int (nI 3)), some (.int (nI 4))]) (σ' := σ) (pc2 := 13) (l2 := [some (.ref 0), some (.int (nI mi)), some (.int (nI 3)), none, none, none, none]) (t := []) (fun f => rfl) (pi_below1 _ _ (z_BL (by omega) (by omega))) ?_
  rintro _ _ ⟨rfl, rfl⟩
  refine pi_cf 1 (c := nI 1 = 0) (pc' := 19) (l' := [some (.ref 0), some (.int (nI mi)), some (.int (nI 3)), none, none, none, none]) (st' := []) (σ' := σ) (pc2 := 16) (l2 := [some (.ref 0), some (.int (nI mi)), some (.int (nI 3)), none, none, none, none]) (st2 := []) (σ2 := σ) (fun f => rfl) (by decide) ?_
  refine pi_aq 4 (u := 3) (n := 4) (a := 47) (c := 54) (pc' := 25) (l' := [some (.ref 0), some (.int (nI mi)), some (.int (nI 3)), none, none, none, none]) (t := []) (σ' := σ) (fun f => rfl) (by omega) (by omega) rfl ?_
  refine pi_ca 3 (m' := 36) (l' := [some (.ref 54)]) (σ' := σ) (pc2 := 30) (l2 := [some (.ref 0), some (.int (nI mi)), some (.int (nI 3)), some (.ref 54), none, none, none]) (t := []) (fun f => rfl) (pi_C_lost3_t hR.k hq0) ?_
  rintro _ _ ⟨rfl, rfl⟩
  refine pi_cf 1 (c := nI 1 = 0) (pc' := 33) (l' := [some (.ref 0), some (.int (nI mi)), some (.int (nI 3)), some (.ref 54), none, none, none]) (st' := []) (σ' := σ) (pc2 := 39) (l2 := [some (.ref 0), some (.int (nI mi)), some (.int (nI 3)), some (.ref 54), none, none, none]) (st2 := []) (σ2 := σ) (fun f => rfl) (by decide) ?_
  refine pi_ca 3 (m' := 96) (l' := [some (.ref 0), some (.int (nI 1))]) (σ' := σ) (pc2 := 38) (l2 := [some (.ref 0), some (.int (nI mi)), some (.int (nI 3)), some (.ref 54), none, none, none]) (t := []) (fun f => rfl) (pi_C_found (nI 1)) ?_
  rintro _ t1 ⟨rfl, et1, kt1, rt1⟩
  refine pi_rt 1 (v := some (.int ((-10) - (nI 1)))) (σ' := t1) (fun f => rfl) ?_
  have hfr : pi_fr [0] t1 σ := pi_fr_tr rt1 (by decide) (pi_fr_rf)
  exact ⟨rfl, hR.fnd (et1) hfr, pi_fr_tr hfr (by decide) pi_fr_rf⟩
set_option maxRecDepth 20000 in
theorem pi_X_write3c {xs : Nat → Int32} {L d : Nat} {W : zW} {σ : pi_S} (hR : z_CR W σ) (hq1 : ¬ W.th 3 = 0) {N : Nat} (hN : N ≤ W.si 3 ∧ N ≤ W.nd ∧ (N = W.si 3 ∨ N = W.nd))  : pi_wp xs L (d + 9) 91 0 [some (.ref 0), some (.int (nI W.nine)), some (.int (nI 3)), none, none, none, none] [] σ (fun v s => v = some (.int (nI N)) ∧ z_CR (W.sI 9 (z_wr W 3 ((z_A W).1.1.1) N)) s ∧ pi_fr z_CC s σ) := by
  have hk := hR.k.p.wk
  have hnd8 := hk.wd.nd8
  have hns12 := hk.wd.ns12
  have hn60 := hk.nine
  have hnf := hk.nf
  have hnw := hk.nw
  have hnc := hk.nc
  have hn08 := hk.wd.n0
  have hn140 := hk.wd.n1
  have hsi := hk.si 3 (by omega)
  refine pi_ca 3 (m' := 95) (l' := [some (.ref 0), some (.int (nI W.nine))]) (σ' := σ) (pc2 := 5) (l2 := [some (.ref 0), some (.int (nI W.nine)), some (.int (nI 3)), none, none, none, none]) (t := []) (fun f => rfl) (pi_C_toNineT hR.k (by omega)) ?_
  rintro _ _ ⟨rfl, rfl⟩
  refine pi_cf 1 (c := nI 1 = 0) (pc' := 8) (l' := [some (.ref 0), some (.int (nI W.nine)), some (.int (nI 3)), none, none, none, none]) (st' := []) (σ' := σ) (pc2 := 16) (l2 := [some (.ref 0), some (.int (nI W.nine)), some (.int (nI 3)), none, none, none, none]) (st2 := []) (σ2 := σ) (fun f => rfl) (by decide) ?_
  refine pi_ca 3 (m' := 94) (l' := [some (.int (nI 3)), some (.int (nI 4))]) (σ' := σ) (pc2 := 13) (l2 := [some (.ref 0), some (.int (nI W.nine)), some (.int (nI 3)), none, none, none, none]) (t := []) (fun f => rfl) (pi_below1 _ _ (z_BL (by omega) (by omega))) ?_
  rintro _ _ ⟨rfl, rfl⟩
  refine pi_cf 1 (c := nI 1 = 0) (pc' := 19) (l' := [some (.ref 0), some (.int (nI W.nine)), some (.int (nI 3)), none, none, none, none]) (st' := []) (σ' := σ) (pc2 := 16) (l2 := [some (.ref 0), some (.int (nI W.nine)), some (.int (nI 3)), none, none, none, none]) (st2 := []) (σ2 := σ) (fun f => rfl) (by decide) ?_
  refine pi_aq 4 (u := 3) (n := 4) (a := 47) (c := 54) (pc' := 25) (l' := [some (.ref 0), some (.int (nI W.nine)), some (.int (nI 3)), none, none, none, none]) (t := []) (σ' := σ) (fun f => rfl) (by omega) (by omega) rfl ?_
  refine pi_ca 3 (m' := 36) (l' := [some (.ref 54)]) (σ' := σ) (pc2 := 30) (l2 := [some (.ref 0), some (.int (nI W.nine)), some (.int (nI 3)), some (.ref 54), none, none, none]) (t := []) (fun f => rfl) (pi_C_lost3_f hR.k hq1) ?_
  rintro _ _ ⟨rfl, rfl⟩
  refine pi_ct 1 (c := nI 0 = 0) (pc' := 39) (l' := [some (.ref 0), some (.int (nI W.nine)), some (.int (nI 3)), some (.ref 54), none, none, none]) (st' := []) (σ' := σ) (pc2 := 33) (l2 := [some (.ref 0), some (.int (nI W.nine)), some (.int (nI 3)), some (.ref 54), none, none, none]) (st2 := []) (σ2 := σ) (fun f => rfl) (by decide) ?_
  refine pi_ca 3 (m' := 98) (l' := [some (.ref 0), some (.int (nI W.nine))]) (σ' := σ) (pc2 := 44) (l2 := [some (.ref 0), some (.int (nI W.nine)), some (.int (nI 3)), some (.ref 54), none, none, none]) (t := []) (fun f => rfl) (pi_C_behind_c hR.k) ?_
  rintro _ _ ⟨rfl, rfl⟩
  refine pi_go 4 (pc' := 53) (l' := [some (.ref 0), some (.int (nI W.nine)), some (.int (nI 3)), some (.ref 54), some (.ref 34), none, none]) (st' := [.int (σ 54 2)]) (σ' := σ) (fun f => rfl) ?_
  refine pi_tp (y := nI (W.si 3)) (hR.k.p.ss3.trans (z_sz_f hq1)) ?_
  refine pi_go 3 (pc' := 60) (l' := [some (.ref 0), some (.int (nI W.nine)), some (.int (nI 3)), some (.ref 54), some (.ref 34), none, none]) (st' := [.int (σ 1 8), .int (nI (W.si 3))]) (σ' := σ) (fun f => rfl) ?_
  refine pi_tp (y := nI W.nd) (hR.k.t.d) ?_
  refine pi_go 1 (pc' := 63) (l' := [some (.ref 0), some (.int (nI W.nine)), some (.int (nI 3)), some (.ref 54), some (.ref 34), none, none]) (st' := [.int (if nI W.nd < nI (W.si 3) then nI W.nd else nI (W.si 3))]) (σ' := σ) (fun f => rfl) ?_
  refine pi_tp (y := nI N) (z_min_N (by omega) (by omega) hN) ?_
  refine pi_go 3 (pc' := 68) (l' := [some (.ref 0), some (.int (nI W.nine)), some (.int (nI 3)), some (.ref 54), some (.ref 34), some (.int (nI N)), some (.int (nI 0))]) (st' := []) (σ' := σ) (fun f => rfl) ?_
  have hcr0 : z_CR W σ := hR
  have hfb : σ 35 = (z_A W).1.1.1 := hR.b
  have hfr0 : pi_fr z_CC σ σ := pi_fr_rf
  suffices hl1 : ∀ q9, q9 ≤ N → ∀ (z1 : pi_S), pi_fr z_CC z1 σ → (pi_fr [55] z1 σ ∧ ∀ j, j < 48 → z1 55 j = z_wr W 3 ((z_A W).1.1.1) q9 (48 * 3 + j)) → pi_wp xs L (d + 9) 91 68 [some (.ref 0), some (.int (nI W.nine)), some (.int (nI 3)), some (.ref 54), some (.ref 34), some (.int (nI N)), some (.int (nI q9))] [] z1 (fun v s => v = some (.int (nI N)) ∧ z_CR (W.sI 9 (z_wr W 3 ((z_A W).1.1.1) N)) s ∧ pi_fr z_CC s σ) from hl1 0 (by omega) _ (pi_fr_rf) (⟨pi_fr_rf, hcr0.k.p.si3⟩)
  refine pi_lp0 ?_ ?_
  · intro z1 hrz1 hx1
    refine pi_ct 3 (c := nI N ≤ nI N) (pc' := 94) (l' := [some (.ref 0), some (.int (nI W.nine)), some (.int (nI 3)), some (.ref 54), some (.ref 34), some (.int (nI N)), some (.int (nI N))]) (st' := []) (σ' := z1) (pc2 := 75) (l2 := [some (.ref 0), some (.int (nI W.nine)), some (.int (nI 3)), some (.ref 54), some (.ref 34), some (.int (nI N)), some (.int (nI N))]) (st2 := []) (σ2 := z1) (fun f => rfl) ((show nI N ≤ nI N ↔ _ from nI_leI (by omega) (by omega)).mpr (by omega)) ?_
    refine pi_rt 2 (v := some (.int (nI N))) (σ' := z1) (fun f => rfl) ?_
    exact ⟨rfl, hcr0.it3 hx1.2 (z_wr_o N (by omega)) hx1.1, pi_fr_tr hrz1 (by decide) (pi_fr_rf)⟩
  · intro q9 hi1 ih1 z1 hrz1 hx1
    refine pi_cf 3 (c := nI N ≤ nI q9) (pc' := 75) (l' := [some (.ref 0), some (.int (nI W.nine)), some (.int (nI 3)), some (.ref 54), some (.ref 34), some (.int (nI N)), some (.int (nI q9))]) (st' := []) (σ' := z1) (pc2 := 94) (l2 := [some (.ref 0), some (.int (nI W.nine)), some (.int (nI 3)), some (.ref 54), some (.ref 34), some (.int (nI N)), some (.int (nI q9))]) (st2 := []) (σ2 := z1) (fun f => rfl) (fun zq => absurd ((show nI N ≤ nI q9 ↔ _ from nI_leI (by omega) (by omega)).mp zq) (by omega)) ?_
    refine pi_ca 5 (m' := 23) (l' := [some (.ref 34), some (.int (nI q9)), none, none]) (σ' := z1) (pc2 := 85) (l2 := [some (.ref 0), some (.int (nI W.nine)), some (.int (nI 3)), some (.ref 54), some (.ref 34), some (.int (nI N)), some (.int (nI q9))]) (t := [.int (nI q9), .ref 54]) (fun f => rfl) (pi_C_all_c (by omega)) ?_
    rintro _ _ ⟨rfl, rfl⟩
    refine pi_tp (y := z_all ((z_A W).1.1.1) q9) (congrArg (fun z => z_all z q9) ((hx1.1 35 (by decide)).trans hfb)) ?_
    refine pi_ca 1 (m' := 41) (l' := [some (.ref 54), some (.int (nI q9)), some (.int (z_all ((z_A W).1.1.1) q9))]) (σ' := z1) (pc2 := 88) (l2 := [some (.ref 0), some (.int (nI W.nine)), some (.int (nI 3)), some (.ref 54), some (.ref 34), some (.int (nI N)), some (.int (nI q9))]) (t := []) (fun f => rfl) (pi_C_store3 (W := W) ((congrFun (hx1.1 54 (by decide)) 1).trans (hcr0.k.p.sf3)) (hk.si 3 (by omega)).2.1 ((congrFun (hx1.1 54 (by decide)) 2).trans (hcr0.k.p.ss3.trans (z_sz_f hq1))) (hk.si 3 (by omega)).1 (i := q9) (by omega) (z_all ((z_A W).1.1.1) q9)) ?_
    rintro _ t2 ⟨rfl, et2, rt2⟩
    refine pi_go 1 (pc' := 91) (l' := [some (.ref 0), some (.int (nI W.nine)), some (.int (nI 3)), some (.ref 54), some (.ref 34), some (.int (nI N)), some (.int (nI q9 + nI 1))]) (st' := []) (σ' := t2) (fun f => rfl) ?_
    rw [show nI q9 + nI 1 = nI (q9 + 1) from nI_add _ 1]
    refine pi_go 1 (pc' := 68) (l' := [some (.ref 0), some (.int (nI W.nine)), some (.int (nI 3)), some (.ref 54), some (.ref 34), some (.int (nI N)), some (.int (nI (q9 + 1)))]) (st' := []) (σ' := t2) (fun f => rfl) ?_
    exact ih1 _ (pi_fr_tr rt2 (by decide) (pi_fr_tr hrz1 (by decide) (pi_fr_rf))) (⟨pi_fr_tr rt2 (by decide) (hx1.1), fun j hj => (congrFun (et2) j).trans (z_wr_st rfl hx1.2 j hj)⟩)
set_option maxRecDepth 20000 in
theorem pi_X_write3t {xs : Nat → Int32} {L d : Nat} {W : zW} {σ : pi_S} (hR : z_CR W σ) {mi : Nat} (hmi : mi < W.nine) (hq1 : ¬ W.th 3 = 0) {N : Nat} (hN : N ≤ W.si 3 ∧ N ≤ W.nd ∧ (N = W.si 3 ∨ N = W.nd))  : pi_wp xs L (d + 9) 91 0 [some (.ref 0), some (.int (nI mi)), some (.int (nI 3)), none, none, none, none] [] σ (fun v s => v = some (.int (nI N)) ∧ z_CR (W.sI 9 (z_wr W 3 ((z_R W (-1) (-1) 0 (fun _ => 0) (mi + 1)).1.1.1) N)) s ∧ pi_fr z_CC s σ) := by
  have hk := hR.k.p.wk
  have hnd8 := hk.wd.nd8
  have hns12 := hk.wd.ns12
  have hn60 := hk.nine
  have hnf := hk.nf
  have hnw := hk.nw
  have hnc := hk.nc
  have hn08 := hk.wd.n0
  have hn140 := hk.wd.n1
  have hsi := hk.si 3 (by omega)
  refine pi_ca 3 (m' := 95) (l' := [some (.ref 0), some (.int (nI mi))]) (σ' := σ) (pc2 := 5) (l2 := [some (.ref 0), some (.int (nI mi)), some (.int (nI 3)), none, none, none, none]) (t := []) (fun f => rfl) (pi_C_toNineT hR.k (by omega)) ?_
  rintro _ _ ⟨rfl, rfl⟩
  refine pi_cf 1 (c := nI 1 = 0) (pc' := 8) (l' := [some (.ref 0), some (.int (nI mi)), some (.int (nI 3)), none, none, none, none]) (st' := []) (σ' := σ) (pc2 := 16) (l2 := [some (.ref 0), some (.int (nI mi)), some (.int (nI 3)), none, none, none, none]) (st2 := []) (σ2 := σ) (fun f => rfl) (by decide) ?_
  refine pi_ca 3 (m' := 94) (l' := [some (.int (nI 3)), some (.int (nI 4))]) (σ' := σ) (pc2 := 13) (l2 := [some (.ref 0), some (.int (nI mi)), some (.int (nI 3)), none, none, none, none]) (t := []) (fun f => rfl) (pi_below1 _ _ (z_BL (by omega) (by omega))) ?_
  rintro _ _ ⟨rfl, rfl⟩
  refine pi_cf 1 (c := nI 1 = 0) (pc' := 19) (l' := [some (.ref 0), some (.int (nI mi)), some (.int (nI 3)), none, none, none, none]) (st' := []) (σ' := σ) (pc2 := 16) (l2 := [some (.ref 0), some (.int (nI mi)), some (.int (nI 3)), none, none, none, none]) (st2 := []) (σ2 := σ) (fun f => rfl) (by decide) ?_
  refine pi_aq 4 (u := 3) (n := 4) (a := 47) (c := 54) (pc' := 25) (l' := [some (.ref 0), some (.int (nI mi)), some (.int (nI 3)), none, none, none, none]) (t := []) (σ' := σ) (fun f => rfl) (by omega) (by omega) rfl ?_
  refine pi_ca 3 (m' := 36) (l' := [some (.ref 54)]) (σ' := σ) (pc2 := 30) (l2 := [some (.ref 0), some (.int (nI mi)), some (.int (nI 3)), some (.ref 54), none, none, none]) (t := []) (fun f => rfl) (pi_C_lost3_f hR.k hq1) ?_
  rintro _ _ ⟨rfl, rfl⟩
  refine pi_ct 1 (c := nI 0 = 0) (pc' := 39) (l' := [some (.ref 0), some (.int (nI mi)), some (.int (nI 3)), some (.ref 54), none, none, none]) (st' := []) (σ' := σ) (pc2 := 33) (l2 := [some (.ref 0), some (.int (nI mi)), some (.int (nI 3)), some (.ref 54), none, none, none]) (st2 := []) (σ2 := σ) (fun f => rfl) (by decide) ?_
  refine pi_ca 3 (m' := 98) (l' := [some (.ref 0), some (.int (nI mi))]) (σ' := σ) (pc2 := 44) (l2 := [some (.ref 0), some (.int (nI mi)), some (.int (nI 3)), some (.ref 54), none, none, none]) (t := []) (fun f => rfl) (pi_C_behind_t hR (by omega)) ?_
  rintro _ t1 ⟨rfl, et1_1, et1_2, gt1, rt1⟩
  refine pi_go 4 (pc' := 53) (l' := [some (.ref 0), some (.int (nI mi)), some (.int (nI 3)), some (.ref 54), some (.ref 38), none, none]) (st' := [.int (t1 54 2)]) (σ' := t1) (fun f => rfl) ?_
  refine pi_tp (y := nI (W.si 3)) ((congrFun (rt1 54 (by decide)) 2).trans (hR.k.p.ss3.trans (z_sz_f hq1))) ?_
  refine pi_go 3 (pc' := 60) (l' := [some (.ref 0), some (.int (nI mi)), some (.int (nI 3)), some (.ref 54), some (.ref 38), none, none]) (st' := [.int (t1 1 8), .int (nI (W.si 3))]) (σ' := t1) (fun f => rfl) ?_
  refine pi_tp (y := nI W.nd) ((congrFun (rt1 1 (by decide)) 8).trans (hR.k.t.d)) ?_
  refine pi_go 1 (pc' := 63) (l' := [some (.ref 0), some (.int (nI mi)), some (.int (nI 3)), some (.ref 54), some (.ref 38), none, none]) (st' := [.int (if nI W.nd < nI (W.si 3) then nI W.nd else nI (W.si 3))]) (σ' := t1) (fun f => rfl) ?_
  refine pi_tp (y := nI N) (z_min_N (by omega) (by omega) hN) ?_
  refine pi_go 3 (pc' := 68) (l' := [some (.ref 0), some (.int (nI mi)), some (.int (nI 3)), some (.ref 54), some (.ref 38), some (.int (nI N)), some (.int (nI 0))]) (st' := []) (σ' := t1) (fun f => rfl) ?_
  have hcr0 : z_CR W t1 := gt1
  have hfb : t1 39 = (z_R W (-1) (-1) 0 (fun _ => 0) (mi + 1)).1.1.1 := et1_1
  have hfr0 : pi_fr z_CC t1 σ := pi_fr_tr rt1 (by decide) (pi_fr_rf)
  suffices hl2 : ∀ q9, q9 ≤ N → ∀ (z2 : pi_S), pi_fr z_CC z2 σ → (pi_fr [55] z2 t1 ∧ ∀ j, j < 48 → z2 55 j = z_wr W 3 ((z_R W (-1) (-1) 0 (fun _ => 0) (mi + 1)).1.1.1) q9 (48 * 3 + j)) → pi_wp xs L (d + 9) 91 68 [some (.ref 0), some (.int (nI mi)), some (.int (nI 3)), some (.ref 54), some (.ref 38), some (.int (nI N)), some (.int (nI q9))] [] z2 (fun v s => v = some (.int (nI N)) ∧ z_CR (W.sI 9 (z_wr W 3 ((z_R W (-1) (-1) 0 (fun _ => 0) (mi + 1)).1.1.1) N)) s ∧ pi_fr z_CC s σ) from hl2 0 (by omega) _ (pi_fr_tr rt1 (by decide) (pi_fr_rf)) (⟨pi_fr_rf, hcr0.k.p.si3⟩)
  refine pi_lp0 ?_ ?_
  · intro z2 hrz2 hx2
    refine pi_ct 3 (c := nI N ≤ nI N) (pc' := 94) (l' := [some (.ref 0), some (.int (nI mi)), some (.int (nI 3)), some (.ref 54), some (.ref 38), some (.int (nI N)), some (.int (nI N))]) (st' := []) (σ' := z2) (pc2 := 75) (l2 := [some (.ref 0), some (.int (nI mi)), some (.int (nI 3)), some (.ref 54), some (.ref 38), some (.int (nI N)), some (.int (nI N))]) (st2 := []) (σ2 := z2) (fun f => rfl) ((show nI N ≤ nI N ↔ _ from nI_leI (by omega) (by omega)).mpr (by omega)) ?_
    refine pi_rt 2 (v := some (.int (nI N))) (σ' := z2) (fun f => rfl) ?_
    exact ⟨rfl, hcr0.it3 hx2.2 (z_wr_o N (by omega)) hx2.1, pi_fr_tr hrz2 (by decide) (pi_fr_rf)⟩
  · intro q9 hi2 ih2 z2 hrz2 hx2
    refine pi_cf 3 (c := nI N ≤ nI q9) (pc' := 75) (l' := [some (.ref 0), some (.int (nI mi)), some (.int (nI 3)), some (.ref 54), some (.ref 38), some (.int (nI N)), some (.int (nI q9))]) (st' := []) (σ' := z2) (pc2 := 94) (l2 := [some (.ref 0), some (.int (nI mi)), some (.int (nI 3)), some (.ref 54), some (.ref 38), some (.int (nI N)), some (.int (nI q9))]) (st2 := []) (σ2 := z2) (fun f => rfl) (fun zq => absurd ((show nI N ≤ nI q9 ↔ _ from nI_leI (by omega) (by omega)).mp zq) (by omega)) ?_
    refine pi_ca 5 (m' := 23) (l' := [some (.ref 38), some (.int (nI q9)), none, none]) (σ' := z2) (pc2 := 85) (l2 := [some (.ref 0), some (.int (nI mi)), some (.int (nI 3)), some (.ref 54), some (.ref 38), some (.int (nI N)), some (.int (nI q9))]) (t := [.int (nI q9), .ref 54]) (fun f => rfl) (pi_C_all_t (by omega)) ?_
    rintro _ _ ⟨rfl, rfl⟩
    refine pi_tp (y := z_all ((z_R W (-1) (-1) 0 (fun _ => 0) (mi + 1)).1.1.1) q9) (congrArg (fun z => z_all z q9) ((hx2.1 39 (by decide)).trans hfb)) ?_
    refine pi_ca 1 (m' := 41) (l' := [some (.ref 54), some (.int (nI q9)), some (.int (z_all ((z_R W (-1) (-1) 0 (fun _ => 0) (mi + 1)).1.1.1) q9))]) (σ' := z2) (pc2 := 88) (l2 := [some (.ref 0), some (.int (nI mi)), some (.int (nI 3)), some (.ref 54), some (.ref 38), some (.int (nI N)), some (.int (nI q9))]) (t := []) (fun f => rfl) (pi_C_store3 (W := W) ((congrFun (hx2.1 54 (by decide)) 1).trans (hcr0.k.p.sf3)) (hk.si 3 (by omega)).2.1 ((congrFun (hx2.1 54 (by decide)) 2).trans (hcr0.k.p.ss3.trans (z_sz_f hq1))) (hk.si 3 (by omega)).1 (i := q9) (by omega) (z_all ((z_R W (-1) (-1) 0 (fun _ => 0) (mi + 1)).1.1.1) q9)) ?_
    rintro _ t3 ⟨rfl, et3, rt3⟩
    refine pi_go 1 (pc' := 91) (l' := [some (.ref 0), some (.int (nI mi)), some (.int (nI 3)), some (.ref 54), some (.ref 38), some (.int (nI N)), some (.int (nI q9 + nI 1))]) (st' := []) (σ' := t3) (fun f => rfl) ?_
    rw [show nI q9 + nI 1 = nI (q9 + 1) from nI_add _ 1]
    refine pi_go 1 (pc' := 68) (l' := [some (.ref 0), some (.int (nI mi)), some (.int (nI 3)), some (.ref 54), some (.ref 38), some (.int (nI N)), some (.int (nI (q9 + 1)))]) (st' := []) (σ' := t3) (fun f => rfl) ?_
    exact ih2 _ (pi_fr_tr rt3 (by decide) (pi_fr_tr hrz2 (by decide) (pi_fr_rf))) (⟨pi_fr_tr rt3 (by decide) (hx2.1), fun j hj => (congrFun (et3) j).trans (z_wr_st rfl hx2.2 j hj)⟩)
