theorem pi_cpy_at {σ s : pi_S} {a b i j n : Nat} (e : pi_cpy σ a b i j n = s) : s b = va_cpy (σ a) (σ b) i j n := by
  rw [← e]
  exact if_pos rfl
theorem pi_cpy_fr {σ s : pi_S} {a b i j n : Nat} (e : pi_cpy σ a b i j n = s) : pi_fr [b] s σ := fun c hc => by
  rw [← e]
  exact if_neg (fun q => hc (by rw [q]; exact List.mem_singleton.mpr rfl))
theorem z_cp_row {W : zW} {ks kt i j n : Nat} {f g : Nat → Int32} (hf : ∀ q, q < 48 → f q = W.it (48 * ks + q)) (hg : ∀ q, q < 48 → g q = W.it (48 * kt + q)) (hi : i + n ≤ 48) (hj : j + n ≤ 48) : ∀ q, q < 48 → va_cpy f g i j n q = pi_lp (fun q f => upd f (48 * kt + j + q) (W.it (48 * ks + i + q))) n W.it (48 * kt + q) := by
  intro q hq
  rw [z_cpl_at W.it W.it (48 * ks + i) (48 * kt + j) n (48 * kt + q)]
  unfold va_cpy
  by_cases w : j ≤ q ∧ q < j + n
  · rw [if_pos w, if_pos (by omega), hf _ (by omega), show 48 * ks + i + (48 * kt + q - (48 * kt + j)) = 48 * ks + (i + (q - j)) by omega]
  · rw [if_neg w, if_neg (by omega), hg q hq]
theorem z_cp_o {W : zW} {ks kt i j n : Nat} (hj : j + n ≤ 48) (x : Nat) (hx : ∀ q, q < 48 → x ≠ 48 * kt + q) : pi_lp (fun q f => upd f (48 * kt + j + q) (W.it (48 * ks + i + q))) n W.it x = W.it x := by
  rw [z_cpl_at W.it W.it (48 * ks + i) (48 * kt + j) n x, if_neg]
  rintro ⟨h1, h2⟩
  exact hx (x - 48 * kt) (by omega) (by omega)
set_option maxRecDepth 20000 in
theorem pi_X_copy00_null1 {xs : Nat → Int32} {L d : Nat} {W : zW} {σ : pi_S} (hR : z_CR W σ) {i j n : Int32} (hs0 : W.th 0 = 0)  : pi_wp xs L (d + 9) 90 0 [some (.ref 0), some (.int (nI 0)), some (.int i), some (.int (nI 0)), some (.int j), some (.int n), none, none] [] σ (fun v s => v = some (.int ((-10) - (nI 1))) ∧ z_CR (W.sS 0 (nI 1)) s ∧ pi_fr z_CC s σ) := by
  have hk := hR.k.p.wk
  have hnd8 := hk.wd.nd8
  have hns12 := hk.wd.ns12
  have hn60 := hk.nine
  have hnf := hk.nf
  have hnw := hk.nw
  have hnc := hk.nc
  have hn08 := hk.wd.n0
  have hn140 := hk.wd.n1
  have hsi := hk.si 0 (by omega)
  have hti := hk.si 0 (by omega)
  refine pi_ca 3 (m' := 94) (l' := [some (.int (nI 0)), some (.int (nI 4))]) (σ' := σ) (pc2 := 5) (l2 := [some (.ref 0), some (.int (nI 0)), some (.int i), some (.int (nI 0)), some (.int j), some (.int n), none, none]) (t := []) (fun f => rfl) (pi_below1 _ _ (z_BL (by omega) (by omega))) ?_
  rintro _ _ ⟨rfl, rfl⟩
  refine pi_cf 1 (c := nI 1 = 0) (pc' := 8) (l' := [some (.ref 0), some (.int (nI 0)), some (.int i), some (.int (nI 0)), some (.int j), some (.int n), none, none]) (st' := []) (σ' := σ) (pc2 := 16) (l2 := [some (.ref 0), some (.int (nI 0)), some (.int i), some (.int (nI 0)), some (.int j), some (.int n), none, none]) (st2 := []) (σ2 := σ) (fun f => rfl) (by decide) ?_
  refine pi_ca 3 (m' := 94) (l' := [some (.int (nI 0)), some (.int (nI 4))]) (σ' := σ) (pc2 := 13) (l2 := [some (.ref 0), some (.int (nI 0)), some (.int i), some (.int (nI 0)), some (.int j), some (.int n), none, none]) (t := []) (fun f => rfl) (pi_below1 _ _ (z_BL (by omega) (by omega))) ?_
  rintro _ _ ⟨rfl, rfl⟩
  refine pi_cf 1 (c := nI 1 = 0) (pc' := 19) (l' := [some (.ref 0), some (.int (nI 0)), some (.int i), some (.int (nI 0)), some (.int j), some (.int n), none, none]) (st' := []) (σ' := σ) (pc2 := 16) (l2 := [some (.ref 0), some (.int (nI 0)), some (.int i), some (.int (nI 0)), some (.int j), some (.int n), none, none]) (st2 := []) (σ2 := σ) (fun f => rfl) (by decide) ?_
  refine pi_aq 4 (u := 0) (n := 4) (a := 47) (c := 48) (pc' := 25) (l' := [some (.ref 0), some (.int (nI 0)), some (.int i), some (.int (nI 0)), some (.int j), some (.int n), none, none]) (t := []) (σ' := σ) (fun f => rfl) (by omega) (by omega) rfl ?_
  refine pi_aq 5 (u := 0) (n := 4) (a := 47) (c := 48) (pc' := 33) (l' := [some (.ref 0), some (.int (nI 0)), some (.int i), some (.int (nI 0)), some (.int j), some (.int n), some (.ref 48), none]) (t := []) (σ' := σ) (fun f => rfl) (by omega) (by omega) rfl ?_
  refine pi_ca 3 (m' := 36) (l' := [some (.ref 48)]) (σ' := σ) (pc2 := 40) (l2 := [some (.ref 0), some (.int (nI 0)), some (.int i), some (.int (nI 0)), some (.int j), some (.int n), some (.ref 48), some (.ref 48)]) (t := []) (fun f => rfl) (pi_C_lost0_t hR.k hs0) ?_
  rintro _ _ ⟨rfl, rfl⟩
  refine pi_cf 1 (c := nI 1 = 0) (pc' := 51) (l' := [some (.ref 0), some (.int (nI 0)), some (.int i), some (.int (nI 0)), some (.int j), some (.int n), some (.ref 48), some (.ref 48)]) (st' := []) (σ' := σ) (pc2 := 43) (l2 := [some (.ref 0), some (.int (nI 0)), some (.int i), some (.int (nI 0)), some (.int j), some (.int n), some (.ref 48), some (.ref 48)]) (st2 := []) (σ2 := σ) (fun f => rfl) (by decide) ?_
  refine pi_ca 3 (m' := 96) (l' := [some (.ref 0), some (.int (nI 1))]) (σ' := σ) (pc2 := 56) (l2 := [some (.ref 0), some (.int (nI 0)), some (.int i), some (.int (nI 0)), some (.int j), some (.int n), some (.ref 48), some (.ref 48)]) (t := []) (fun f => rfl) (pi_C_found (nI 1)) ?_
  rintro _ t1 ⟨rfl, et1, kt1, rt1⟩
  refine pi_rt 1 (v := some (.int ((-10) - (nI 1)))) (σ' := t1) (fun f => rfl) ?_
  have hfr : pi_fr [0] t1 σ := pi_fr_tr rt1 (by decide) (pi_fr_rf)
  exact ⟨rfl, hR.fnd (et1) hfr, pi_fr_tr hfr (by decide) pi_fr_rf⟩
set_option maxRecDepth 20000 in
theorem pi_X_copy00_index {xs : Nat → Int32} {L d : Nat} {W : zW} {σ : pi_S} (hR : z_CR W σ) {i j n : Int32} (hs1 : ¬ W.th 0 = 0) (ht1 : ¬ W.th 0 = 0) (h4 : W.fo 0 = W.fo 0) (hb : ¬ z_cp W 0 0 i j n)  : pi_wp xs L (d + 9) 90 0 [some (.ref 0), some (.int (nI 0)), some (.int i), some (.int (nI 0)), some (.int j), some (.int n), none, none] [] σ (fun v s => v = some (.int ((-10) - (nI 2))) ∧ z_CR (W.sS 0 (nI 2)) s ∧ pi_fr z_CC s σ) := by
  have hk := hR.k.p.wk
  have hnd8 := hk.wd.nd8
  have hns12 := hk.wd.ns12
  have hn60 := hk.nine
  have hnf := hk.nf
  have hnw := hk.nw
  have hnc := hk.nc
  have hn08 := hk.wd.n0
  have hn140 := hk.wd.n1
  have hsi := hk.si 0 (by omega)
  have hti := hk.si 0 (by omega)
  refine pi_ca 3 (m' := 94) (l' := [some (.int (nI 0)), some (.int (nI 4))]) (σ' := σ) (pc2 := 5) (l2 := [some (.ref 0), some (.int (nI 0)), some (.int i), some (.int (nI 0)), some (.int j), some (.int n), none, none]) (t := []) (fun f => rfl) (pi_below1 _ _ (z_BL (by omega) (by omega))) ?_
  rintro _ _ ⟨rfl, rfl⟩
  refine pi_cf 1 (c := nI 1 = 0) (pc' := 8) (l' := [some (.ref 0), some (.int (nI 0)), some (.int i), some (.int (nI 0)), some (.int j), some (.int n), none, none]) (st' := []) (σ' := σ) (pc2 := 16) (l2 := [some (.ref 0), some (.int (nI 0)), some (.int i), some (.int (nI 0)), some (.int j), some (.int n), none, none]) (st2 := []) (σ2 := σ) (fun f => rfl) (by decide) ?_
  refine pi_ca 3 (m' := 94) (l' := [some (.int (nI 0)), some (.int (nI 4))]) (σ' := σ) (pc2 := 13) (l2 := [some (.ref 0), some (.int (nI 0)), some (.int i), some (.int (nI 0)), some (.int j), some (.int n), none, none]) (t := []) (fun f => rfl) (pi_below1 _ _ (z_BL (by omega) (by omega))) ?_
  rintro _ _ ⟨rfl, rfl⟩
  refine pi_cf 1 (c := nI 1 = 0) (pc' := 19) (l' := [some (.ref 0), some (.int (nI 0)), some (.int i), some (.int (nI 0)), some (.int j), some (.int n), none, none]) (st' := []) (σ' := σ) (pc2 := 16) (l2 := [some (.ref 0), some (.int (nI 0)), some (.int i), some (.int (nI 0)), some (.int j), some (.int n), none, none]) (st2 := []) (σ2 := σ) (fun f => rfl) (by decide) ?_
  refine pi_aq 4 (u := 0) (n := 4) (a := 47) (c := 48) (pc' := 25) (l' := [some (.ref 0), some (.int (nI 0)), some (.int i), some (.int (nI 0)), some (.int j), some (.int n), none, none]) (t := []) (σ' := σ) (fun f => rfl) (by omega) (by omega) rfl ?_
  refine pi_aq 5 (u := 0) (n := 4) (a := 47) (c := 48) (pc' := 33) (l' := [some (.ref 0), some (.int (nI 0)), some (.int i), some (.int (nI 0)), some (.int j), some (.int n), some (.ref 48), none]) (t := []) (σ' := σ) (fun f => rfl) (by omega) (by omega) rfl ?_
  refine pi_ca 3 (m' := 36) (l' := [some (.ref 48)]) (σ' := σ) (pc2 := 40) (l2 := [some (.ref 0), some (.int (nI 0)), some (.int i), some (.int (nI 0)), some (.int j), some (.int n), some (.ref 48), some (.ref 48)]) (t := []) (fun f => rfl) (pi_C_lost0_f hR.k hs1) ?_
  rintro _ _ ⟨rfl, rfl⟩
  refine pi_ct 1 (c := nI 0 = 0) (pc' := 43) (l' := [some (.ref 0), some (.int (nI 0)), some (.int i), some (.int (nI 0)), some (.int j), some (.int n), some (.ref 48), some (.ref 48)]) (st' := []) (σ' := σ) (pc2 := 51) (l2 := [some (.ref 0), some (.int (nI 0)), some (.int i), some (.int (nI 0)), some (.int j), some (.int n), some (.ref 48), some (.ref 48)]) (st2 := []) (σ2 := σ) (fun f => rfl) (by decide) ?_
  refine pi_ca 2 (m' := 36) (l' := [some (.ref 48)]) (σ' := σ) (pc2 := 48) (l2 := [some (.ref 0), some (.int (nI 0)), some (.int i), some (.int (nI 0)), some (.int j), some (.int n), some (.ref 48), some (.ref 48)]) (t := []) (fun f => rfl) (pi_C_lost0_f hR.k hs1) ?_
  rintro _ _ ⟨rfl, rfl⟩
  refine pi_ct 1 (c := nI 0 = 0) (pc' := 57) (l' := [some (.ref 0), some (.int (nI 0)), some (.int i), some (.int (nI 0)), some (.int j), some (.int n), some (.ref 48), some (.ref 48)]) (st' := []) (σ' := σ) (pc2 := 51) (l2 := [some (.ref 0), some (.int (nI 0)), some (.int i), some (.int (nI 0)), some (.int j), some (.int n), some (.ref 48), some (.ref 48)]) (st2 := []) (σ2 := σ) (fun f => rfl) (by decide) ?_
  refine pi_go 2 (pc' := 62) (l' := [some (.ref 0), some (.int (nI 0)), some (.int i), some (.int (nI 0)), some (.int j), some (.int n), some (.ref 48), some (.ref 48)]) (st' := [.int (σ 48 1)]) (σ' := σ) (fun f => rfl) ?_
  refine pi_tp (y := nI (W.fo 0)) (hR.k.p.sf0) ?_
  refine pi_go 2 (pc' := 67) (l' := [some (.ref 0), some (.int (nI 0)), some (.int i), some (.int (nI 0)), some (.int j), some (.int n), some (.ref 48), some (.ref 48)]) (st' := [.int (σ 48 1), .int (nI (W.fo 0))]) (σ' := σ) (fun f => rfl) ?_
  refine pi_tp (y := nI (W.fo 0)) (hR.k.p.sf0) ?_
  refine pi_ct 1 (c := nI (W.fo 0) = nI (W.fo 0)) (pc' := 76) (l' := [some (.ref 0), some (.int (nI 0)), some (.int i), some (.int (nI 0)), some (.int j), some (.int n), some (.ref 48), some (.ref 48)]) (st' := []) (σ' := σ) (pc2 := 70) (l2 := [some (.ref 0), some (.int (nI 0)), some (.int i), some (.int (nI 0)), some (.int j), some (.int n), some (.ref 48), some (.ref 48)]) (st2 := []) (σ2 := σ) (fun f => rfl) ((show nI (W.fo 0) = nI (W.fo 0) ↔ _ from nI_eq (by omega) (by omega)).mpr (by omega)) ?_
  refine pi_ca 4 (m' := 39) (l' := [some (.ref 48), some (.int i), some (.int n)]) (σ' := σ) (pc2 := 84) (l2 := [some (.ref 0), some (.int (nI 0)), some (.int i), some (.int (nI 0)), some (.int j), some (.int n), some (.ref 48), some (.ref 48)]) (t := []) (fun f => rfl) (pi_C_hasRun0 hR.k hs1 i n) ?_
  rintro _ _ (⟨b1, rfl, rfl⟩ | ⟨b1, rfl, rfl⟩)
  · refine pi_cf 1 (c := nI 1 = 0) (pc' := 87) (l' := [some (.ref 0), some (.int (nI 0)), some (.int i), some (.int (nI 0)), some (.int j), some (.int n), some (.ref 48), some (.ref 48)]) (st' := []) (σ' := σ) (pc2 := 99) (l2 := [some (.ref 0), some (.int (nI 0)), some (.int i), some (.int (nI 0)), some (.int j), some (.int n), some (.ref 48), some (.ref 48)]) (st2 := []) (σ2 := σ) (fun f => rfl) (by decide) ?_
    refine pi_ca 4 (m' := 39) (l' := [some (.ref 48), some (.int j), some (.int n)]) (σ' := σ) (pc2 := 96) (l2 := [some (.ref 0), some (.int (nI 0)), some (.int i), some (.int (nI 0)), some (.int j), some (.int n), some (.ref 48), some (.ref 48)]) (t := []) (fun f => rfl) (pi_C_hasRun0 hR.k hs1 j n) ?_
    rintro _ _ (⟨b2, rfl, rfl⟩ | ⟨b2, rfl, rfl⟩)
    · refine pi_cf 1 (c := nI 1 = 0) (pc' := 105) (l' := [some (.ref 0), some (.int (nI 0)), some (.int i), some (.int (nI 0)), some (.int j), some (.int n), some (.ref 48), some (.ref 48)]) (st' := []) (σ' := σ) (pc2 := 99) (l2 := [some (.ref 0), some (.int (nI 0)), some (.int i), some (.int (nI 0)), some (.int j), some (.int n), some (.ref 48), some (.ref 48)]) (st2 := []) (σ2 := σ) (fun f => rfl) (by decide) ?_
      exact (hb (z_cp_hr hsi.1 hti.1 b1 b2)).elim
    · refine pi_ct 1 (c := nI 0 = 0) (pc' := 99) (l' := [some (.ref 0), some (.int (nI 0)), some (.int i), some (.int (nI 0)), some (.int j), some (.int n), some (.ref 48), some (.ref 48)]) (st' := []) (σ' := σ) (pc2 := 105) (l2 := [some (.ref 0), some (.int (nI 0)), some (.int i), some (.int (nI 0)), some (.int j), some (.int n), some (.ref 48), some (.ref 48)]) (st2 := []) (σ2 := σ) (fun f => rfl) (by decide) ?_
      refine pi_ca 3 (m' := 96) (l' := [some (.ref 0), some (.int (nI 2))]) (σ' := σ) (pc2 := 104) (l2 := [some (.ref 0), some (.int (nI 0)), some (.int i), some (.int (nI 0)), some (.int j), some (.int n), some (.ref 48), some (.ref 48)]) (t := []) (fun f => rfl) (pi_C_found (nI 2)) ?_
      rintro _ t1 ⟨rfl, et1, kt1, rt1⟩
      refine pi_rt 1 (v := some (.int ((-10) - (nI 2)))) (σ' := t1) (fun f => rfl) ?_
      have hfr : pi_fr [0] t1 σ := pi_fr_tr rt1 (by decide) (pi_fr_rf)
      exact ⟨rfl, hR.fnd (et1) hfr, pi_fr_tr hfr (by decide) pi_fr_rf⟩
  · refine pi_ct 1 (c := nI 0 = 0) (pc' := 99) (l' := [some (.ref 0), some (.int (nI 0)), some (.int i), some (.int (nI 0)), some (.int j), some (.int n), some (.ref 48), some (.ref 48)]) (st' := []) (σ' := σ) (pc2 := 87) (l2 := [some (.ref 0), some (.int (nI 0)), some (.int i), some (.int (nI 0)), some (.int j), some (.int n), some (.ref 48), some (.ref 48)]) (st2 := []) (σ2 := σ) (fun f => rfl) (by decide) ?_
    refine pi_ca 3 (m' := 96) (l' := [some (.ref 0), some (.int (nI 2))]) (σ' := σ) (pc2 := 104) (l2 := [some (.ref 0), some (.int (nI 0)), some (.int i), some (.int (nI 0)), some (.int j), some (.int n), some (.ref 48), some (.ref 48)]) (t := []) (fun f => rfl) (pi_C_found (nI 2)) ?_
    rintro _ t2 ⟨rfl, et2, kt2, rt2⟩
    refine pi_rt 1 (v := some (.int ((-10) - (nI 2)))) (σ' := t2) (fun f => rfl) ?_
    have hfr : pi_fr [0] t2 σ := pi_fr_tr rt2 (by decide) (pi_fr_rf)
    exact ⟨rfl, hR.fnd (et2) hfr, pi_fr_tr hfr (by decide) pi_fr_rf⟩
set_option maxRecDepth 20000 in
theorem pi_X_copy00 {xs : Nat → Int32} {L d : Nat} {W : zW} {σ : pi_S} (hR : z_CR W σ) {i j n : Nat} (hs1 : ¬ W.th 0 = 0) (ht1 : ¬ W.th 0 = 0) (h4 : W.fo 0 = W.fo 0) (hi : i + n ≤ W.si 0) (hj : j + n ≤ W.si 0)  : pi_wp xs L (d + 9) 90 0 [some (.ref 0), some (.int (nI 0)), some (.int (nI i)), some (.int (nI 0)), some (.int (nI j)), some (.int (nI n)), none, none] [] σ (fun v s => v = some (.int (nI 1)) ∧ z_CR (W.sI 9 (pi_lp (fun q f => upd f (48 * 0 + j + q) (W.it (48 * 0 + i + q))) n W.it)) s ∧ pi_fr z_CC s σ) := by
  have hk := hR.k.p.wk
  have hnd8 := hk.wd.nd8
  have hns12 := hk.wd.ns12
  have hn60 := hk.nine
  have hnf := hk.nf
  have hnw := hk.nw
  have hnc := hk.nc
  have hn08 := hk.wd.n0
  have hn140 := hk.wd.n1
  have hsi := hk.si 0 (by omega)
  have hti := hk.si 0 (by omega)
  refine pi_ca 3 (m' := 94) (l' := [some (.int (nI 0)), some (.int (nI 4))]) (σ' := σ) (pc2 := 5) (l2 := [some (.ref 0), some (.int (nI 0)), some (.int (nI i)), some (.int (nI 0)), some (.int (nI j)), some (.int (nI n)), none, none]) (t := []) (fun f => rfl) (pi_below1 _ _ (z_BL (by omega) (by omega))) ?_
  rintro _ _ ⟨rfl, rfl⟩
  refine pi_cf 1 (c := nI 1 = 0) (pc' := 8) (l' := [some (.ref 0), some (.int (nI 0)), some (.int (nI i)), some (.int (nI 0)), some (.int (nI j)), some (.int (nI n)), none, none]) (st' := []) (σ' := σ) (pc2 := 16) (l2 := [some (.ref 0), some (.int (nI 0)), some (.int (nI i)), some (.int (nI 0)), some (.int (nI j)), some (.int (nI n)), none, none]) (st2 := []) (σ2 := σ) (fun f => rfl) (by decide) ?_
  refine pi_ca 3 (m' := 94) (l' := [some (.int (nI 0)), some (.int (nI 4))]) (σ' := σ) (pc2 := 13) (l2 := [some (.ref 0), some (.int (nI 0)), some (.int (nI i)), some (.int (nI 0)), some (.int (nI j)), some (.int (nI n)), none, none]) (t := []) (fun f => rfl) (pi_below1 _ _ (z_BL (by omega) (by omega))) ?_
  rintro _ _ ⟨rfl, rfl⟩
  refine pi_cf 1 (c := nI 1 = 0) (pc' := 19) (l' := [some (.ref 0), some (.int (nI 0)), some (.int (nI i)), some (.int (nI 0)), some (.int (nI j)), some (.int (nI n)), none, none]) (st' := []) (σ' := σ) (pc2 := 16) (l2 := [some (.ref 0), some (.int (nI 0)), some (.int (nI i)), some (.int (nI 0)), some (.int (nI j)), some (.int (nI n)), none, none]) (st2 := []) (σ2 := σ) (fun f => rfl) (by decide) ?_
  refine pi_aq 4 (u := 0) (n := 4) (a := 47) (c := 48) (pc' := 25) (l' := [some (.ref 0), some (.int (nI 0)), some (.int (nI i)), some (.int (nI 0)), some (.int (nI j)), some (.int (nI n)), none, none]) (t := []) (σ' := σ) (fun f => rfl) (by omega) (by omega) rfl ?_
  refine pi_aq 5 (u := 0) (n := 4) (a := 47) (c := 48) (pc' := 33) (l' := [some (.ref 0), some (.int (nI 0)), some (.int (nI i)), some (.int (nI 0)), some (.int (nI j)), some (.int (nI n)), some (.ref 48), none]) (t := []) (σ' := σ) (fun f => rfl) (by omega) (by omega) rfl ?_
  refine pi_ca 3 (m' := 36) (l' := [some (.ref 48)]) (σ' := σ) (pc2 := 40) (l2 := [some (.ref 0), some (.int (nI 0)), some (.int (nI i)), some (.int (nI 0)), some (.int (nI j)), some (.int (nI n)), some (.ref 48), some (.ref 48)]) (t := []) (fun f => rfl) (pi_C_lost0_f hR.k hs1) ?_
  rintro _ _ ⟨rfl, rfl⟩
  refine pi_ct 1 (c := nI 0 = 0) (pc' := 43) (l' := [some (.ref 0), some (.int (nI 0)), some (.int (nI i)), some (.int (nI 0)), some (.int (nI j)), some (.int (nI n)), some (.ref 48), some (.ref 48)]) (st' := []) (σ' := σ) (pc2 := 51) (l2 := [some (.ref 0), some (.int (nI 0)), some (.int (nI i)), some (.int (nI 0)), some (.int (nI j)), some (.int (nI n)), some (.ref 48), some (.ref 48)]) (st2 := []) (σ2 := σ) (fun f => rfl) (by decide) ?_
  refine pi_ca 2 (m' := 36) (l' := [some (.ref 48)]) (σ' := σ) (pc2 := 48) (l2 := [some (.ref 0), some (.int (nI 0)), some (.int (nI i)), some (.int (nI 0)), some (.int (nI j)), some (.int (nI n)), some (.ref 48), some (.ref 48)]) (t := []) (fun f => rfl) (pi_C_lost0_f hR.k hs1) ?_
  rintro _ _ ⟨rfl, rfl⟩
  refine pi_ct 1 (c := nI 0 = 0) (pc' := 57) (l' := [some (.ref 0), some (.int (nI 0)), some (.int (nI i)), some (.int (nI 0)), some (.int (nI j)), some (.int (nI n)), some (.ref 48), some (.ref 48)]) (st' := []) (σ' := σ) (pc2 := 51) (l2 := [some (.ref 0), some (.int (nI 0)), some (.int (nI i)), some (.int (nI 0)), some (.int (nI j)), some (.int (nI n)), some (.ref 48), some (.ref 48)]) (st2 := []) (σ2 := σ) (fun f => rfl) (by decide) ?_
  refine pi_go 2 (pc' := 62) (l' := [some (.ref 0), some (.int (nI 0)), some (.int (nI i)), some (.int (nI 0)), some (.int (nI j)), some (.int (nI n)), some (.ref 48), some (.ref 48)]) (st' := [.int (σ 48 1)]) (σ' := σ) (fun f => rfl) ?_
  refine pi_tp (y := nI (W.fo 0)) (hR.k.p.sf0) ?_
  refine pi_go 2 (pc' := 67) (l' := [some (.ref 0), some (.int (nI 0)), some (.int (nI i)), some (.int (nI 0)), some (.int (nI j)), some (.int (nI n)), some (.ref 48), some (.ref 48)]) (st' := [.int (σ 48 1), .int (nI (W.fo 0))]) (σ' := σ) (fun f => rfl) ?_
  refine pi_tp (y := nI (W.fo 0)) (hR.k.p.sf0) ?_
  refine pi_ct 1 (c := nI (W.fo 0) = nI (W.fo 0)) (pc' := 76) (l' := [some (.ref 0), some (.int (nI 0)), some (.int (nI i)), some (.int (nI 0)), some (.int (nI j)), some (.int (nI n)), some (.ref 48), some (.ref 48)]) (st' := []) (σ' := σ) (pc2 := 70) (l2 := [some (.ref 0), some (.int (nI 0)), some (.int (nI i)), some (.int (nI 0)), some (.int (nI j)), some (.int (nI n)), some (.ref 48), some (.ref 48)]) (st2 := []) (σ2 := σ) (fun f => rfl) ((show nI (W.fo 0) = nI (W.fo 0) ↔ _ from nI_eq (by omega) (by omega)).mpr (by omega)) ?_
  refine pi_ca 4 (m' := 39) (l' := [some (.ref 48), some (.int (nI i)), some (.int (nI n))]) (σ' := σ) (pc2 := 84) (l2 := [some (.ref 0), some (.int (nI 0)), some (.int (nI i)), some (.int (nI 0)), some (.int (nI j)), some (.int (nI n)), some (.ref 48), some (.ref 48)]) (t := []) (fun f => rfl) (pi_C_hasRun0T hR.k hs1 ⟨i, n, rfl, rfl, hi⟩) ?_
  rintro _ _ ⟨rfl, rfl⟩
  refine pi_cf 1 (c := nI 1 = 0) (pc' := 87) (l' := [some (.ref 0), some (.int (nI 0)), some (.int (nI i)), some (.int (nI 0)), some (.int (nI j)), some (.int (nI n)), some (.ref 48), some (.ref 48)]) (st' := []) (σ' := σ) (pc2 := 99) (l2 := [some (.ref 0), some (.int (nI 0)), some (.int (nI i)), some (.int (nI 0)), some (.int (nI j)), some (.int (nI n)), some (.ref 48), some (.ref 48)]) (st2 := []) (σ2 := σ) (fun f => rfl) (by decide) ?_
  refine pi_ca 4 (m' := 39) (l' := [some (.ref 48), some (.int (nI j)), some (.int (nI n))]) (σ' := σ) (pc2 := 96) (l2 := [some (.ref 0), some (.int (nI 0)), some (.int (nI i)), some (.int (nI 0)), some (.int (nI j)), some (.int (nI n)), some (.ref 48), some (.ref 48)]) (t := []) (fun f => rfl) (pi_C_hasRun0T hR.k hs1 ⟨j, n, rfl, rfl, hj⟩) ?_
  rintro _ _ ⟨rfl, rfl⟩
  refine pi_cf 1 (c := nI 1 = 0) (pc' := 105) (l' := [some (.ref 0), some (.int (nI 0)), some (.int (nI i)), some (.int (nI 0)), some (.int (nI j)), some (.int (nI n)), some (.ref 48), some (.ref 48)]) (st' := []) (σ' := σ) (pc2 := 99) (l2 := [some (.ref 0), some (.int (nI 0)), some (.int (nI i)), some (.int (nI 0)), some (.int (nI j)), some (.int (nI n)), some (.ref 48), some (.ref 48)]) (st2 := []) (σ2 := σ) (fun f => rfl) (by decide) ?_
  refine pi_go 7 (pc' := 120) (l' := [some (.ref 0), some (.int (nI 0)), some (.int (nI i)), some (.int (nI 0)), some (.int (nI j)), some (.int (nI n)), some (.ref 48), some (.ref 48)]) (st' := [.int (nI n), .int (nI j), .ref 49, .int (nI i), .ref 49]) (σ' := σ) (fun f => rfl) ?_
  refine pi_gd 1 (c := ¬ nI i < 0 ∧ ¬ nI j < 0 ∧ ¬ nI n < 0 ∧ (nI i).toNatClampNeg + (nI n).toNatClampNeg ≤ 48 ∧ (nI j).toNatClampNeg + (nI n).toNatClampNeg ≤ 48) (pc' := 123) (l' := [some (.ref 0), some (.int (nI 0)), some (.int (nI i)), some (.int (nI 0)), some (.int (nI j)), some (.int (nI n)), some (.ref 48), some (.ref 48)]) (st' := []) (σ' := pi_cpy σ 49 49 (nI i).toNatClampNeg (nI j).toNatClampNeg (nI n).toNatClampNeg) (fun f => rfl) ⟨z_ltz (by omega), z_ltz (by omega), z_ltz (by omega), by rw [nI_clamp (by omega), nI_clamp (by omega)]; omega, by rw [nI_clamp (by omega), nI_clamp (by omega)]; omega⟩ ?_
  rw [show (nI i).toNatClampNeg = i from nI_clamp (by omega), show (nI j).toNatClampNeg = j from nI_clamp (by omega), show (nI n).toNatClampNeg = n from nI_clamp (by omega)]
  generalize es1 : pi_cpy σ 49 49 i j n = s1
  have rs1 := pi_cpy_fr es1
  refine pi_rt 2 (v := some (.int (nI 1))) (σ' := s1) (fun f => rfl) ?_
  have hfr : pi_fr [49] s1 σ := pi_fr_tr rs1 (by decide) (pi_fr_rf)
  exact ⟨rfl, hR.it0 (fun q hq => (congrFun (pi_cpy_at es1) q).trans (z_cp_row hR.k.p.si0 hR.k.p.si0 (by omega) (by omega) q hq)) (z_cp_o (by omega)) hfr, pi_fr_tr hfr (by decide) pi_fr_rf⟩
set_option maxRecDepth 20000 in
theorem pi_X_copy01_null1 {xs : Nat → Int32} {L d : Nat} {W : zW} {σ : pi_S} (hR : z_CR W σ) {i j n : Int32} (hs0 : W.th 0 = 0)  : pi_wp xs L (d + 9) 90 0 [some (.ref 0), some (.int (nI 0)), some (.int i), some (.int (nI 1)), some (.int j), some (.int n), none, none] [] σ (fun v s => v = some (.int ((-10) - (nI 1))) ∧ z_CR (W.sS 0 (nI 1)) s ∧ pi_fr z_CC s σ) := by
  have hk := hR.k.p.wk
  have hnd8 := hk.wd.nd8
  have hns12 := hk.wd.ns12
  have hn60 := hk.nine
  have hnf := hk.nf
  have hnw := hk.nw
  have hnc := hk.nc
  have hn08 := hk.wd.n0
  have hn140 := hk.wd.n1
  have hsi := hk.si 0 (by omega)
  have hti := hk.si 1 (by omega)
  refine pi_ca 3 (m' := 94) (l' := [some (.int (nI 0)), some (.int (nI 4))]) (σ' := σ) (pc2 := 5) (l2 := [some (.ref 0), some (.int (nI 0)), some (.int i), some (.int (nI 1)), some (.int j), some (.int n), none, none]) (t := []) (fun f => rfl) (pi_below1 _ _ (z_BL (by omega) (by omega))) ?_
  rintro _ _ ⟨rfl, rfl⟩
  refine pi_cf 1 (c := nI 1 = 0) (pc' := 8) (l' := [some (.ref 0), some (.int (nI 0)), some (.int i), some (.int (nI 1)), some (.int j), some (.int n), none, none]) (st' := []) (σ' := σ) (pc2 := 16) (l2 := [some (.ref 0), some (.int (nI 0)), some (.int i), some (.int (nI 1)), some (.int j), some (.int n), none, none]) (st2 := []) (σ2 := σ) (fun f => rfl) (by decide) ?_
  refine pi_ca 3 (m' := 94) (l' := [some (.int (nI 1)), some (.int (nI 4))]) (σ' := σ) (pc2 := 13) (l2 := [some (.ref 0), some (.int (nI 0)), some (.int i), some (.int (nI 1)), some (.int j), some (.int n), none, none]) (t := []) (fun f => rfl) (pi_below1 _ _ (z_BL (by omega) (by omega))) ?_
  rintro _ _ ⟨rfl, rfl⟩
  refine pi_cf 1 (c := nI 1 = 0) (pc' := 19) (l' := [some (.ref 0), some (.int (nI 0)), some (.int i), some (.int (nI 1)), some (.int j), some (.int n), none, none]) (st' := []) (σ' := σ) (pc2 := 16) (l2 := [some (.ref 0), some (.int (nI 0)), some (.int i), some (.int (nI 1)), some (.int j), some (.int n), none, none]) (st2 := []) (σ2 := σ) (fun f => rfl) (by decide) ?_
  refine pi_aq 4 (u := 0) (n := 4) (a := 47) (c := 48) (pc' := 25) (l' := [some (.ref 0), some (.int (nI 0)), some (.int i), some (.int (nI 1)), some (.int j), some (.int n), none, none]) (t := []) (σ' := σ) (fun f => rfl) (by omega) (by omega) rfl ?_
  refine pi_aq 5 (u := 1) (n := 4) (a := 47) (c := 50) (pc' := 33) (l' := [some (.ref 0), some (.int (nI 0)), some (.int i), some (.int (nI 1)), some (.int j), some (.int n), some (.ref 48), none]) (t := []) (σ' := σ) (fun f => rfl) (by omega) (by omega) rfl ?_
  refine pi_ca 3 (m' := 36) (l' := [some (.ref 48)]) (σ' := σ) (pc2 := 40) (l2 := [some (.ref 0), some (.int (nI 0)), some (.int i), some (.int (nI 1)), some (.int j), some (.int n), some (.ref 48), some (.ref 50)]) (t := []) (fun f => rfl) (pi_C_lost0_t hR.k hs0) ?_
  rintro _ _ ⟨rfl, rfl⟩
  refine pi_cf 1 (c := nI 1 = 0) (pc' := 51) (l' := [some (.ref 0), some (.int (nI 0)), some (.int i), some (.int (nI 1)), some (.int j), some (.int n), some (.ref 48), some (.ref 50)]) (st' := []) (σ' := σ) (pc2 := 43) (l2 := [some (.ref 0), some (.int (nI 0)), some (.int i), some (.int (nI 1)), some (.int j), some (.int n), some (.ref 48), some (.ref 50)]) (st2 := []) (σ2 := σ) (fun f => rfl) (by decide) ?_
  refine pi_ca 3 (m' := 96) (l' := [some (.ref 0), some (.int (nI 1))]) (σ' := σ) (pc2 := 56) (l2 := [some (.ref 0), some (.int (nI 0)), some (.int i), some (.int (nI 1)), some (.int j), some (.int n), some (.ref 48), some (.ref 50)]) (t := []) (fun f => rfl) (pi_C_found (nI 1)) ?_
  rintro _ t1 ⟨rfl, et1, kt1, rt1⟩
  refine pi_rt 1 (v := some (.int ((-10) - (nI 1)))) (σ' := t1) (fun f => rfl) ?_
  have hfr : pi_fr [0] t1 σ := pi_fr_tr rt1 (by decide) (pi_fr_rf)
  exact ⟨rfl, hR.fnd (et1) hfr, pi_fr_tr hfr (by decide) pi_fr_rf⟩
set_option maxRecDepth 20000 in
theorem pi_X_copy01_null2 {xs : Nat → Int32} {L d : Nat} {W : zW} {σ : pi_S} (hR : z_CR W σ) {i j n : Int32} (hs1 : ¬ W.th 0 = 0) (ht0 : W.th 1 = 0)  : pi_wp xs L (d + 9) 90 0 [some (.ref 0), some (.int (nI 0)), some (.int i), some (.int (nI 1)), some (.int j), some (.int n), none, none] [] σ (fun v s => v = some (.int ((-10) - (nI 1))) ∧ z_CR (W.sS 0 (nI 1)) s ∧ pi_fr z_CC s σ) := by
  have hk := hR.k.p.wk
  have hnd8 := hk.wd.nd8
  have hns12 := hk.wd.ns12
  have hn60 := hk.nine
  have hnf := hk.nf
  have hnw := hk.nw
  have hnc := hk.nc
  have hn08 := hk.wd.n0
  have hn140 := hk.wd.n1
  have hsi := hk.si 0 (by omega)
  have hti := hk.si 1 (by omega)
  refine pi_ca 3 (m' := 94) (l' := [some (.int (nI 0)), some (.int (nI 4))]) (σ' := σ) (pc2 := 5) (l2 := [some (.ref 0), some (.int (nI 0)), some (.int i), some (.int (nI 1)), some (.int j), some (.int n), none, none]) (t := []) (fun f => rfl) (pi_below1 _ _ (z_BL (by omega) (by omega))) ?_
  rintro _ _ ⟨rfl, rfl⟩
  refine pi_cf 1 (c := nI 1 = 0) (pc' := 8) (l' := [some (.ref 0), some (.int (nI 0)), some (.int i), some (.int (nI 1)), some (.int j), some (.int n), none, none]) (st' := []) (σ' := σ) (pc2 := 16) (l2 := [some (.ref 0), some (.int (nI 0)), some (.int i), some (.int (nI 1)), some (.int j), some (.int n), none, none]) (st2 := []) (σ2 := σ) (fun f => rfl) (by decide) ?_
  refine pi_ca 3 (m' := 94) (l' := [some (.int (nI 1)), some (.int (nI 4))]) (σ' := σ) (pc2 := 13) (l2 := [some (.ref 0), some (.int (nI 0)), some (.int i), some (.int (nI 1)), some (.int j), some (.int n), none, none]) (t := []) (fun f => rfl) (pi_below1 _ _ (z_BL (by omega) (by omega))) ?_
  rintro _ _ ⟨rfl, rfl⟩
  refine pi_cf 1 (c := nI 1 = 0) (pc' := 19) (l' := [some (.ref 0), some (.int (nI 0)), some (.int i), some (.int (nI 1)), some (.int j), some (.int n), none, none]) (st' := []) (σ' := σ) (pc2 := 16) (l2 := [some (.ref 0), some (.int (nI 0)), some (.int i), some (.int (nI 1)), some (.int j), some (.int n), none, none]) (st2 := []) (σ2 := σ) (fun f => rfl) (by decide) ?_
  refine pi_aq 4 (u := 0) (n := 4) (a := 47) (c := 48) (pc' := 25) (l' := [some (.ref 0), some (.int (nI 0)), some (.int i), some (.int (nI 1)), some (.int j), some (.int n), none, none]) (t := []) (σ' := σ) (fun f => rfl) (by omega) (by omega) rfl ?_
  refine pi_aq 5 (u := 1) (n := 4) (a := 47) (c := 50) (pc' := 33) (l' := [some (.ref 0), some (.int (nI 0)), some (.int i), some (.int (nI 1)), some (.int j), some (.int n), some (.ref 48), none]) (t := []) (σ' := σ) (fun f => rfl) (by omega) (by omega) rfl ?_
  refine pi_ca 3 (m' := 36) (l' := [some (.ref 48)]) (σ' := σ) (pc2 := 40) (l2 := [some (.ref 0), some (.int (nI 0)), some (.int i), some (.int (nI 1)), some (.int j), some (.int n), some (.ref 48), some (.ref 50)]) (t := []) (fun f => rfl) (pi_C_lost0_f hR.k hs1) ?_
  rintro _ _ ⟨rfl, rfl⟩
  refine pi_ct 1 (c := nI 0 = 0) (pc' := 43) (l' := [some (.ref 0), some (.int (nI 0)), some (.int i), some (.int (nI 1)), some (.int j), some (.int n), some (.ref 48), some (.ref 50)]) (st' := []) (σ' := σ) (pc2 := 51) (l2 := [some (.ref 0), some (.int (nI 0)), some (.int i), some (.int (nI 1)), some (.int j), some (.int n), some (.ref 48), some (.ref 50)]) (st2 := []) (σ2 := σ) (fun f => rfl) (by decide) ?_
  refine pi_ca 2 (m' := 36) (l' := [some (.ref 50)]) (σ' := σ) (pc2 := 48) (l2 := [some (.ref 0), some (.int (nI 0)), some (.int i), some (.int (nI 1)), some (.int j), some (.int n), some (.ref 48), some (.ref 50)]) (t := []) (fun f => rfl) (pi_C_lost1_t hR.k ht0) ?_
  rintro _ _ ⟨rfl, rfl⟩
  refine pi_cf 1 (c := nI 1 = 0) (pc' := 51) (l' := [some (.ref 0), some (.int (nI 0)), some (.int i), some (.int (nI 1)), some (.int j), some (.int n), some (.ref 48), some (.ref 50)]) (st' := []) (σ' := σ) (pc2 := 57) (l2 := [some (.ref 0), some (.int (nI 0)), some (.int i), some (.int (nI 1)), some (.int j), some (.int n), some (.ref 48), some (.ref 50)]) (st2 := []) (σ2 := σ) (fun f => rfl) (by decide) ?_
  refine pi_ca 3 (m' := 96) (l' := [some (.ref 0), some (.int (nI 1))]) (σ' := σ) (pc2 := 56) (l2 := [some (.ref 0), some (.int (nI 0)), some (.int i), some (.int (nI 1)), some (.int j), some (.int n), some (.ref 48), some (.ref 50)]) (t := []) (fun f => rfl) (pi_C_found (nI 1)) ?_
  rintro _ t1 ⟨rfl, et1, kt1, rt1⟩
  refine pi_rt 1 (v := some (.int ((-10) - (nI 1)))) (σ' := t1) (fun f => rfl) ?_
  have hfr : pi_fr [0] t1 σ := pi_fr_tr rt1 (by decide) (pi_fr_rf)
  exact ⟨rfl, hR.fnd (et1) hfr, pi_fr_tr hfr (by decide) pi_fr_rf⟩
set_option maxRecDepth 20000 in
theorem pi_X_copy01_store {xs : Nat → Int32} {L d : Nat} {W : zW} {σ : pi_S} (hR : z_CR W σ) {i j n : Int32} (hs1 : ¬ W.th 0 = 0) (ht1 : ¬ W.th 1 = 0) (h4 : ¬ W.fo 0 = W.fo 1)  : pi_wp xs L (d + 9) 90 0 [some (.ref 0), some (.int (nI 0)), some (.int i), some (.int (nI 1)), some (.int j), some (.int n), none, none] [] σ (fun v s => v = some (.int ((-10) - (nI 4))) ∧ z_CR (W.sS 0 (nI 4)) s ∧ pi_fr z_CC s σ) := by
  have hk := hR.k.p.wk
  have hnd8 := hk.wd.nd8
  have hns12 := hk.wd.ns12
  have hn60 := hk.nine
  have hnf := hk.nf
  have hnw := hk.nw
  have hnc := hk.nc
  have hn08 := hk.wd.n0
  have hn140 := hk.wd.n1
  have hsi := hk.si 0 (by omega)
  have hti := hk.si 1 (by omega)
  refine pi_ca 3 (m' := 94) (l' := [some (.int (nI 0)), some (.int (nI 4))]) (σ' := σ) (pc2 := 5) (l2 := [some (.ref 0), some (.int (nI 0)), some (.int i), some (.int (nI 1)), some (.int j), some (.int n), none, none]) (t := []) (fun f => rfl) (pi_below1 _ _ (z_BL (by omega) (by omega))) ?_
  rintro _ _ ⟨rfl, rfl⟩
  refine pi_cf 1 (c := nI 1 = 0) (pc' := 8) (l' := [some (.ref 0), some (.int (nI 0)), some (.int i), some (.int (nI 1)), some (.int j), some (.int n), none, none]) (st' := []) (σ' := σ) (pc2 := 16) (l2 := [some (.ref 0), some (.int (nI 0)), some (.int i), some (.int (nI 1)), some (.int j), some (.int n), none, none]) (st2 := []) (σ2 := σ) (fun f => rfl) (by decide) ?_
  refine pi_ca 3 (m' := 94) (l' := [some (.int (nI 1)), some (.int (nI 4))]) (σ' := σ) (pc2 := 13) (l2 := [some (.ref 0), some (.int (nI 0)), some (.int i), some (.int (nI 1)), some (.int j), some (.int n), none, none]) (t := []) (fun f => rfl) (pi_below1 _ _ (z_BL (by omega) (by omega))) ?_
  rintro _ _ ⟨rfl, rfl⟩
  refine pi_cf 1 (c := nI 1 = 0) (pc' := 19) (l' := [some (.ref 0), some (.int (nI 0)), some (.int i), some (.int (nI 1)), some (.int j), some (.int n), none, none]) (st' := []) (σ' := σ) (pc2 := 16) (l2 := [some (.ref 0), some (.int (nI 0)), some (.int i), some (.int (nI 1)), some (.int j), some (.int n), none, none]) (st2 := []) (σ2 := σ) (fun f => rfl) (by decide) ?_
  refine pi_aq 4 (u := 0) (n := 4) (a := 47) (c := 48) (pc' := 25) (l' := [some (.ref 0), some (.int (nI 0)), some (.int i), some (.int (nI 1)), some (.int j), some (.int n), none, none]) (t := []) (σ' := σ) (fun f => rfl) (by omega) (by omega) rfl ?_
  refine pi_aq 5 (u := 1) (n := 4) (a := 47) (c := 50) (pc' := 33) (l' := [some (.ref 0), some (.int (nI 0)), some (.int i), some (.int (nI 1)), some (.int j), some (.int n), some (.ref 48), none]) (t := []) (σ' := σ) (fun f => rfl) (by omega) (by omega) rfl ?_
  refine pi_ca 3 (m' := 36) (l' := [some (.ref 48)]) (σ' := σ) (pc2 := 40) (l2 := [some (.ref 0), some (.int (nI 0)), some (.int i), some (.int (nI 1)), some (.int j), some (.int n), some (.ref 48), some (.ref 50)]) (t := []) (fun f => rfl) (pi_C_lost0_f hR.k hs1) ?_
  rintro _ _ ⟨rfl, rfl⟩
  refine pi_ct 1 (c := nI 0 = 0) (pc' := 43) (l' := [some (.ref 0), some (.int (nI 0)), some (.int i), some (.int (nI 1)), some (.int j), some (.int n), some (.ref 48), some (.ref 50)]) (st' := []) (σ' := σ) (pc2 := 51) (l2 := [some (.ref 0), some (.int (nI 0)), some (.int i), some (.int (nI 1)), some (.int j), some (.int n), some (.ref 48), some (.ref 50)]) (st2 := []) (σ2 := σ) (fun f => rfl) (by decide) ?_
  refine pi_ca 2 (m' := 36) (l' := [some (.ref 50)]) (σ' := σ) (pc2 := 48) (l2 := [some (.ref 0), some (.int (nI 0)), some (.int i), some (.int (nI 1)), some (.int j), some (.int n), some (.ref 48), some (.ref 50)]) (t := []) (fun f => rfl) (pi_C_lost1_f hR.k ht1) ?_
  rintro _ _ ⟨rfl, rfl⟩
  refine pi_ct 1 (c := nI 0 = 0) (pc' := 57) (l' := [some (.ref 0), some (.int (nI 0)), some (.int i), some (.int (nI 1)), some (.int j), some (.int n), some (.ref 48), some (.ref 50)]) (st' := []) (σ' := σ) (pc2 := 51) (l2 := [some (.ref 0), some (.int (nI 0)), some (.int i), some (.int (nI 1)), some (.int j), some (.int n), some (.ref 48), some (.ref 50)]) (st2 := []) (σ2 := σ) (fun f => rfl) (by decide) ?_
  refine pi_go 2 (pc' := 62) (l' := [some (.ref 0), some (.int (nI 0)), some (.int i), some (.int (nI 1)), some (.int j), some (.int n), some (.ref 48), some (.ref 50)]) (st' := [.int (σ 48 1)]) (σ' := σ) (fun f => rfl) ?_
  refine pi_tp (y := nI (W.fo 0)) (hR.k.p.sf0) ?_
  refine pi_go 2 (pc' := 67) (l' := [some (.ref 0), some (.int (nI 0)), some (.int i), some (.int (nI 1)), some (.int j), some (.int n), some (.ref 48), some (.ref 50)]) (st' := [.int (σ 50 1), .int (nI (W.fo 0))]) (σ' := σ) (fun f => rfl) ?_
  refine pi_tp (y := nI (W.fo 1)) (hR.k.p.sf1) ?_
  refine pi_cf 1 (c := nI (W.fo 0) = nI (W.fo 1)) (pc' := 70) (l' := [some (.ref 0), some (.int (nI 0)), some (.int i), some (.int (nI 1)), some (.int j), some (.int n), some (.ref 48), some (.ref 50)]) (st' := []) (σ' := σ) (pc2 := 76) (l2 := [some (.ref 0), some (.int (nI 0)), some (.int i), some (.int (nI 1)), some (.int j), some (.int n), some (.ref 48), some (.ref 50)]) (st2 := []) (σ2 := σ) (fun f => rfl) (fun q => h4 ((nI_eq (by omega) (by omega)).mp q)) ?_
  refine pi_ca 3 (m' := 96) (l' := [some (.ref 0), some (.int (nI 4))]) (σ' := σ) (pc2 := 75) (l2 := [some (.ref 0), some (.int (nI 0)), some (.int i), some (.int (nI 1)), some (.int j), some (.int n), some (.ref 48), some (.ref 50)]) (t := []) (fun f => rfl) (pi_C_found (nI 4)) ?_
  rintro _ t1 ⟨rfl, et1, kt1, rt1⟩
  refine pi_rt 1 (v := some (.int ((-10) - (nI 4)))) (σ' := t1) (fun f => rfl) ?_
  have hfr : pi_fr [0] t1 σ := pi_fr_tr rt1 (by decide) (pi_fr_rf)
  exact ⟨rfl, hR.fnd (et1) hfr, pi_fr_tr hfr (by decide) pi_fr_rf⟩
set_option maxRecDepth 20000 in
theorem pi_X_copy01_index {xs : Nat → Int32} {L d : Nat} {W : zW} {σ : pi_S} (hR : z_CR W σ) {i j n : Int32} (hs1 : ¬ W.th 0 = 0) (ht1 : ¬ W.th 1 = 0) (h4 : W.fo 0 = W.fo 1) (hb : ¬ z_cp W 0 1 i j n)  : pi_wp xs L (d + 9) 90 0 [some (.ref 0), some (.int (nI 0)), some (.int i), some (.int (nI 1)), some (.int j), some (.int n), none, none] [] σ (fun v s => v = some (.int ((-10) - (nI 2))) ∧ z_CR (W.sS 0 (nI 2)) s ∧ pi_fr z_CC s σ) := by
  have hk := hR.k.p.wk
  have hnd8 := hk.wd.nd8
  have hns12 := hk.wd.ns12
  have hn60 := hk.nine
  have hnf := hk.nf
  have hnw := hk.nw
  have hnc := hk.nc
  have hn08 := hk.wd.n0
  have hn140 := hk.wd.n1
  have hsi := hk.si 0 (by omega)
  have hti := hk.si 1 (by omega)
  refine pi_ca 3 (m' := 94) (l' := [some (.int (nI 0)), some (.int (nI 4))]) (σ' := σ) (pc2 := 5) (l2 := [some (.ref 0), some (.int (nI 0)), some (.int i), some (.int (nI 1)), some (.int j), some (.int n), none, none]) (t := []) (fun f => rfl) (pi_below1 _ _ (z_BL (by omega) (by omega))) ?_
  rintro _ _ ⟨rfl, rfl⟩
  refine pi_cf 1 (c := nI 1 = 0) (pc' := 8) (l' := [some (.ref 0), some (.int (nI 0)), some (.int i), some (.int (nI 1)), some (.int j), some (.int n), none, none]) (st' := []) (σ' := σ) (pc2 := 16) (l2 := [some (.ref 0), some (.int (nI 0)), some (.int i), some (.int (nI 1)), some (.int j), some (.int n), none, none]) (st2 := []) (σ2 := σ) (fun f => rfl) (by decide) ?_
  refine pi_ca 3 (m' := 94) (l' := [some (.int (nI 1)), some (.int (nI 4))]) (σ' := σ) (pc2 := 13) (l2 := [some (.ref 0), some (.int (nI 0)), some (.int i), some (.int (nI 1)), some (.int j), some (.int n), none, none]) (t := []) (fun f => rfl) (pi_below1 _ _ (z_BL (by omega) (by omega))) ?_
  rintro _ _ ⟨rfl, rfl⟩
  refine pi_cf 1 (c := nI 1 = 0) (pc' := 19) (l' := [some (.ref 0), some (.int (nI 0)), some (.int i), some (.int (nI 1)), some (.int j), some (.int n), none, none]) (st' := []) (σ' := σ) (pc2 := 16) (l2 := [some (.ref 0), some (.int (nI 0)), some (.int i), some (.int (nI 1)), some (.int j), some (.int n), none, none]) (st2 := []) (σ2 := σ) (fun f => rfl) (by decide) ?_
  refine pi_aq 4 (u := 0) (n := 4) (a := 47) (c := 48) (pc' := 25) (l' := [some (.ref 0), some (.int (nI 0)), some (.int i), some (.int (nI 1)), some (.int j), some (.int n), none, none]) (t := []) (σ' := σ) (fun f => rfl) (by omega) (by omega) rfl ?_
  refine pi_aq 5 (u := 1) (n := 4) (a := 47) (c := 50) (pc' := 33) (l' := [some (.ref 0), some (.int (nI 0)), some (.int i), some (.int (nI 1)), some (.int j), some (.int n), some (.ref 48), none]) (t := []) (σ' := σ) (fun f => rfl) (by omega) (by omega) rfl ?_
  refine pi_ca 3 (m' := 36) (l' := [some (.ref 48)]) (σ' := σ) (pc2 := 40) (l2 := [some (.ref 0), some (.int (nI 0)), some (.int i), some (.int (nI 1)), some (.int j), some (.int n), some (.ref 48), some (.ref 50)]) (t := []) (fun f => rfl) (pi_C_lost0_f hR.k hs1) ?_
  rintro _ _ ⟨rfl, rfl⟩
  refine pi_ct 1 (c := nI 0 = 0) (pc' := 43) (l' := [some (.ref 0), some (.int (nI 0)), some (.int i), some (.int (nI 1)), some (.int j), some (.int n), some (.ref 48), some (.ref 50)]) (st' := []) (σ' := σ) (pc2 := 51) (l2 := [some (.ref 0), some (.int (nI 0)), some (.int i), some (.int (nI 1)), some (.int j), some (.int n), some (.ref 48), some (.ref 50)]) (st2 := []) (σ2 := σ) (fun f => rfl) (by decide) ?_
  refine pi_ca 2 (m' := 36) (l' := [some (.ref 50)]) (σ' := σ) (pc2 := 48) (l2 := [some (.ref 0), some (.int (nI 0)), some (.int i), some (.int (nI 1)), some (.int j), some (.int n), some (.ref 48), some (.ref 50)]) (t := []) (fun f => rfl) (pi_C_lost1_f hR.k ht1) ?_
  rintro _ _ ⟨rfl, rfl⟩
  refine pi_ct 1 (c := nI 0 = 0) (pc' := 57) (l' := [some (.ref 0), some (.int (nI 0)), some (.int i), some (.int (nI 1)), some (.int j), some (.int n), some (.ref 48), some (.ref 50)]) (st' := []) (σ' := σ) (pc2 := 51) (l2 := [some (.ref 0), some (.int (nI 0)), some (.int i), some (.int (nI 1)), some (.int j), some (.int n), some (.ref 48), some (.ref 50)]) (st2 := []) (σ2 := σ) (fun f => rfl) (by decide) ?_
  refine pi_go 2 (pc' := 62) (l' := [some (.ref 0), some (.int (nI 0)), some (.int i), some (.int (nI 1)), some (.int j), some (.int n), some (.ref 48), some (.ref 50)]) (st' := [.int (σ 48 1)]) (σ' := σ) (fun f => rfl) ?_
  refine pi_tp (y := nI (W.fo 0)) (hR.k.p.sf0) ?_
  refine pi_go 2 (pc' := 67) (l' := [some (.ref 0), some (.int (nI 0)), some (.int i), some (.int (nI 1)), some (.int j), some (.int n), some (.ref 48), some (.ref 50)]) (st' := [.int (σ 50 1), .int (nI (W.fo 0))]) (σ' := σ) (fun f => rfl) ?_
  refine pi_tp (y := nI (W.fo 1)) (hR.k.p.sf1) ?_
  refine pi_ct 1 (c := nI (W.fo 0) = nI (W.fo 1)) (pc' := 76) (l' := [some (.ref 0), some (.int (nI 0)), some (.int i), some (.int (nI 1)), some (.int j), some (.int n), some (.ref 48), some (.ref 50)]) (st' := []) (σ' := σ) (pc2 := 70) (l2 := [some (.ref 0), some (.int (nI 0)), some (.int i), some (.int (nI 1)), some (.int j), some (.int n), some (.ref 48), some (.ref 50)]) (st2 := []) (σ2 := σ) (fun f => rfl) (congrArg nI h4) ?_
  refine pi_ca 4 (m' := 39) (l' := [some (.ref 48), some (.int i), some (.int n)]) (σ' := σ) (pc2 := 84) (l2 := [some (.ref 0), some (.int (nI 0)), some (.int i), some (.int (nI 1)), some (.int j), some (.int n), some (.ref 48), some (.ref 50)]) (t := []) (fun f => rfl) (pi_C_hasRun0 hR.k hs1 i n) ?_
  rintro _ _ (⟨b1, rfl, rfl⟩ | ⟨b1, rfl, rfl⟩)
  · refine pi_cf 1 (c := nI 1 = 0) (pc' := 87) (l' := [some (.ref 0), some (.int (nI 0)), some (.int i), some (.int (nI 1)), some (.int j), some (.int n), some (.ref 48), some (.ref 50)]) (st' := []) (σ' := σ) (pc2 := 99) (l2 := [some (.ref 0), some (.int (nI 0)), some (.int i), some (.int (nI 1)), some (.int j), some (.int n), some (.ref 48), some (.ref 50)]) (st2 := []) (σ2 := σ) (fun f => rfl) (by decide) ?_
    refine pi_ca 4 (m' := 39) (l' := [some (.ref 50), some (.int j), some (.int n)]) (σ' := σ) (pc2 := 96) (l2 := [some (.ref 0), some (.int (nI 0)), some (.int i), some (.int (nI 1)), some (.int j), some (.int n), some (.ref 48), some (.ref 50)]) (t := []) (fun f => rfl) (pi_C_hasRun1 hR.k ht1 j n) ?_
    rintro _ _ (⟨b2, rfl, rfl⟩ | ⟨b2, rfl, rfl⟩)
    · refine pi_cf 1 (c := nI 1 = 0) (pc' := 105) (l' := [some (.ref 0), some (.int (nI 0)), some (.int i), some (.int (nI 1)), some (.int j), some (.int n), some (.ref 48), some (.ref 50)]) (st' := []) (σ' := σ) (pc2 := 99) (l2 := [some (.ref 0), some (.int (nI 0)), some (.int i), some (.int (nI 1)), some (.int j), some (.int n), some (.ref 48), some (.ref 50)]) (st2 := []) (σ2 := σ) (fun f => rfl) (by decide) ?_
      exact (hb (z_cp_hr hsi.1 hti.1 b1 b2)).elim
    · refine pi_ct 1 (c := nI 0 = 0) (pc' := 99) (l' := [some (.ref 0), some (.int (nI 0)), some (.int i), some (.int (nI 1)), some (.int j), some (.int n), some (.ref 48), some (.ref 50)]) (st' := []) (σ' := σ) (pc2 := 105) (l2 := [some (.ref 0), some (.int (nI 0)), some (.int i), some (.int (nI 1)), some (.int j), some (.int n), some (.ref 48), some (.ref 50)]) (st2 := []) (σ2 := σ) (fun f => rfl) (by decide) ?_
      refine pi_ca 3 (m' := 96) (l' := [some (.ref 0), some (.int (nI 2))]) (σ' := σ) (pc2 := 104) (l2 := [some (.ref 0), some (.int (nI 0)), some (.int i), some (.int (nI 1)), some (.int j), some (.int n), some (.ref 48), some (.ref 50)]) (t := []) (fun f => rfl) (pi_C_found (nI 2)) ?_
      rintro _ t1 ⟨rfl, et1, kt1, rt1⟩
      refine pi_rt 1 (v := some (.int ((-10) - (nI 2)))) (σ' := t1) (fun f => rfl) ?_
      have hfr : pi_fr [0] t1 σ := pi_fr_tr rt1 (by decide) (pi_fr_rf)
      exact ⟨rfl, hR.fnd (et1) hfr, pi_fr_tr hfr (by decide) pi_fr_rf⟩
  · refine pi_ct 1 (c := nI 0 = 0) (pc' := 99) (l' := [some (.ref 0), some (.int (nI 0)), some (.int i), some (.int (nI 1)), some (.int j), some (.int n), some (.ref 48), some (.ref 50)]) (st' := []) (σ' := σ) (pc2 := 87) (l2 := [some (.ref 0), some (.int (nI 0)), some (.int i), some (.int (nI 1)), some (.int j), some (.int n), some (.ref 48), some (.ref 50)]) (st2 := []) (σ2 := σ) (fun f => rfl) (by decide) ?_
    refine pi_ca 3 (m' := 96) (l' := [some (.ref 0), some (.int (nI 2))]) (σ' := σ) (pc2 := 104) (l2 := [some (.ref 0), some (.int (nI 0)), some (.int i), some (.int (nI 1)), some (.int j), some (.int n), some (.ref 48), some (.ref 50)]) (t := []) (fun f => rfl) (pi_C_found (nI 2)) ?_
    rintro _ t2 ⟨rfl, et2, kt2, rt2⟩
    refine pi_rt 1 (v := some (.int ((-10) - (nI 2)))) (σ' := t2) (fun f => rfl) ?_
    have hfr : pi_fr [0] t2 σ := pi_fr_tr rt2 (by decide) (pi_fr_rf)
    exact ⟨rfl, hR.fnd (et2) hfr, pi_fr_tr hfr (by decide) pi_fr_rf⟩
set_option maxRecDepth 20000 in
theorem pi_X_copy01 {xs : Nat → Int32} {L d : Nat} {W : zW} {σ : pi_S} (hR : z_CR W σ) {i j n : Nat} (hs1 : ¬ W.th 0 = 0) (ht1 : ¬ W.th 1 = 0) (h4 : W.fo 0 = W.fo 1) (hi : i + n ≤ W.si 0) (hj : j + n ≤ W.si 1)  : pi_wp xs L (d + 9) 90 0 [some (.ref 0), some (.int (nI 0)), some (.int (nI i)), some (.int (nI 1)), some (.int (nI j)), some (.int (nI n)), none, none] [] σ (fun v s => v = some (.int (nI 1)) ∧ z_CR (W.sI 9 (pi_lp (fun q f => upd f (48 * 1 + j + q) (W.it (48 * 0 + i + q))) n W.it)) s ∧ pi_fr z_CC s σ) := by
  have hk := hR.k.p.wk
  have hnd8 := hk.wd.nd8
  have hns12 := hk.wd.ns12
  have hn60 := hk.nine
  have hnf := hk.nf
  have hnw := hk.nw
  have hnc := hk.nc
  have hn08 := hk.wd.n0
  have hn140 := hk.wd.n1
  have hsi := hk.si 0 (by omega)
  have hti := hk.si 1 (by omega)
  refine pi_ca 3 (m' := 94) (l' := [some (.int (nI 0)), some (.int (nI 4))]) (σ' := σ) (pc2 := 5) (l2 := [some (.ref 0), some (.int (nI 0)), some (.int (nI i)), some (.int (nI 1)), some (.int (nI j)), some (.int (nI n)), none, none]) (t := []) (fun f => rfl) (pi_below1 _ _ (z_BL (by omega) (by omega))) ?_
  rintro _ _ ⟨rfl, rfl⟩
  refine pi_cf 1 (c := nI 1 = 0) (pc' := 8) (l' := [some (.ref 0), some (.int (nI 0)), some (.int (nI i)), some (.int (nI 1)), some (.int (nI j)), some (.int (nI n)), none, none]) (st' := []) (σ' := σ) (pc2 := 16) (l2 := [some (.ref 0), some (.int (nI 0)), some (.int (nI i)), some (.int (nI 1)), some (.int (nI j)), some (.int (nI n)), none, none]) (st2 := []) (σ2 := σ) (fun f => rfl) (by decide) ?_
  refine pi_ca 3 (m' := 94) (l' := [some (.int (nI 1)), some (.int (nI 4))]) (σ' := σ) (pc2 := 13) (l2 := [some (.ref 0), some (.int (nI 0)), some (.int (nI i)), some (.int (nI 1)), some (.int (nI j)), some (.int (nI n)), none, none]) (t := []) (fun f => rfl) (pi_below1 _ _ (z_BL (by omega) (by omega))) ?_
  rintro _ _ ⟨rfl, rfl⟩
  refine pi_cf 1 (c := nI 1 = 0) (pc' := 19) (l' := [some (.ref 0), some (.int (nI 0)), some (.int (nI i)), some (.int (nI 1)), some (.int (nI j)), some (.int (nI n)), none, none]) (st' := []) (σ' := σ) (pc2 := 16) (l2 := [some (.ref 0), some (.int (nI 0)), some (.int (nI i)), some (.int (nI 1)), some (.int (nI j)), some (.int (nI n)), none, none]) (st2 := []) (σ2 := σ) (fun f => rfl) (by decide) ?_
  refine pi_aq 4 (u := 0) (n := 4) (a := 47) (c := 48) (pc' := 25) (l' := [some (.ref 0), some (.int (nI 0)), some (.int (nI i)), some (.int (nI 1)), some (.int (nI j)), some (.int (nI n)), none, none]) (t := []) (σ' := σ) (fun f => rfl) (by omega) (by omega) rfl ?_
  refine pi_aq 5 (u := 1) (n := 4) (a := 47) (c := 50) (pc' := 33) (l' := [some (.ref 0), some (.int (nI 0)), some (.int (nI i)), some (.int (nI 1)), some (.int (nI j)), some (.int (nI n)), some (.ref 48), none]) (t := []) (σ' := σ) (fun f => rfl) (by omega) (by omega) rfl ?_
  refine pi_ca 3 (m' := 36) (l' := [some (.ref 48)]) (σ' := σ) (pc2 := 40) (l2 := [some (.ref 0), some (.int (nI 0)), some (.int (nI i)), some (.int (nI 1)), some (.int (nI j)), some (.int (nI n)), some (.ref 48), some (.ref 50)]) (t := []) (fun f => rfl) (pi_C_lost0_f hR.k hs1) ?_
  rintro _ _ ⟨rfl, rfl⟩
  refine pi_ct 1 (c := nI 0 = 0) (pc' := 43) (l' := [some (.ref 0), some (.int (nI 0)), some (.int (nI i)), some (.int (nI 1)), some (.int (nI j)), some (.int (nI n)), some (.ref 48), some (.ref 50)]) (st' := []) (σ' := σ) (pc2 := 51) (l2 := [some (.ref 0), some (.int (nI 0)), some (.int (nI i)), some (.int (nI 1)), some (.int (nI j)), some (.int (nI n)), some (.ref 48), some (.ref 50)]) (st2 := []) (σ2 := σ) (fun f => rfl) (by decide) ?_
  refine pi_ca 2 (m' := 36) (l' := [some (.ref 50)]) (σ' := σ) (pc2 := 48) (l2 := [some (.ref 0), some (.int (nI 0)), some (.int (nI i)), some (.int (nI 1)), some (.int (nI j)), some (.int (nI n)), some (.ref 48), some (.ref 50)]) (t := []) (fun f => rfl) (pi_C_lost1_f hR.k ht1) ?_
  rintro _ _ ⟨rfl, rfl⟩
  refine pi_ct 1 (c := nI 0 = 0) (pc' := 57) (l' := [some (.ref 0), some (.int (nI 0)), some (.int (nI i)), some (.int (nI 1)), some (.int (nI j)), some (.int (nI n)), some (.ref 48), some (.ref 50)]) (st' := []) (σ' := σ) (pc2 := 51) (l2 := [some (.ref 0), some (.int (nI 0)), some (.int (nI i)), some (.int (nI 1)), some (.int (nI j)), some (.int (nI n)), some (.ref 48), some (.ref 50)]) (st2 := []) (σ2 := σ) (fun f => rfl) (by decide) ?_
  refine pi_go 2 (pc' := 62) (l' := [some (.ref 0), some (.int (nI 0)), some (.int (nI i)), some (.int (nI 1)), some (.int (nI j)), some (.int (nI n)), some (.ref 48), some (.ref 50)]) (st' := [.int (σ 48 1)]) (σ' := σ) (fun f => rfl) ?_
  refine pi_tp (y := nI (W.fo 0)) (hR.k.p.sf0) ?_
  refine pi_go 2 (pc' := 67) (l' := [some (.ref 0), some (.int (nI 0)), some (.int (nI i)), some (.int (nI 1)), some (.int (nI j)), some (.int (nI n)), some (.ref 48), some (.ref 50)]) (st' := [.int (σ 50 1), .int (nI (W.fo 0))]) (σ' := σ) (fun f => rfl) ?_
  refine pi_tp (y := nI (W.fo 1)) (hR.k.p.sf1) ?_
  refine pi_ct 1 (c := nI (W.fo 0) = nI (W.fo 1)) (pc' := 76) (l' := [some (.ref 0), some (.int (nI 0)), some (.int (nI i)), some (.int (nI 1)), some (.int (nI j)), some (.int (nI n)), some (.ref 48), some (.ref 50)]) (st' := []) (σ' := σ) (pc2 := 70) (l2 := [some (.ref 0), some (.int (nI 0)), some (.int (nI i)), some (.int (nI 1)), some (.int (nI j)), some (.int (nI n)), some (.ref 48), some (.ref 50)]) (st2 := []) (σ2 := σ) (fun f => rfl) (congrArg nI h4) ?_
  refine pi_ca 4 (m' := 39) (l' := [some (.ref 48), some (.int (nI i)), some (.int (nI n))]) (σ' := σ) (pc2 := 84) (l2 := [some (.ref 0), some (.int (nI 0)), some (.int (nI i)), some (.int (nI 1)), some (.int (nI j)), some (.int (nI n)), some (.ref 48), some (.ref 50)]) (t := []) (fun f => rfl) (pi_C_hasRun0T hR.k hs1 ⟨i, n, rfl, rfl, hi⟩) ?_
  rintro _ _ ⟨rfl, rfl⟩
  refine pi_cf 1 (c := nI 1 = 0) (pc' := 87) (l' := [some (.ref 0), some (.int (nI 0)), some (.int (nI i)), some (.int (nI 1)), some (.int (nI j)), some (.int (nI n)), some (.ref 48), some (.ref 50)]) (st' := []) (σ' := σ) (pc2 := 99) (l2 := [some (.ref 0), some (.int (nI 0)), some (.int (nI i)), some (.int (nI 1)), some (.int (nI j)), some (.int (nI n)), some (.ref 48), some (.ref 50)]) (st2 := []) (σ2 := σ) (fun f => rfl) (by decide) ?_
  refine pi_ca 4 (m' := 39) (l' := [some (.ref 50), some (.int (nI j)), some (.int (nI n))]) (σ' := σ) (pc2 := 96) (l2 := [some (.ref 0), some (.int (nI 0)), some (.int (nI i)), some (.int (nI 1)), some (.int (nI j)), some (.int (nI n)), some (.ref 48), some (.ref 50)]) (t := []) (fun f => rfl) (pi_C_hasRun1T hR.k ht1 ⟨j, n, rfl, rfl, hj⟩) ?_
  rintro _ _ ⟨rfl, rfl⟩
  refine pi_cf 1 (c := nI 1 = 0) (pc' := 105) (l' := [some (.ref 0), some (.int (nI 0)), some (.int (nI i)), some (.int (nI 1)), some (.int (nI j)), some (.int (nI n)), some (.ref 48), some (.ref 50)]) (st' := []) (σ' := σ) (pc2 := 99) (l2 := [some (.ref 0), some (.int (nI 0)), some (.int (nI i)), some (.int (nI 1)), some (.int (nI j)), some (.int (nI n)), some (.ref 48), some (.ref 50)]) (st2 := []) (σ2 := σ) (fun f => rfl) (by decide) ?_
  refine pi_go 7 (pc' := 120) (l' := [some (.ref 0), some (.int (nI 0)), some (.int (nI i)), some (.int (nI 1)), some (.int (nI j)), some (.int (nI n)), some (.ref 48), some (.ref 50)]) (st' := [.int (nI n), .int (nI j), .ref 51, .int (nI i), .ref 49]) (σ' := σ) (fun f => rfl) ?_
  refine pi_gd 1 (c := ¬ nI i < 0 ∧ ¬ nI j < 0 ∧ ¬ nI n < 0 ∧ (nI i).toNatClampNeg + (nI n).toNatClampNeg ≤ 48 ∧ (nI j).toNatClampNeg + (nI n).toNatClampNeg ≤ 48) (pc' := 123) (l' := [some (.ref 0), some (.int (nI 0)), some (.int (nI i)), some (.int (nI 1)), some (.int (nI j)), some (.int (nI n)), some (.ref 48), some (.ref 50)]) (st' := []) (σ' := pi_cpy σ 49 51 (nI i).toNatClampNeg (nI j).toNatClampNeg (nI n).toNatClampNeg) (fun f => rfl) ⟨z_ltz (by omega), z_ltz (by omega), z_ltz (by omega), by rw [nI_clamp (by omega), nI_clamp (by omega)]; omega, by rw [nI_clamp (by omega), nI_clamp (by omega)]; omega⟩ ?_
  rw [show (nI i).toNatClampNeg = i from nI_clamp (by omega), show (nI j).toNatClampNeg = j from nI_clamp (by omega), show (nI n).toNatClampNeg = n from nI_clamp (by omega)]
  generalize es1 : pi_cpy σ 49 51 i j n = s1
  have rs1 := pi_cpy_fr es1
  refine pi_rt 2 (v := some (.int (nI 1))) (σ' := s1) (fun f => rfl) ?_
  have hfr : pi_fr [51] s1 σ := pi_fr_tr rs1 (by decide) (pi_fr_rf)
  exact ⟨rfl, hR.it1 (fun q hq => (congrFun (pi_cpy_at es1) q).trans (z_cp_row hR.k.p.si0 hR.k.p.si1 (by omega) (by omega) q hq)) (z_cp_o (by omega)) hfr, pi_fr_tr hfr (by decide) pi_fr_rf⟩
set_option maxRecDepth 20000 in
theorem pi_X_copy02_null1 {xs : Nat → Int32} {L d : Nat} {W : zW} {σ : pi_S} (hR : z_CR W σ) {i j n : Int32} (hs0 : W.th 0 = 0)  : pi_wp xs L (d + 9) 90 0 [some (.ref 0), some (.int (nI 0)), some (.int i), some (.int (nI 2)), some (.int j), some (.int n), none, none] [] σ (fun v s => v = some (.int ((-10) - (nI 1))) ∧ z_CR (W.sS 0 (nI 1)) s ∧ pi_fr z_CC s σ) := by
  have hk := hR.k.p.wk
  have hnd8 := hk.wd.nd8
  have hns12 := hk.wd.ns12
  have hn60 := hk.nine
  have hnf := hk.nf
  have hnw := hk.nw
  have hnc := hk.nc
  have hn08 := hk.wd.n0
  have hn140 := hk.wd.n1
  have hsi := hk.si 0 (by omega)
  have hti := hk.si 2 (by omega)
  refine pi_ca 3 (m' := 94) (l' := [some (.int (nI 0)), some (.int (nI 4))]) (σ' := σ) (pc2 := 5) (l2 := [some (.ref 0), some (.int (nI 0)), some (.int i), some (.int (nI 2)), some (.int j), some (.int n), none, none]) (t := []) (fun f => rfl) (pi_below1 _ _ (z_BL (by omega) (by omega))) ?_
  rintro _ _ ⟨rfl, rfl⟩
  refine pi_cf 1 (c := nI 1 = 0) (pc' := 8) (l' := [some (.ref 0), some (.int (nI 0)), some (.int i), some (.int (nI 2)), some (.int j), some (.int n), none, none]) (st' := []) (σ' := σ) (pc2 := 16) (l2 := [some (.ref 0), some (.int (nI 0)), some (.int i), some (.int (nI 2)), some (.int j), some (.int n), none, none]) (st2 := []) (σ2 := σ) (fun f => rfl) (by decide) ?_
  refine pi_ca 3 (m' := 94) (l' := [some (.int (nI 2)), some (.int (nI 4))]) (σ' := σ) (pc2 := 13) (l2 := [some (.ref 0), some (.int (nI 0)), some (.int i), some (.int (nI 2)), some (.int j), some (.int n), none, none]) (t := []) (fun f => rfl) (pi_below1 _ _ (z_BL (by omega) (by omega))) ?_
  rintro _ _ ⟨rfl, rfl⟩
  refine pi_cf 1 (c := nI 1 = 0) (pc' := 19) (l' := [some (.ref 0), some (.int (nI 0)), some (.int i), some (.int (nI 2)), some (.int j), some (.int n), none, none]) (st' := []) (σ' := σ) (pc2 := 16) (l2 := [some (.ref 0), some (.int (nI 0)), some (.int i), some (.int (nI 2)), some (.int j), some (.int n), none, none]) (st2 := []) (σ2 := σ) (fun f => rfl) (by decide) ?_
  refine pi_aq 4 (u := 0) (n := 4) (a := 47) (c := 48) (pc' := 25) (l' := [some (.ref 0), some (.int (nI 0)), some (.int i), some (.int (nI 2)), some (.int j), some (.int n), none, none]) (t := []) (σ' := σ) (fun f => rfl) (by omega) (by omega) rfl ?_
  refine pi_aq 5 (u := 2) (n := 4) (a := 47) (c := 52) (pc' := 33) (l' := [some (.ref 0), some (.int (nI 0)), some (.int i), some (.int (nI 2)), some (.int j), some (.int n), some (.ref 48), none]) (t := []) (σ' := σ) (fun f => rfl) (by omega) (by omega) rfl ?_
  refine pi_ca 3 (m' := 36) (l' := [some (.ref 48)]) (σ' := σ) (pc2 := 40) (l2 := [some (.ref 0), some (.int (nI 0)), some (.int i), some (.int (nI 2)), some (.int j), some (.int n), some (.ref 48), some (.ref 52)]) (t := []) (fun f => rfl) (pi_C_lost0_t hR.k hs0) ?_
  rintro _ _ ⟨rfl, rfl⟩
  refine pi_cf 1 (c := nI 1 = 0) (pc' := 51) (l' := [some (.ref 0), some (.int (nI 0)), some (.int i), some (.int (nI 2)), some (.int j), some (.int n), some (.ref 48), some (.ref 52)]) (st' := []) (σ' := σ) (pc2 := 43) (l2 := [some (.ref 0), some (.int (nI 0)), some (.int i), some (.int (nI 2)), some (.int j), some (.int n), some (.ref 48), some (.ref 52)]) (st2 := []) (σ2 := σ) (fun f => rfl) (by decide) ?_
  refine pi_ca 3 (m' := 96) (l' := [some (.ref 0), some (.int (nI 1))]) (σ' := σ) (pc2 := 56) (l2 := [some (.ref 0), some (.int (nI 0)), some (.int i), some (.int (nI 2)), some (.int j), some (.int n), some (.ref 48), some (.ref 52)]) (t := []) (fun f => rfl) (pi_C_found (nI 1)) ?_
  rintro _ t1 ⟨rfl, et1, kt1, rt1⟩
  refine pi_rt 1 (v := some (.int ((-10) - (nI 1)))) (σ' := t1) (fun f => rfl) ?_
  have hfr : pi_fr [0] t1 σ := pi_fr_tr rt1 (by decide) (pi_fr_rf)
  exact ⟨rfl, hR.fnd (et1) hfr, pi_fr_tr hfr (by decide) pi_fr_rf⟩
set_option maxRecDepth 20000 in
theorem pi_X_copy02_null2 {xs : Nat → Int32} {L d : Nat} {W : zW} {σ : pi_S} (hR : z_CR W σ) {i j n : Int32} (hs1 : ¬ W.th 0 = 0) (ht0 : W.th 2 = 0)  : pi_wp xs L (d + 9) 90 0 [some (.ref 0), some (.int (nI 0)), some (.int i), some (.int (nI 2)), some (.int j), some (.int n), none, none] [] σ (fun v s => v = some (.int ((-10) - (nI 1))) ∧ z_CR (W.sS 0 (nI 1)) s ∧ pi_fr z_CC s σ) := by
  have hk := hR.k.p.wk
  have hnd8 := hk.wd.nd8
  have hns12 := hk.wd.ns12
  have hn60 := hk.nine
  have hnf := hk.nf
  have hnw := hk.nw
  have hnc := hk.nc
  have hn08 := hk.wd.n0
  have hn140 := hk.wd.n1
  have hsi := hk.si 0 (by omega)
  have hti := hk.si 2 (by omega)
  refine pi_ca 3 (m' := 94) (l' := [some (.int (nI 0)), some (.int (nI 4))]) (σ' := σ) (pc2 := 5) (l2 := [some (.ref 0), some (.int (nI 0)), some (.int i), some (.int (nI 2)), some (.int j), some (.int n), none, none]) (t := []) (fun f => rfl) (pi_below1 _ _ (z_BL (by omega) (by omega))) ?_
  rintro _ _ ⟨rfl, rfl⟩
  refine pi_cf 1 (c := nI 1 = 0) (pc' := 8) (l' := [some (.ref 0), some (.int (nI 0)), some (.int i), some (.int (nI 2)), some (.int j), some (.int n), none, none]) (st' := []) (σ' := σ) (pc2 := 16) (l2 := [some (.ref 0), some (.int (nI 0)), some (.int i), some (.int (nI 2)), some (.int j), some (.int n), none, none]) (st2 := []) (σ2 := σ) (fun f => rfl) (by decide) ?_
  refine pi_ca 3 (m' := 94) (l' := [some (.int (nI 2)), some (.int (nI 4))]) (σ' := σ) (pc2 := 13) (l2 := [some (.ref 0), some (.int (nI 0)), some (.int i), some (.int (nI 2)), some (.int j), some (.int n), none, none]) (t := []) (fun f => rfl) (pi_below1 _ _ (z_BL (by omega) (by omega))) ?_
  rintro _ _ ⟨rfl, rfl⟩
  refine pi_cf 1 (c := nI 1 = 0) (pc' := 19) (l' := [some (.ref 0), some (.int (nI 0)), some (.int i), some (.int (nI 2)), some (.int j), some (.int n), none, none]) (st' := []) (σ' := σ) (pc2 := 16) (l2 := [some (.ref 0), some (.int (nI 0)), some (.int i), some (.int (nI 2)), some (.int j), some (.int n), none, none]) (st2 := []) (σ2 := σ) (fun f => rfl) (by decide) ?_
  refine pi_aq 4 (u := 0) (n := 4) (a := 47) (c := 48) (pc' := 25) (l' := [some (.ref 0), some (.int (nI 0)), some (.int i), some (.int (nI 2)), some (.int j), some (.int n), none, none]) (t := []) (σ' := σ) (fun f => rfl) (by omega) (by omega) rfl ?_
  refine pi_aq 5 (u := 2) (n := 4) (a := 47) (c := 52) (pc' := 33) (l' := [some (.ref 0), some (.int (nI 0)), some (.int i), some (.int (nI 2)), some (.int j), some (.int n), some (.ref 48), none]) (t := []) (σ' := σ) (fun f => rfl) (by omega) (by omega) rfl ?_
  refine pi_ca 3 (m' := 36) (l' := [some (.ref 48)]) (σ' := σ) (pc2 := 40) (l2 := [some (.ref 0), some (.int (nI 0)), some (.int i), some (.int (nI 2)), some (.int j), some (.int n), some (.ref 48), some (.ref 52)]) (t := []) (fun f => rfl) (pi_C_lost0_f hR.k hs1) ?_
  rintro _ _ ⟨rfl, rfl⟩
  refine pi_ct 1 (c := nI 0 = 0) (pc' := 43) (l' := [some (.ref 0), some (.int (nI 0)), some (.int i), some (.int (nI 2)), some (.int j), some (.int n), some (.ref 48), some (.ref 52)]) (st' := []) (σ' := σ) (pc2 := 51) (l2 := [some (.ref 0), some (.int (nI 0)), some (.int i), some (.int (nI 2)), some (.int j), some (.int n), some (.ref 48), some (.ref 52)]) (st2 := []) (σ2 := σ) (fun f => rfl) (by decide) ?_
  refine pi_ca 2 (m' := 36) (l' := [some (.ref 52)]) (σ' := σ) (pc2 := 48) (l2 := [some (.ref 0), some (.int (nI 0)), some (.int i), some (.int (nI 2)), some (.int j), some (.int n), some (.ref 48), some (.ref 52)]) (t := []) (fun f => rfl) (pi_C_lost2_t hR.k ht0) ?_
  rintro _ _ ⟨rfl, rfl⟩
  refine pi_cf 1 (c := nI 1 = 0) (pc' := 51) (l' := [some (.ref 0), some (.int (nI 0)), some (.int i), some (.int (nI 2)), some (.int j), some (.int n), some (.ref 48), some (.ref 52)]) (st' := []) (σ' := σ) (pc2 := 57) (l2 := [some (.ref 0), some (.int (nI 0)), some (.int i), some (.int (nI 2)), some (.int j), some (.int n), some (.ref 48), some (.ref 52)]) (st2 := []) (σ2 := σ) (fun f => rfl) (by decide) ?_
  refine pi_ca 3 (m' := 96) (l' := [some (.ref 0), some (.int (nI 1))]) (σ' := σ) (pc2 := 56) (l2 := [some (.ref 0), some (.int (nI 0)), some (.int i), some (.int (nI 2)), some (.int j), some (.int n), some (.ref 48), some (.ref 52)]) (t := []) (fun f => rfl) (pi_C_found (nI 1)) ?_
  rintro _ t1 ⟨rfl, et1, kt1, rt1⟩
  refine pi_rt 1 (v := some (.int ((-10) - (nI 1)))) (σ' := t1) (fun f => rfl) ?_
  have hfr : pi_fr [0] t1 σ := pi_fr_tr rt1 (by decide) (pi_fr_rf)
  exact ⟨rfl, hR.fnd (et1) hfr, pi_fr_tr hfr (by decide) pi_fr_rf⟩
set_option maxRecDepth 20000 in
theorem pi_X_copy02_store {xs : Nat → Int32} {L d : Nat} {W : zW} {σ : pi_S} (hR : z_CR W σ) {i j n : Int32} (hs1 : ¬ W.th 0 = 0) (ht1 : ¬ W.th 2 = 0) (h4 : ¬ W.fo 0 = W.fo 2)  : pi_wp xs L (d + 9) 90 0 [some (.ref 0), some (.int (nI 0)), some (.int i), some (.int (nI 2)), some (.int j), some (.int n), none, none] [] σ (fun v s => v = some (.int ((-10) - (nI 4))) ∧ z_CR (W.sS 0 (nI 4)) s ∧ pi_fr z_CC s σ) := by
  have hk := hR.k.p.wk
  have hnd8 := hk.wd.nd8
  have hns12 := hk.wd.ns12
  have hn60 := hk.nine
  have hnf := hk.nf
  have hnw := hk.nw
  have hnc := hk.nc
  have hn08 := hk.wd.n0
  have hn140 := hk.wd.n1
  have hsi := hk.si 0 (by omega)
  have hti := hk.si 2 (by omega)
  refine pi_ca 3 (m' := 94) (l' := [some (.int (nI 0)), some (.int (nI 4))]) (σ' := σ) (pc2 := 5) (l2 := [some (.ref 0), some (.int (nI 0)), some (.int i), some (.int (nI 2)), some (.int j), some (.int n), none, none]) (t := []) (fun f => rfl) (pi_below1 _ _ (z_BL (by omega) (by omega))) ?_
  rintro _ _ ⟨rfl, rfl⟩
  refine pi_cf 1 (c := nI 1 = 0) (pc' := 8) (l' := [some (.ref 0), some (.int (nI 0)), some (.int i), some (.int (nI 2)), some (.int j), some (.int n), none, none]) (st' := []) (σ' := σ) (pc2 := 16) (l2 := [some (.ref 0), some (.int (nI 0)), some (.int i), some (.int (nI 2)), some (.int j), some (.int n), none, none]) (st2 := []) (σ2 := σ) (fun f => rfl) (by decide) ?_
  refine pi_ca 3 (m' := 94) (l' := [some (.int (nI 2)), some (.int (nI 4))]) (σ' := σ) (pc2 := 13) (l2 := [some (.ref 0), some (.int (nI 0)), some (.int i), some (.int (nI 2)), some (.int j), some (.int n), none, none]) (t := []) (fun f => rfl) (pi_below1 _ _ (z_BL (by omega) (by omega))) ?_
  rintro _ _ ⟨rfl, rfl⟩
  refine pi_cf 1 (c := nI 1 = 0) (pc' := 19) (l' := [some (.ref 0), some (.int (nI 0)), some (.int i), some (.int (nI 2)), some (.int j), some (.int n), none, none]) (st' := []) (σ' := σ) (pc2 := 16) (l2 := [some (.ref 0), some (.int (nI 0)), some (.int i), some (.int (nI 2)), some (.int j), some (.int n), none, none]) (st2 := []) (σ2 := σ) (fun f => rfl) (by decide) ?_
  refine pi_aq 4 (u := 0) (n := 4) (a := 47) (c := 48) (pc' := 25) (l' := [some (.ref 0), some (.int (nI 0)), some (.int i), some (.int (nI 2)), some (.int j), some (.int n), none, none]) (t := []) (σ' := σ) (fun f => rfl) (by omega) (by omega) rfl ?_
  refine pi_aq 5 (u := 2) (n := 4) (a := 47) (c := 52) (pc' := 33) (l' := [some (.ref 0), some (.int (nI 0)), some (.int i), some (.int (nI 2)), some (.int j), some (.int n), some (.ref 48), none]) (t := []) (σ' := σ) (fun f => rfl) (by omega) (by omega) rfl ?_
  refine pi_ca 3 (m' := 36) (l' := [some (.ref 48)]) (σ' := σ) (pc2 := 40) (l2 := [some (.ref 0), some (.int (nI 0)), some (.int i), some (.int (nI 2)), some (.int j), some (.int n), some (.ref 48), some (.ref 52)]) (t := []) (fun f => rfl) (pi_C_lost0_f hR.k hs1) ?_
  rintro _ _ ⟨rfl, rfl⟩
  refine pi_ct 1 (c := nI 0 = 0) (pc' := 43) (l' := [some (.ref 0), some (.int (nI 0)), some (.int i), some (.int (nI 2)), some (.int j), some (.int n), some (.ref 48), some (.ref 52)]) (st' := []) (σ' := σ) (pc2 := 51) (l2 := [some (.ref 0), some (.int (nI 0)), some (.int i), some (.int (nI 2)), some (.int j), some (.int n), some (.ref 48), some (.ref 52)]) (st2 := []) (σ2 := σ) (fun f => rfl) (by decide) ?_
  refine pi_ca 2 (m' := 36) (l' := [some (.ref 52)]) (σ' := σ) (pc2 := 48) (l2 := [some (.ref 0), some (.int (nI 0)), some (.int i), some (.int (nI 2)), some (.int j), some (.int n), some (.ref 48), some (.ref 52)]) (t := []) (fun f => rfl) (pi_C_lost2_f hR.k ht1) ?_
  rintro _ _ ⟨rfl, rfl⟩
  refine pi_ct 1 (c := nI 0 = 0) (pc' := 57) (l' := [some (.ref 0), some (.int (nI 0)), some (.int i), some (.int (nI 2)), some (.int j), some (.int n), some (.ref 48), some (.ref 52)]) (st' := []) (σ' := σ) (pc2 := 51) (l2 := [some (.ref 0), some (.int (nI 0)), some (.int i), some (.int (nI 2)), some (.int j), some (.int n), some (.ref 48), some (.ref 52)]) (st2 := []) (σ2 := σ) (fun f => rfl) (by decide) ?_
  refine pi_go 2 (pc' := 62) (l' := [some (.ref 0), some (.int (nI 0)), some (.int i), some (.int (nI 2)), some (.int j), some (.int n), some (.ref 48), some (.ref 52)]) (st' := [.int (σ 48 1)]) (σ' := σ) (fun f => rfl) ?_
  refine pi_tp (y := nI (W.fo 0)) (hR.k.p.sf0) ?_
  refine pi_go 2 (pc' := 67) (l' := [some (.ref 0), some (.int (nI 0)), some (.int i), some (.int (nI 2)), some (.int j), some (.int n), some (.ref 48), some (.ref 52)]) (st' := [.int (σ 52 1), .int (nI (W.fo 0))]) (σ' := σ) (fun f => rfl) ?_
  refine pi_tp (y := nI (W.fo 2)) (hR.k.p.sf2) ?_
  refine pi_cf 1 (c := nI (W.fo 0) = nI (W.fo 2)) (pc' := 70) (l' := [some (.ref 0), some (.int (nI 0)), some (.int i), some (.int (nI 2)), some (.int j), some (.int n), some (.ref 48), some (.ref 52)]) (st' := []) (σ' := σ) (pc2 := 76) (l2 := [some (.ref 0), some (.int (nI 0)), some (.int i), some (.int (nI 2)), some (.int j), some (.int n), some (.ref 48), some (.ref 52)]) (st2 := []) (σ2 := σ) (fun f => rfl) (fun q => h4 ((nI_eq (by omega) (by omega)).mp q)) ?_
  refine pi_ca 3 (m' := 96) (l' := [some (.ref 0), some (.int (nI 4))]) (σ' := σ) (pc2 := 75) (l2 := [some (.ref 0), some (.int (nI 0)), some (.int i), some (.int (nI 2)), some (.int j), some (.int n), some (.ref 48), some (.ref 52)]) (t := []) (fun f => rfl) (pi_C_found (nI 4)) ?_
  rintro _ t1 ⟨rfl, et1, kt1, rt1⟩
  refine pi_rt 1 (v := some (.int ((-10) - (nI 4)))) (σ' := t1) (fun f => rfl) ?_
  have hfr : pi_fr [0] t1 σ := pi_fr_tr rt1 (by decide) (pi_fr_rf)
  exact ⟨rfl, hR.fnd (et1) hfr, pi_fr_tr hfr (by decide) pi_fr_rf⟩
set_option maxRecDepth 20000 in
theorem pi_X_copy02_index {xs : Nat → Int32} {L d : Nat} {W : zW} {σ : pi_S} (hR : z_CR W σ) {i j n : Int32} (hs1 : ¬ W.th 0 = 0) (ht1 : ¬ W.th 2 = 0) (h4 : W.fo 0 = W.fo 2) (hb : ¬ z_cp W 0 2 i j n)  : pi_wp xs L (d + 9) 90 0 [some (.ref 0), some (.int (nI 0)), some (.int i), some (.int (nI 2)), some (.int j), some (.int n), none, none] [] σ (fun v s => v = some (.int ((-10) - (nI 2))) ∧ z_CR (W.sS 0 (nI 2)) s ∧ pi_fr z_CC s σ) := by
  have hk := hR.k.p.wk
  have hnd8 := hk.wd.nd8
  have hns12 := hk.wd.ns12
  have hn60 := hk.nine
  have hnf := hk.nf
  have hnw := hk.nw
  have hnc := hk.nc
  have hn08 := hk.wd.n0
  have hn140 := hk.wd.n1
  have hsi := hk.si 0 (by omega)
  have hti := hk.si 2 (by omega)
  refine pi_ca 3 (m' := 94) (l' := [some (.int (nI 0)), some (.int (nI 4))]) (σ' := σ) (pc2 := 5) (l2 := [some (.ref 0), some (.int (nI 0)), some (.int i), some (.int (nI 2)), some (.int j), some (.int n), none, none]) (t := []) (fun f => rfl) (pi_below1 _ _ (z_BL (by omega) (by omega))) ?_
  rintro _ _ ⟨rfl, rfl⟩
  refine pi_cf 1 (c := nI 1 = 0) (pc' := 8) (l' := [some (.ref 0), some (.int (nI 0)), some (.int i), some (.int (nI 2)), some (.int j), some (.int n), none, none]) (st' := []) (σ' := σ) (pc2 := 16) (l2 := [some (.ref 0), some (.int (nI 0)), some (.int i), some (.int (nI 2)), some (.int j), some (.int n), none, none]) (st2 := []) (σ2 := σ) (fun f => rfl) (by decide) ?_
  refine pi_ca 3 (m' := 94) (l' := [some (.int (nI 2)), some (.int (nI 4))]) (σ' := σ) (pc2 := 13) (l2 := [some (.ref 0), some (.int (nI 0)), some (.int i), some (.int (nI 2)), some (.int j), some (.int n), none, none]) (t := []) (fun f => rfl) (pi_below1 _ _ (z_BL (by omega) (by omega))) ?_
  rintro _ _ ⟨rfl, rfl⟩
  refine pi_cf 1 (c := nI 1 = 0) (pc' := 19) (l' := [some (.ref 0), some (.int (nI 0)), some (.int i), some (.int (nI 2)), some (.int j), some (.int n), none, none]) (st' := []) (σ' := σ) (pc2 := 16) (l2 := [some (.ref 0), some (.int (nI 0)), some (.int i), some (.int (nI 2)), some (.int j), some (.int n), none, none]) (st2 := []) (σ2 := σ) (fun f => rfl) (by decide) ?_
  refine pi_aq 4 (u := 0) (n := 4) (a := 47) (c := 48) (pc' := 25) (l' := [some (.ref 0), some (.int (nI 0)), some (.int i), some (.int (nI 2)), some (.int j), some (.int n), none, none]) (t := []) (σ' := σ) (fun f => rfl) (by omega) (by omega) rfl ?_
  refine pi_aq 5 (u := 2) (n := 4) (a := 47) (c := 52) (pc' := 33) (l' := [some (.ref 0), some (.int (nI 0)), some (.int i), some (.int (nI 2)), some (.int j), some (.int n), some (.ref 48), none]) (t := []) (σ' := σ) (fun f => rfl) (by omega) (by omega) rfl ?_
  refine pi_ca 3 (m' := 36) (l' := [some (.ref 48)]) (σ' := σ) (pc2 := 40) (l2 := [some (.ref 0), some (.int (nI 0)), some (.int i), some (.int (nI 2)), some (.int j), some (.int n), some (.ref 48), some (.ref 52)]) (t := []) (fun f => rfl) (pi_C_lost0_f hR.k hs1) ?_
  rintro _ _ ⟨rfl, rfl⟩
  refine pi_ct 1 (c := nI 0 = 0) (pc' := 43) (l' := [some (.ref 0), some (.int (nI 0)), some (.int i), some (.int (nI 2)), some (.int j), some (.int n), some (.ref 48), some (.ref 52)]) (st' := []) (σ' := σ) (pc2 := 51) (l2 := [some (.ref 0), some (.int (nI 0)), some (.int i), some (.int (nI 2)), some (.int j), some (.int n), some (.ref 48), some (.ref 52)]) (st2 := []) (σ2 := σ) (fun f => rfl) (by decide) ?_
  refine pi_ca 2 (m' := 36) (l' := [some (.ref 52)]) (σ' := σ) (pc2 := 48) (l2 := [some (.ref 0), some (.int (nI 0)), some (.int i), some (.int (nI 2)), some (.int j), some (.int n), some (.ref 48), some (.ref 52)]) (t := []) (fun f => rfl) (pi_C_lost2_f hR.k ht1) ?_
  rintro _ _ ⟨rfl, rfl⟩
  refine pi_ct 1 (c := nI 0 = 0) (pc' := 57) (l' := [some (.ref 0), some (.int (nI 0)), some (.int i), some (.int (nI 2)), some (.int j), some (.int n), some (.ref 48), some (.ref 52)]) (st' := []) (σ' := σ) (pc2 := 51) (l2 := [some (.ref 0), some (.int (nI 0)), some (.int i), some (.int (nI 2)), some (.int j), some (.int n), some (.ref 48), some (.ref 52)]) (st2 := []) (σ2 := σ) (fun f => rfl) (by decide) ?_
  refine pi_go 2 (pc' := 62) (l' := [some (.ref 0), some (.int (nI 0)), some (.int i), some (.int (nI 2)), some (.int j), some (.int n), some (.ref 48), some (.ref 52)]) (st' := [.int (σ 48 1)]) (σ' := σ) (fun f => rfl) ?_
  refine pi_tp (y := nI (W.fo 0)) (hR.k.p.sf0) ?_
  refine pi_go 2 (pc' := 67) (l' := [some (.ref 0), some (.int (nI 0)), some (.int i), some (.int (nI 2)), some (.int j), some (.int n), some (.ref 48), some (.ref 52)]) (st' := [.int (σ 52 1), .int (nI (W.fo 0))]) (σ' := σ) (fun f => rfl) ?_
  refine pi_tp (y := nI (W.fo 2)) (hR.k.p.sf2) ?_
  refine pi_ct 1 (c := nI (W.fo 0) = nI (W.fo 2)) (pc' := 76) (l' := [some (.ref 0), some (.int (nI 0)), some (.int i), some (.int (nI 2)), some (.int j), some (.int n), some (.ref 48), some (.ref 52)]) (st' := []) (σ' := σ) (pc2 := 70) (l2 := [some (.ref 0), some (.int (nI 0)), some (.int i), some (.int (nI 2)), some (.int j), some (.int n), some (.ref 48), some (.ref 52)]) (st2 := []) (σ2 := σ) (fun f => rfl) (congrArg nI h4) ?_
  refine pi_ca 4 (m' := 39) (l' := [some (.ref 48), some (.int i), some (.int n)]) (σ' := σ) (pc2 := 84) (l2 := [some (.ref 0), some (.int (nI 0)), some (.int i), some (.int (nI 2)), some (.int j), some (.int n), some (.ref 48), some (.ref 52)]) (t := []) (fun f => rfl) (pi_C_hasRun0 hR.k hs1 i n) ?_
  rintro _ _ (⟨b1, rfl, rfl⟩ | ⟨b1, rfl, rfl⟩)
  · refine pi_cf 1 (c := nI 1 = 0) (pc' := 87) (l' := [some (.ref 0), some (.int (nI 0)), some (.int i), some (.int (nI 2)), some (.int j), some (.int n), some (.ref 48), some (.ref 52)]) (st' := []) (σ' := σ) (pc2 := 99) (l2 := [some (.ref 0), some (.int (nI 0)), some (.int i), some (.int (nI 2)), some (.int j), some (.int n), some (.ref 48), some (.ref 52)]) (st2 := []) (σ2 := σ) (fun f => rfl) (by decide) ?_
    refine pi_ca 4 (m' := 39) (l' := [some (.ref 52), some (.int j), some (.int n)]) (σ' := σ) (pc2 := 96) (l2 := [some (.ref 0), some (.int (nI 0)), some (.int i), some (.int (nI 2)), some (.int j), some (.int n), some (.ref 48), some (.ref 52)]) (t := []) (fun f => rfl) (pi_C_hasRun2 hR.k ht1 j n) ?_
    rintro _ _ (⟨b2, rfl, rfl⟩ | ⟨b2, rfl, rfl⟩)
    · refine pi_cf 1 (c := nI 1 = 0) (pc' := 105) (l' := [some (.ref 0), some (.int (nI 0)), some (.int i), some (.int (nI 2)), some (.int j), some (.int n), some (.ref 48), some (.ref 52)]) (st' := []) (σ' := σ) (pc2 := 99) (l2 := [some (.ref 0), some (.int (nI 0)), some (.int i), some (.int (nI 2)), some (.int j), some (.int n), some (.ref 48), some (.ref 52)]) (st2 := []) (σ2 := σ) (fun f => rfl) (by decide) ?_
      exact (hb (z_cp_hr hsi.1 hti.1 b1 b2)).elim
    · refine pi_ct 1 (c := nI 0 = 0) (pc' := 99) (l' := [some (.ref 0), some (.int (nI 0)), some (.int i), some (.int (nI 2)), some (.int j), some (.int n), some (.ref 48), some (.ref 52)]) (st' := []) (σ' := σ) (pc2 := 105) (l2 := [some (.ref 0), some (.int (nI 0)), some (.int i), some (.int (nI 2)), some (.int j), some (.int n), some (.ref 48), some (.ref 52)]) (st2 := []) (σ2 := σ) (fun f => rfl) (by decide) ?_
      refine pi_ca 3 (m' := 96) (l' := [some (.ref 0), some (.int (nI 2))]) (σ' := σ) (pc2 := 104) (l2 := [some (.ref 0), some (.int (nI 0)), some (.int i), some (.int (nI 2)), some (.int j), some (.int n), some (.ref 48), some (.ref 52)]) (t := []) (fun f => rfl) (pi_C_found (nI 2)) ?_
      rintro _ t1 ⟨rfl, et1, kt1, rt1⟩
      refine pi_rt 1 (v := some (.int ((-10) - (nI 2)))) (σ' := t1) (fun f => rfl) ?_
      have hfr : pi_fr [0] t1 σ := pi_fr_tr rt1 (by decide) (pi_fr_rf)
      exact ⟨rfl, hR.fnd (et1) hfr, pi_fr_tr hfr (by decide) pi_fr_rf⟩
  · refine pi_ct 1 (c := nI 0 = 0) (pc' := 99) (l' := [some (.ref 0), some (.int (nI 0)), some (.int i), some (.int (nI 2)), some (.int j), some (.int n), some (.ref 48), some (.ref 52)]) (st' := []) (σ' := σ) (pc2 := 87) (l2 := [some (.ref 0), some (.int (nI 0)), some (.int i), some (.int (nI 2)), some (.int j), some (.int n), some (.ref 48), some (.ref 52)]) (st2 := []) (σ2 := σ) (fun f => rfl) (by decide) ?_
    refine pi_ca 3 (m' := 96) (l' := [some (.ref 0), some (.int (nI 2))]) (σ' := σ) (pc2 := 104) (l2 := [some (.ref 0), some (.int (nI 0)), some (.int i), some (.int (nI 2)), some (.int j), some (.int n), some (.ref 48), some (.ref 52)]) (t := []) (fun f => rfl) (pi_C_found (nI 2)) ?_
    rintro _ t2 ⟨rfl, et2, kt2, rt2⟩
    refine pi_rt 1 (v := some (.int ((-10) - (nI 2)))) (σ' := t2) (fun f => rfl) ?_
    have hfr : pi_fr [0] t2 σ := pi_fr_tr rt2 (by decide) (pi_fr_rf)
    exact ⟨rfl, hR.fnd (et2) hfr, pi_fr_tr hfr (by decide) pi_fr_rf⟩
set_option maxRecDepth 20000 in
theorem pi_X_copy02 {xs : Nat → Int32} {L d : Nat} {W : zW} {σ : pi_S} (hR : z_CR W σ) {i j n : Nat} (hs1 : ¬ W.th 0 = 0) (ht1 : ¬ W.th 2 = 0) (h4 : W.fo 0 = W.fo 2) (hi : i + n ≤ W.si 0) (hj : j + n ≤ W.si 2)  : pi_wp xs L (d + 9) 90 0 [some (.ref 0), some (.int (nI 0)), some (.int (nI i)), some (.int (nI 2)), some (.int (nI j)), some (.int (nI n)), none, none] [] σ (fun v s => v = some (.int (nI 1)) ∧ z_CR (W.sI 9 (pi_lp (fun q f => upd f (48 * 2 + j + q) (W.it (48 * 0 + i + q))) n W.it)) s ∧ pi_fr z_CC s σ) := by
  have hk := hR.k.p.wk
  have hnd8 := hk.wd.nd8
  have hns12 := hk.wd.ns12
  have hn60 := hk.nine
  have hnf := hk.nf
  have hnw := hk.nw
  have hnc := hk.nc
  have hn08 := hk.wd.n0
  have hn140 := hk.wd.n1
  have hsi := hk.si 0 (by omega)
  have hti := hk.si 2 (by omega)
  refine pi_ca 3 (m' := 94) (l' := [some (.int (nI 0)), some (.int (nI 4))]) (σ' := σ) (pc2 := 5) (l2 := [some (.ref 0), some (.int (nI 0)), some (.int (nI i)), some (.int (nI 2)), some (.int (nI j)), some (.int (nI n)), none, none]) (t := []) (fun f => rfl) (pi_below1 _ _ (z_BL (by omega) (by omega))) ?_
  rintro _ _ ⟨rfl, rfl⟩
  refine pi_cf 1 (c := nI 1 = 0) (pc' := 8) (l' := [some (.ref 0), some (.int (nI 0)), some (.int (nI i)), some (.int (nI 2)), some (.int (nI j)), some (.int (nI n)), none, none]) (st' := []) (σ' := σ) (pc2 := 16) (l2 := [some (.ref 0), some (.int (nI 0)), some (.int (nI i)), some (.int (nI 2)), some (.int (nI j)), some (.int (nI n)), none, none]) (st2 := []) (σ2 := σ) (fun f => rfl) (by decide) ?_
  refine pi_ca 3 (m' := 94) (l' := [some (.int (nI 2)), some (.int (nI 4))]) (σ' := σ) (pc2 := 13) (l2 := [some (.ref 0), some (.int (nI 0)), some (.int (nI i)), some (.int (nI 2)), some (.int (nI j)), some (.int (nI n)), none, none]) (t := []) (fun f => rfl) (pi_below1 _ _ (z_BL (by omega) (by omega))) ?_
  rintro _ _ ⟨rfl, rfl⟩
  refine pi_cf 1 (c := nI 1 = 0) (pc' := 19) (l' := [some (.ref 0), some (.int (nI 0)), some (.int (nI i)), some (.int (nI 2)), some (.int (nI j)), some (.int (nI n)), none, none]) (st' := []) (σ' := σ) (pc2 := 16) (l2 := [some (.ref 0), some (.int (nI 0)), some (.int (nI i)), some (.int (nI 2)), some (.int (nI j)), some (.int (nI n)), none, none]) (st2 := []) (σ2 := σ) (fun f => rfl) (by decide) ?_
  refine pi_aq 4 (u := 0) (n := 4) (a := 47) (c := 48) (pc' := 25) (l' := [some (.ref 0), some (.int (nI 0)), some (.int (nI i)), some (.int (nI 2)), some (.int (nI j)), some (.int (nI n)), none, none]) (t := []) (σ' := σ) (fun f => rfl) (by omega) (by omega) rfl ?_
  refine pi_aq 5 (u := 2) (n := 4) (a := 47) (c := 52) (pc' := 33) (l' := [some (.ref 0), some (.int (nI 0)), some (.int (nI i)), some (.int (nI 2)), some (.int (nI j)), some (.int (nI n)), some (.ref 48), none]) (t := []) (σ' := σ) (fun f => rfl) (by omega) (by omega) rfl ?_
  refine pi_ca 3 (m' := 36) (l' := [some (.ref 48)]) (σ' := σ) (pc2 := 40) (l2 := [some (.ref 0), some (.int (nI 0)), some (.int (nI i)), some (.int (nI 2)), some (.int (nI j)), some (.int (nI n)), some (.ref 48), some (.ref 52)]) (t := []) (fun f => rfl) (pi_C_lost0_f hR.k hs1) ?_
  rintro _ _ ⟨rfl, rfl⟩
  refine pi_ct 1 (c := nI 0 = 0) (pc' := 43) (l' := [some (.ref 0), some (.int (nI 0)), some (.int (nI i)), some (.int (nI 2)), some (.int (nI j)), some (.int (nI n)), some (.ref 48), some (.ref 52)]) (st' := []) (σ' := σ) (pc2 := 51) (l2 := [some (.ref 0), some (.int (nI 0)), some (.int (nI i)), some (.int (nI 2)), some (.int (nI j)), some (.int (nI n)), some (.ref 48), some (.ref 52)]) (st2 := []) (σ2 := σ) (fun f => rfl) (by decide) ?_
  refine pi_ca 2 (m' := 36) (l' := [some (.ref 52)]) (σ' := σ) (pc2 := 48) (l2 := [some (.ref 0), some (.int (nI 0)), some (.int (nI i)), some (.int (nI 2)), some (.int (nI j)), some (.int (nI n)), some (.ref 48), some (.ref 52)]) (t := []) (fun f => rfl) (pi_C_lost2_f hR.k ht1) ?_
  rintro _ _ ⟨rfl, rfl⟩
  refine pi_ct 1 (c := nI 0 = 0) (pc' := 57) (l' := [some (.ref 0), some (.int (nI 0)), some (.int (nI i)), some (.int (nI 2)), some (.int (nI j)), some (.int (nI n)), some (.ref 48), some (.ref 52)]) (st' := []) (σ' := σ) (pc2 := 51) (l2 := [some (.ref 0), some (.int (nI 0)), some (.int (nI i)), some (.int (nI 2)), some (.int (nI j)), some (.int (nI n)), some (.ref 48), some (.ref 52)]) (st2 := []) (σ2 := σ) (fun f => rfl) (by decide) ?_
  refine pi_go 2 (pc' := 62) (l' := [some (.ref 0), some (.int (nI 0)), some (.int (nI i)), some (.int (nI 2)), some (.int (nI j)), some (.int (nI n)), some (.ref 48), some (.ref 52)]) (st' := [.int (σ 48 1)]) (σ' := σ) (fun f => rfl) ?_
  refine pi_tp (y := nI (W.fo 0)) (hR.k.p.sf0) ?_
  refine pi_go 2 (pc' := 67) (l' := [some (.ref 0), some (.int (nI 0)), some (.int (nI i)), some (.int (nI 2)), some (.int (nI j)), some (.int (nI n)), some (.ref 48), some (.ref 52)]) (st' := [.int (σ 52 1), .int (nI (W.fo 0))]) (σ' := σ) (fun f => rfl) ?_
  refine pi_tp (y := nI (W.fo 2)) (hR.k.p.sf2) ?_
  refine pi_ct 1 (c := nI (W.fo 0) = nI (W.fo 2)) (pc' := 76) (l' := [some (.ref 0), some (.int (nI 0)), some (.int (nI i)), some (.int (nI 2)), some (.int (nI j)), some (.int (nI n)), some (.ref 48), some (.ref 52)]) (st' := []) (σ' := σ) (pc2 := 70) (l2 := [some (.ref 0), some (.int (nI 0)), some (.int (nI i)), some (.int (nI 2)), some (.int (nI j)), some (.int (nI n)), some (.ref 48), some (.ref 52)]) (st2 := []) (σ2 := σ) (fun f => rfl) (congrArg nI h4) ?_
  refine pi_ca 4 (m' := 39) (l' := [some (.ref 48), some (.int (nI i)), some (.int (nI n))]) (σ' := σ) (pc2 := 84) (l2 := [some (.ref 0), some (.int (nI 0)), some (.int (nI i)), some (.int (nI 2)), some (.int (nI j)), some (.int (nI n)), some (.ref 48), some (.ref 52)]) (t := []) (fun f => rfl) (pi_C_hasRun0T hR.k hs1 ⟨i, n, rfl, rfl, hi⟩) ?_
  rintro _ _ ⟨rfl, rfl⟩
  refine pi_cf 1 (c := nI 1 = 0) (pc' := 87) (l' := [some (.ref 0), some (.int (nI 0)), some (.int (nI i)), some (.int (nI 2)), some (.int (nI j)), some (.int (nI n)), some (.ref 48), some (.ref 52)]) (st' := []) (σ' := σ) (pc2 := 99) (l2 := [some (.ref 0), some (.int (nI 0)), some (.int (nI i)), some (.int (nI 2)), some (.int (nI j)), some (.int (nI n)), some (.ref 48), some (.ref 52)]) (st2 := []) (σ2 := σ) (fun f => rfl) (by decide) ?_
  refine pi_ca 4 (m' := 39) (l' := [some (.ref 52), some (.int (nI j)), some (.int (nI n))]) (σ' := σ) (pc2 := 96) (l2 := [some (.ref 0), some (.int (nI 0)), some (.int (nI i)), some (.int (nI 2)), some (.int (nI j)), some (.int (nI n)), some (.ref 48), some (.ref 52)]) (t := []) (fun f => rfl) (pi_C_hasRun2T hR.k ht1 ⟨j, n, rfl, rfl, hj⟩) ?_
  rintro _ _ ⟨rfl, rfl⟩
  refine pi_cf 1 (c := nI 1 = 0) (pc' := 105) (l' := [some (.ref 0), some (.int (nI 0)), some (.int (nI i)), some (.int (nI 2)), some (.int (nI j)), some (.int (nI n)), some (.ref 48), some (.ref 52)]) (st' := []) (σ' := σ) (pc2 := 99) (l2 := [some (.ref 0), some (.int (nI 0)), some (.int (nI i)), some (.int (nI 2)), some (.int (nI j)), some (.int (nI n)), some (.ref 48), some (.ref 52)]) (st2 := []) (σ2 := σ) (fun f => rfl) (by decide) ?_
  refine pi_go 7 (pc' := 120) (l' := [some (.ref 0), some (.int (nI 0)), some (.int (nI i)), some (.int (nI 2)), some (.int (nI j)), some (.int (nI n)), some (.ref 48), some (.ref 52)]) (st' := [.int (nI n), .int (nI j), .ref 53, .int (nI i), .ref 49]) (σ' := σ) (fun f => rfl) ?_
  refine pi_gd 1 (c := ¬ nI i < 0 ∧ ¬ nI j < 0 ∧ ¬ nI n < 0 ∧ (nI i).toNatClampNeg + (nI n).toNatClampNeg ≤ 48 ∧ (nI j).toNatClampNeg + (nI n).toNatClampNeg ≤ 48) (pc' := 123) (l' := [some (.ref 0), some (.int (nI 0)), some (.int (nI i)), some (.int (nI 2)), some (.int (nI j)), some (.int (nI n)), some (.ref 48), some (.ref 52)]) (st' := []) (σ' := pi_cpy σ 49 53 (nI i).toNatClampNeg (nI j).toNatClampNeg (nI n).toNatClampNeg) (fun f => rfl) ⟨z_ltz (by omega), z_ltz (by omega), z_ltz (by omega), by rw [nI_clamp (by omega), nI_clamp (by omega)]; omega, by rw [nI_clamp (by omega), nI_clamp (by omega)]; omega⟩ ?_
  rw [show (nI i).toNatClampNeg = i from nI_clamp (by omega), show (nI j).toNatClampNeg = j from nI_clamp (by omega), show (nI n).toNatClampNeg = n from nI_clamp (by omega)]
  generalize es1 : pi_cpy σ 49 53 i j n = s1
  have rs1 := pi_cpy_fr es1
  refine pi_rt 2 (v := some (.int (nI 1))) (σ' := s1) (fun f => rfl) ?_
  have hfr : pi_fr [53] s1 σ := pi_fr_tr rs1 (by decide) (pi_fr_rf)
  exact ⟨rfl, hR.it2 (fun q hq => (congrFun (pi_cpy_at es1) q).trans (z_cp_row hR.k.p.si0 hR.k.p.si2 (by omega) (by omega) q hq)) (z_cp_o (by omega)) hfr, pi_fr_tr hfr (by decide) pi_fr_rf⟩
set_option maxRecDepth 20000 in
theorem pi_X_copy03_null1 {xs : Nat → Int32} {L d : Nat} {W : zW} {σ : pi_S} (hR : z_CR W σ) {i j n : Int32} (hs0 : W.th 0 = 0)  : pi_wp xs L (d + 9) 90 0 [some (.ref 0), some (.int (nI 0)), some (.int i), some (.int (nI 3)), some (.int j), some (.int n), none, none] [] σ (fun v s => v = some (.int ((-10) - (nI 1))) ∧ z_CR (W.sS 0 (nI 1)) s ∧ pi_fr z_CC s σ) := by
  have hk := hR.k.p.wk
  have hnd8 := hk.wd.nd8
  have hns12 := hk.wd.ns12
  have hn60 := hk.nine
  have hnf := hk.nf
  have hnw := hk.nw
  have hnc := hk.nc
  have hn08 := hk.wd.n0
  have hn140 := hk.wd.n1
  have hsi := hk.si 0 (by omega)
  have hti := hk.si 3 (by omega)
  refine pi_ca 3 (m' := 94) (l' := [some (.int (nI 0)), some (.int (nI 4))]) (σ' := σ) (pc2 := 5) (l2 := [some (.ref 0), some (.int (nI 0)), some (.int i), some (.int (nI 3)), some (.int j), some (.int n), none, none]) (t := []) (fun f => rfl) (pi_below1 _ _ (z_BL (by omega) (by omega))) ?_
  rintro _ _ ⟨rfl, rfl⟩
  refine pi_cf 1 (c := nI 1 = 0) (pc' := 8) (l' := [some (.ref 0), some (.int (nI 0)), some (.int i), some (.int (nI 3)), some (.int j), some (.int n), none, none]) (st' := []) (σ' := σ) (pc2 := 16) (l2 := [some (.ref 0), some (.int (nI 0)), some (.int i), some (.int (nI 3)), some (.int j), some (.int n), none, none]) (st2 := []) (σ2 := σ) (fun f => rfl) (by decide) ?_
  refine pi_ca 3 (m' := 94) (l' := [some (.int (nI 3)), some (.int (nI 4))]) (σ' := σ) (pc2 := 13) (l2 := [some (.ref 0), some (.int (nI 0)), some (.int i), some (.int (nI 3)), some (.int j), some (.int n), none, none]) (t := []) (fun f => rfl) (pi_below1 _ _ (z_BL (by omega) (by omega))) ?_
  rintro _ _ ⟨rfl, rfl⟩
  refine pi_cf 1 (c := nI 1 = 0) (pc' := 19) (l' := [some (.ref 0), some (.int (nI 0)), some (.int i), some (.int (nI 3)), some (.int j), some (.int n), none, none]) (st' := []) (σ' := σ) (pc2 := 16) (l2 := [some (.ref 0), some (.int (nI 0)), some (.int i), some (.int (nI 3)), some (.int j), some (.int n), none, none]) (st2 := []) (σ2 := σ) (fun f => rfl) (by decide) ?_
  refine pi_aq 4 (u := 0) (n := 4) (a := 47) (c := 48) (pc' := 25) (l' := [some (.ref 0), some (.int (nI 0)), some (.int i), some (.int (nI 3)), some (.int j), some (.int n), none, none]) (t := []) (σ' := σ) (fun f => rfl) (by omega) (by omega) rfl ?_
  refine pi_aq 5 (u := 3) (n := 4) (a := 47) (c := 54) (pc' := 33) (l' := [some (.ref 0), some (.int (nI 0)), some (.int i), some (.int (nI 3)), some (.int j), some (.int n), some (.ref 48), none]) (t := []) (σ' := σ) (fun f => rfl) (by omega) (by omega) rfl ?_
  refine pi_ca 3 (m' := 36) (l' := [some (.ref 48)]) (σ' := σ) (pc2 := 40) (l2 := [some (.ref 0), some (.int (nI 0)), some (.int i), some (.int (nI 3)), some (.int j), some (.int n), some (.ref 48), some (.ref 54)]) (t := []) (fun f => rfl) (pi_C_lost0_t hR.k hs0) ?_
  rintro _ _ ⟨rfl, rfl⟩
  refine pi_cf 1 (c := nI 1 = 0) (pc' := 51) (l' := [some (.ref 0), some (.int (nI 0)), some (.int i), some (.int (nI 3)), some (.int j), some (.int n), some (.ref 48), some (.ref 54)]) (st' := []) (σ' := σ) (pc2 := 43) (l2 := [some (.ref 0), some (.int (nI 0)), some (.int i), some (.int (nI 3)), some (.int j), some (.int n), some (.ref 48), some (.ref 54)]) (st2 := []) (σ2 := σ) (fun f => rfl) (by decide) ?_
  refine pi_ca 3 (m' := 96) (l' := [some (.ref 0), some (.int (nI 1))]) (σ' := σ) (pc2 := 56) (l2 := [some (.ref 0), some (.int (nI 0)), some (.int i), some (.int (nI 3)), some (.int j), some (.int n), some (.ref 48), some (.ref 54)]) (t := []) (fun f => rfl) (pi_C_found (nI 1)) ?_
  rintro _ t1 ⟨rfl, et1, kt1, rt1⟩
  refine pi_rt 1 (v := some (.int ((-10) - (nI 1)))) (σ' := t1) (fun f => rfl) ?_
  have hfr : pi_fr [0] t1 σ := pi_fr_tr rt1 (by decide) (pi_fr_rf)
  exact ⟨rfl, hR.fnd (et1) hfr, pi_fr_tr hfr (by decide) pi_fr_rf⟩
set_option maxRecDepth 20000 in
theorem pi_X_copy03_null2 {xs : Nat → Int32} {L d : Nat} {W : zW} {σ : pi_S} (hR : z_CR W σ) {i j n : Int32} (hs1 : ¬ W.th 0 = 0) (ht0 : W.th 3 = 0)  : pi_wp xs L (d + 9) 90 0 [some (.ref 0), some (.int (nI 0)), some (.int i), some (.int (nI 3)), some (.int j), some (.int n), none, none] [] σ (fun v s => v = some (.int ((-10) - (nI 1))) ∧ z_CR (W.sS 0 (nI 1)) s ∧ pi_fr z_CC s σ) := by
  have hk := hR.k.p.wk
  have hnd8 := hk.wd.nd8
  have hns12 := hk.wd.ns12
  have hn60 := hk.nine
  have hnf := hk.nf
  have hnw := hk.nw
  have hnc := hk.nc
  have hn08 := hk.wd.n0
  have hn140 := hk.wd.n1
  have hsi := hk.si 0 (by omega)
  have hti := hk.si 3 (by omega)
  refine pi_ca 3 (m' := 94) (l' := [some (.int (nI 0)), some (.int (nI 4))]) (σ' := σ) (pc2 := 5) (l2 := [some (.ref 0), some (.int (nI 0)), some (.int i), some (.int (nI 3)), some (.int j), some (.int n), none, none]) (t := []) (fun f => rfl) (pi_below1 _ _ (z_BL (by omega) (by omega))) ?_
  rintro _ _ ⟨rfl, rfl⟩
  refine pi_cf 1 (c := nI 1 = 0) (pc' := 8) (l' := [some (.ref 0), some (.int (nI 0)), some (.int i), some (.int (nI 3)), some (.int j), some (.int n), none, none]) (st' := []) (σ' := σ) (pc2 := 16) (l2 := [some (.ref 0), some (.int (nI 0)), some (.int i), some (.int (nI 3)), some (.int j), some (.int n), none, none]) (st2 := []) (σ2 := σ) (fun f => rfl) (by decide) ?_
  refine pi_ca 3 (m' := 94) (l' := [some (.int (nI 3)), some (.int (nI 4))]) (σ' := σ) (pc2 := 13) (l2 := [some (.ref 0), some (.int (nI 0)), some (.int i), some (.int (nI 3)), some (.int j), some (.int n), none, none]) (t := []) (fun f => rfl) (pi_below1 _ _ (z_BL (by omega) (by omega))) ?_
  rintro _ _ ⟨rfl, rfl⟩
  refine pi_cf 1 (c := nI 1 = 0) (pc' := 19) (l' := [some (.ref 0), some (.int (nI 0)), some (.int i), some (.int (nI 3)), some (.int j), some (.int n), none, none]) (st' := []) (σ' := σ) (pc2 := 16) (l2 := [some (.ref 0), some (.int (nI 0)), some (.int i), some (.int (nI 3)), some (.int j), some (.int n), none, none]) (st2 := []) (σ2 := σ) (fun f => rfl) (by decide) ?_
  refine pi_aq 4 (u := 0) (n := 4) (a := 47) (c := 48) (pc' := 25) (l' := [some (.ref 0), some (.int (nI 0)), some (.int i), some (.int (nI 3)), some (.int j), some (.int n), none, none]) (t := []) (σ' := σ) (fun f => rfl) (by omega) (by omega) rfl ?_
  refine pi_aq 5 (u := 3) (n := 4) (a := 47) (c := 54) (pc' := 33) (l' := [some (.ref 0), some (.int (nI 0)), some (.int i), some (.int (nI 3)), some (.int j), some (.int n), some (.ref 48), none]) (t := []) (σ' := σ) (fun f => rfl) (by omega) (by omega) rfl ?_
  refine pi_ca 3 (m' := 36) (l' := [some (.ref 48)]) (σ' := σ) (pc2 := 40) (l2 := [some (.ref 0), some (.int (nI 0)), some (.int i), some (.int (nI 3)), some (.int j), some (.int n), some (.ref 48), some (.ref 54)]) (t := []) (fun f => rfl) (pi_C_lost0_f hR.k hs1) ?_
  rintro _ _ ⟨rfl, rfl⟩
  refine pi_ct 1 (c := nI 0 = 0) (pc' := 43) (l' := [some (.ref 0), some (.int (nI 0)), some (.int i), some (.int (nI 3)), some (.int j), some (.int n), some (.ref 48), some (.ref 54)]) (st' := []) (σ' := σ) (pc2 := 51) (l2 := [some (.ref 0), some (.int (nI 0)), some (.int i), some (.int (nI 3)), some (.int j), some (.int n), some (.ref 48), some (.ref 54)]) (st2 := []) (σ2 := σ) (fun f => rfl) (by decide) ?_
  refine pi_ca 2 (m' := 36) (l' := [some (.ref 54)]) (σ' := σ) (pc2 := 48) (l2 := [some (.ref 0), some (.int (nI 0)), some (.int i), some (.int (nI 3)), some (.int j), some (.int n), some (.ref 48), some (.ref 54)]) (t := []) (fun f => rfl) (pi_C_lost3_t hR.k ht0) ?_
  rintro _ _ ⟨rfl, rfl⟩
  refine pi_cf 1 (c := nI 1 = 0) (pc' := 51) (l' := [some (.ref 0), some (.int (nI 0)), some (.int i), some (.int (nI 3)), some (.int j), some (.int n), some (.ref 48), some (.ref 54)]) (st' := []) (σ' := σ) (pc2 := 57) (l2 := [some (.ref 0), some (.int (nI 0)), some (.int i), some (.int (nI 3)), some (.int j), some (.int n), some (.ref 48), some (.ref 54)]) (st2 := []) (σ2 := σ) (fun f => rfl) (by decide) ?_
  refine pi_ca 3 (m' := 96) (l' := [some (.ref 0), some (.int (nI 1))]) (σ' := σ) (pc2 := 56) (l2 := [some (.ref 0), some (.int (nI 0)), some (.int i), some (.int (nI 3)), some (.int j), some (.int n), some (.ref 48), some (.ref 54)]) (t := []) (fun f => rfl) (pi_C_found (nI 1)) ?_
  rintro _ t1 ⟨rfl, et1, kt1, rt1⟩
  refine pi_rt 1 (v := some (.int ((-10) - (nI 1)))) (σ' := t1) (fun f => rfl) ?_
  have hfr : pi_fr [0] t1 σ := pi_fr_tr rt1 (by decide) (pi_fr_rf)
  exact ⟨rfl, hR.fnd (et1) hfr, pi_fr_tr hfr (by decide) pi_fr_rf⟩
set_option maxRecDepth 20000 in
theorem pi_X_copy03_store {xs : Nat → Int32} {L d : Nat} {W : zW} {σ : pi_S} (hR : z_CR W σ) {i j n : Int32} (hs1 : ¬ W.th 0 = 0) (ht1 : ¬ W.th 3 = 0) (h4 : ¬ W.fo 0 = W.fo 3)  : pi_wp xs L (d + 9) 90 0 [some (.ref 0), some (.int (nI 0)), some (.int i), some (.int (nI 3)), some (.int j), some (.int n), none, none] [] σ (fun v s => v = some (.int ((-10) - (nI 4))) ∧ z_CR (W.sS 0 (nI 4)) s ∧ pi_fr z_CC s σ) := by
  have hk := hR.k.p.wk
  have hnd8 := hk.wd.nd8
  have hns12 := hk.wd.ns12
  have hn60 := hk.nine
  have hnf := hk.nf
  have hnw := hk.nw
  have hnc := hk.nc
  have hn08 := hk.wd.n0
  have hn140 := hk.wd.n1
  have hsi := hk.si 0 (by omega)
  have hti := hk.si 3 (by omega)
  refine pi_ca 3 (m' := 94) (l' := [some (.int (nI 0)), some (.int (nI 4))]) (σ' := σ) (pc2 := 5) (l2 := [some (.ref 0), some (.int (nI 0)), some (.int i), some (.int (nI 3)), some (.int j), some (.int n), none, none]) (t := []) (fun f => rfl) (pi_below1 _ _ (z_BL (by omega) (by omega))) ?_
  rintro _ _ ⟨rfl, rfl⟩
  refine pi_cf 1 (c := nI 1 = 0) (pc' := 8) (l' := [some (.ref 0), some (.int (nI 0)), some (.int i), some (.int (nI 3)), some (.int j), some (.int n), none, none]) (st' := []) (σ' := σ) (pc2 := 16) (l2 := [some (.ref 0), some (.int (nI 0)), some (.int i), some (.int (nI 3)), some (.int j), some (.int n), none, none]) (st2 := []) (σ2 := σ) (fun f => rfl) (by decide) ?_
  refine pi_ca 3 (m' := 94) (l' := [some (.int (nI 3)), some (.int (nI 4))]) (σ' := σ) (pc2 := 13) (l2 := [some (.ref 0), some (.int (nI 0)), some (.int i), some (.int (nI 3)), some (.int j), some (.int n), none, none]) (t := []) (fun f => rfl) (pi_below1 _ _ (z_BL (by omega) (by omega))) ?_
  rintro _ _ ⟨rfl, rfl⟩
  refine pi_cf 1 (c := nI 1 = 0) (pc' := 19) (l' := [some (.ref 0), some (.int (nI 0)), some (.int i), some (.int (nI 3)), some (.int j), some (.int n), none, none]) (st' := []) (σ' := σ) (pc2 := 16) (l2 := [some (.ref 0), some (.int (nI 0)), some (.int i), some (.int (nI 3)), some (.int j), some (.int n), none, none]) (st2 := []) (σ2 := σ) (fun f => rfl) (by decide) ?_
  refine pi_aq 4 (u := 0) (n := 4) (a := 47) (c := 48) (pc' := 25) (l' := [some (.ref 0), some (.int (nI 0)), some (.int i), some (.int (nI 3)), some (.int j), some (.int n), none, none]) (t := []) (σ' := σ) (fun f => rfl) (by omega) (by omega) rfl ?_
  refine pi_aq 5 (u := 3) (n := 4) (a := 47) (c := 54) (pc' := 33) (l' := [some (.ref 0), some (.int (nI 0)), some (.int i), some (.int (nI 3)), some (.int j), some (.int n), some (.ref 48), none]) (t := []) (σ' := σ) (fun f => rfl) (by omega) (by omega) rfl ?_
  refine pi_ca 3 (m' := 36) (l' := [some (.ref 48)]) (σ' := σ) (pc2 := 40) (l2 := [some (.ref 0), some (.int (nI 0)), some (.int i), some (.int (nI 3)), some (.int j), some (.int n), some (.ref 48), some (.ref 54)]) (t := []) (fun f => rfl) (pi_C_lost0_f hR.k hs1) ?_
  rintro _ _ ⟨rfl, rfl⟩
  refine pi_ct 1 (c := nI 0 = 0) (pc' := 43) (l' := [some (.ref 0), some (.int (nI 0)), some (.int i), some (.int (nI 3)), some (.int j), some (.int n), some (.ref 48), some (.ref 54)]) (st' := []) (σ' := σ) (pc2 := 51) (l2 := [some (.ref 0), some (.int (nI 0)), some (.int i), some (.int (nI 3)), some (.int j), some (.int n), some (.ref 48), some (.ref 54)]) (st2 := []) (σ2 := σ) (fun f => rfl) (by decide) ?_
  refine pi_ca 2 (m' := 36) (l' := [some (.ref 54)]) (σ' := σ) (pc2 := 48) (l2 := [some (.ref 0), some (.int (nI 0)), some (.int i), some (.int (nI 3)), some (.int j), some (.int n), some (.ref 48), some (.ref 54)]) (t := []) (fun f => rfl) (pi_C_lost3_f hR.k ht1) ?_
  rintro _ _ ⟨rfl, rfl⟩
  refine pi_ct 1 (c := nI 0 = 0) (pc' := 57) (l' := [some (.ref 0), some (.int (nI 0)), some (.int i), some (.int (nI 3)), some (.int j), some (.int n), some (.ref 48), some (.ref 54)]) (st' := []) (σ' := σ) (pc2 := 51) (l2 := [some (.ref 0), some (.int (nI 0)), some (.int i), some (.int (nI 3)), some (.int j), some (.int n), some (.ref 48), some (.ref 54)]) (st2 := []) (σ2 := σ) (fun f => rfl) (by decide) ?_
  refine pi_go 2 (pc' := 62) (l' := [some (.ref 0), some (.int (nI 0)), some (.int i), some (.int (nI 3)), some (.int j), some (.int n), some (.ref 48), some (.ref 54)]) (st' := [.int (σ 48 1)]) (σ' := σ) (fun f => rfl) ?_
  refine pi_tp (y := nI (W.fo 0)) (hR.k.p.sf0) ?_
  refine pi_go 2 (pc' := 67) (l' := [some (.ref 0), some (.int (nI 0)), some (.int i), some (.int (nI 3)), some (.int j), some (.int n), some (.ref 48), some (.ref 54)]) (st' := [.int (σ 54 1), .int (nI (W.fo 0))]) (σ' := σ) (fun f => rfl) ?_
  refine pi_tp (y := nI (W.fo 3)) (hR.k.p.sf3) ?_
  refine pi_cf 1 (c := nI (W.fo 0) = nI (W.fo 3)) (pc' := 70) (l' := [some (.ref 0), some (.int (nI 0)), some (.int i), some (.int (nI 3)), some (.int j), some (.int n), some (.ref 48), some (.ref 54)]) (st' := []) (σ' := σ) (pc2 := 76) (l2 := [some (.ref 0), some (.int (nI 0)), some (.int i), some (.int (nI 3)), some (.int j), some (.int n), some (.ref 48), some (.ref 54)]) (st2 := []) (σ2 := σ) (fun f => rfl) (fun q => h4 ((nI_eq (by omega) (by omega)).mp q)) ?_
  refine pi_ca 3 (m' := 96) (l' := [some (.ref 0), some (.int (nI 4))]) (σ' := σ) (pc2 := 75) (l2 := [some (.ref 0), some (.int (nI 0)), some (.int i), some (.int (nI 3)), some (.int j), some (.int n), some (.ref 48), some (.ref 54)]) (t := []) (fun f => rfl) (pi_C_found (nI 4)) ?_
  rintro _ t1 ⟨rfl, et1, kt1, rt1⟩
  refine pi_rt 1 (v := some (.int ((-10) - (nI 4)))) (σ' := t1) (fun f => rfl) ?_
  have hfr : pi_fr [0] t1 σ := pi_fr_tr rt1 (by decide) (pi_fr_rf)
  exact ⟨rfl, hR.fnd (et1) hfr, pi_fr_tr hfr (by decide) pi_fr_rf⟩
set_option maxRecDepth 20000 in
theorem pi_X_copy03_index {xs : Nat → Int32} {L d : Nat} {W : zW} {σ : pi_S} (hR : z_CR W σ) {i j n : Int32} (hs1 : ¬ W.th 0 = 0) (ht1 : ¬ W.th 3 = 0) (h4 : W.fo 0 = W.fo 3) (hb : ¬ z_cp W 0 3 i j n)  : pi_wp xs L (d + 9) 90 0 [some (.ref 0), some (.int (nI 0)), some (.int i), some (.int (nI 3)), some (.int j), some (.int n), none, none] [] σ (fun v s => v = some (.int ((-10) - (nI 2))) ∧ z_CR (W.sS 0 (nI 2)) s ∧ pi_fr z_CC s σ) := by
  have hk := hR.k.p.wk
  have hnd8 := hk.wd.nd8
  have hns12 := hk.wd.ns12
  have hn60 := hk.nine
  have hnf := hk.nf
  have hnw := hk.nw
  have hnc := hk.nc
  have hn08 := hk.wd.n0
  have hn140 := hk.wd.n1
  have hsi := hk.si 0 (by omega)
  have hti := hk.si 3 (by omega)
  refine pi_ca 3 (m' := 94) (l' := [some (.int (nI 0)), some (.int (nI 4))]) (σ' := σ) (pc2 := 5) (l2 := [some (.ref 0), some (.int (nI 0)), some (.int i), some (.int (nI 3)), some (.int j), some (.int n), none, none]) (t := []) (fun f => rfl) (pi_below1 _ _ (z_BL (by omega) (by omega))) ?_
  rintro _ _ ⟨rfl, rfl⟩
  refine pi_cf 1 (c := nI 1 = 0) (pc' := 8) (l' := [some (.ref 0), some (.int (nI 0)), some (.int i), some (.int (nI 3)), some (.int j), some (.int n), none, none]) (st' := []) (σ' := σ) (pc2 := 16) (l2 := [some (.ref 0), some (.int (nI 0)), some (.int i), some (.int (nI 3)), some (.int j), some (.int n), none, none]) (st2 := []) (σ2 := σ) (fun f => rfl) (by decide) ?_
  refine pi_ca 3 (m' := 94) (l' := [some (.int (nI 3)), some (.int (nI 4))]) (σ' := σ) (pc2 := 13) (l2 := [some (.ref 0), some (.int (nI 0)), some (.int i), some (.int (nI 3)), some (.int j), some (.int n), none, none]) (t := []) (fun f => rfl) (pi_below1 _ _ (z_BL (by omega) (by omega))) ?_
  rintro _ _ ⟨rfl, rfl⟩
  refine pi_cf 1 (c := nI 1 = 0) (pc' := 19) (l' := [some (.ref 0), some (.int (nI 0)), some (.int i), some (.int (nI 3)), some (.int j), some (.int n), none, none]) (st' := []) (σ' := σ) (pc2 := 16) (l2 := [some (.ref 0), some (.int (nI 0)), some (.int i), some (.int (nI 3)), some (.int j), some (.int n), none, none]) (st2 := []) (σ2 := σ) (fun f => rfl) (by decide) ?_
  refine pi_aq 4 (u := 0) (n := 4) (a := 47) (c := 48) (pc' := 25) (l' := [some (.ref 0), some (.int (nI 0)), some (.int i), some (.int (nI 3)), some (.int j), some (.int n), none, none]) (t := []) (σ' := σ) (fun f => rfl) (by omega) (by omega) rfl ?_
  refine pi_aq 5 (u := 3) (n := 4) (a := 47) (c := 54) (pc' := 33) (l' := [some (.ref 0), some (.int (nI 0)), some (.int i), some (.int (nI 3)), some (.int j), some (.int n), some (.ref 48), none]) (t := []) (σ' := σ) (fun f => rfl) (by omega) (by omega) rfl ?_
  refine pi_ca 3 (m' := 36) (l' := [some (.ref 48)]) (σ' := σ) (pc2 := 40) (l2 := [some (.ref 0), some (.int (nI 0)), some (.int i), some (.int (nI 3)), some (.int j), some (.int n), some (.ref 48), some (.ref 54)]) (t := []) (fun f => rfl) (pi_C_lost0_f hR.k hs1) ?_
  rintro _ _ ⟨rfl, rfl⟩
  refine pi_ct 1 (c := nI 0 = 0) (pc' := 43) (l' := [some (.ref 0), some (.int (nI 0)), some (.int i), some (.int (nI 3)), some (.int j), some (.int n), some (.ref 48), some (.ref 54)]) (st' := []) (σ' := σ) (pc2 := 51) (l2 := [some (.ref 0), some (.int (nI 0)), some (.int i), some (.int (nI 3)), some (.int j), some (.int n), some (.ref 48), some (.ref 54)]) (st2 := []) (σ2 := σ) (fun f => rfl) (by decide) ?_
  refine pi_ca 2 (m' := 36) (l' := [some (.ref 54)]) (σ' := σ) (pc2 := 48) (l2 := [some (.ref 0), some (.int (nI 0)), some (.int i), some (.int (nI 3)), some (.int j), some (.int n), some (.ref 48), some (.ref 54)]) (t := []) (fun f => rfl) (pi_C_lost3_f hR.k ht1) ?_
  rintro _ _ ⟨rfl, rfl⟩
  refine pi_ct 1 (c := nI 0 = 0) (pc' := 57) (l' := [some (.ref 0), some (.int (nI 0)), some (.int i), some (.int (nI 3)), some (.int j), some (.int n), some (.ref 48), some (.ref 54)]) (st' := []) (σ' := σ) (pc2 := 51) (l2 := [some (.ref 0), some (.int (nI 0)), some (.int i), some (.int (nI 3)), some (.int j), some (.int n), some (.ref 48), some (.ref 54)]) (st2 := []) (σ2 := σ) (fun f => rfl) (by decide) ?_
  refine pi_go 2 (pc' := 62) (l' := [some (.ref 0), some (.int (nI 0)), some (.int i), some (.int (nI 3)), some (.int j), some (.int n), some (.ref 48), some (.ref 54)]) (st' := [.int (σ 48 1)]) (σ' := σ) (fun f => rfl) ?_
  refine pi_tp (y := nI (W.fo 0)) (hR.k.p.sf0) ?_
  refine pi_go 2 (pc' := 67) (l' := [some (.ref 0), some (.int (nI 0)), some (.int i), some (.int (nI 3)), some (.int j), some (.int n), some (.ref 48), some (.ref 54)]) (st' := [.int (σ 54 1), .int (nI (W.fo 0))]) (σ' := σ) (fun f => rfl) ?_
  refine pi_tp (y := nI (W.fo 3)) (hR.k.p.sf3) ?_
  refine pi_ct 1 (c := nI (W.fo 0) = nI (W.fo 3)) (pc' := 76) (l' := [some (.ref 0), some (.int (nI 0)), some (.int i), some (.int (nI 3)), some (.int j), some (.int n), some (.ref 48), some (.ref 54)]) (st' := []) (σ' := σ) (pc2 := 70) (l2 := [some (.ref 0), some (.int (nI 0)), some (.int i), some (.int (nI 3)), some (.int j), some (.int n), some (.ref 48), some (.ref 54)]) (st2 := []) (σ2 := σ) (fun f => rfl) (congrArg nI h4) ?_
  refine pi_ca 4 (m' := 39) (l' := [some (.ref 48), some (.int i), some (.int n)]) (σ' := σ) (pc2 := 84) (l2 := [some (.ref 0), some (.int (nI 0)), some (.int i), some (.int (nI 3)), some (.int j), some (.int n), some (.ref 48), some (.ref 54)]) (t := []) (fun f => rfl) (pi_C_hasRun0 hR.k hs1 i n) ?_
  rintro _ _ (⟨b1, rfl, rfl⟩ | ⟨b1, rfl, rfl⟩)
  · refine pi_cf 1 (c := nI 1 = 0) (pc' := 87) (l' := [some (.ref 0), some (.int (nI 0)), some (.int i), some (.int (nI 3)), some (.int j), some (.int n), some (.ref 48), some (.ref 54)]) (st' := []) (σ' := σ) (pc2 := 99) (l2 := [some (.ref 0), some (.int (nI 0)), some (.int i), some (.int (nI 3)), some (.int j), some (.int n), some (.ref 48), some (.ref 54)]) (st2 := []) (σ2 := σ) (fun f => rfl) (by decide) ?_
    refine pi_ca 4 (m' := 39) (l' := [some (.ref 54), some (.int j), some (.int n)]) (σ' := σ) (pc2 := 96) (l2 := [some (.ref 0), some (.int (nI 0)), some (.int i), some (.int (nI 3)), some (.int j), some (.int n), some (.ref 48), some (.ref 54)]) (t := []) (fun f => rfl) (pi_C_hasRun3 hR.k ht1 j n) ?_
    rintro _ _ (⟨b2, rfl, rfl⟩ | ⟨b2, rfl, rfl⟩)
    · refine pi_cf 1 (c := nI 1 = 0) (pc' := 105) (l' := [some (.ref 0), some (.int (nI 0)), some (.int i), some (.int (nI 3)), some (.int j), some (.int n), some (.ref 48), some (.ref 54)]) (st' := []) (σ' := σ) (pc2 := 99) (l2 := [some (.ref 0), some (.int (nI 0)), some (.int i), some (.int (nI 3)), some (.int j), some (.int n), some (.ref 48), some (.ref 54)]) (st2 := []) (σ2 := σ) (fun f => rfl) (by decide) ?_
      exact (hb (z_cp_hr hsi.1 hti.1 b1 b2)).elim
    · refine pi_ct 1 (c := nI 0 = 0) (pc' := 99) (l' := [some (.ref 0), some (.int (nI 0)), some (.int i), some (.int (nI 3)), some (.int j), some (.int n), some (.ref 48), some (.ref 54)]) (st' := []) (σ' := σ) (pc2 := 105) (l2 := [some (.ref 0), some (.int (nI 0)), some (.int i), some (.int (nI 3)), some (.int j), some (.int n), some (.ref 48), some (.ref 54)]) (st2 := []) (σ2 := σ) (fun f => rfl) (by decide) ?_
      refine pi_ca 3 (m' := 96) (l' := [some (.ref 0), some (.int (nI 2))]) (σ' := σ) (pc2 := 104) (l2 := [some (.ref 0), some (.int (nI 0)), some (.int i), some (.int (nI 3)), some (.int j), some (.int n), some (.ref 48), some (.ref 54)]) (t := []) (fun f => rfl) (pi_C_found (nI 2)) ?_
      rintro _ t1 ⟨rfl, et1, kt1, rt1⟩
      refine pi_rt 1 (v := some (.int ((-10) - (nI 2)))) (σ' := t1) (fun f => rfl) ?_
      have hfr : pi_fr [0] t1 σ := pi_fr_tr rt1 (by decide) (pi_fr_rf)
      exact ⟨rfl, hR.fnd (et1) hfr, pi_fr_tr hfr (by decide) pi_fr_rf⟩
  · refine pi_ct 1 (c := nI 0 = 0) (pc' := 99) (l' := [some (.ref 0), some (.int (nI 0)), some (.int i), some (.int (nI 3)), some (.int j), some (.int n), some (.ref 48), some (.ref 54)]) (st' := []) (σ' := σ) (pc2 := 87) (l2 := [some (.ref 0), some (.int (nI 0)), some (.int i), some (.int (nI 3)), some (.int j), some (.int n), some (.ref 48), some (.ref 54)]) (st2 := []) (σ2 := σ) (fun f => rfl) (by decide) ?_
    refine pi_ca 3 (m' := 96) (l' := [some (.ref 0), some (.int (nI 2))]) (σ' := σ) (pc2 := 104) (l2 := [some (.ref 0), some (.int (nI 0)), some (.int i), some (.int (nI 3)), some (.int j), some (.int n), some (.ref 48), some (.ref 54)]) (t := []) (fun f => rfl) (pi_C_found (nI 2)) ?_
    rintro _ t2 ⟨rfl, et2, kt2, rt2⟩
    refine pi_rt 1 (v := some (.int ((-10) - (nI 2)))) (σ' := t2) (fun f => rfl) ?_
    have hfr : pi_fr [0] t2 σ := pi_fr_tr rt2 (by decide) (pi_fr_rf)
    exact ⟨rfl, hR.fnd (et2) hfr, pi_fr_tr hfr (by decide) pi_fr_rf⟩
set_option maxRecDepth 20000 in
theorem pi_X_copy03 {xs : Nat → Int32} {L d : Nat} {W : zW} {σ : pi_S} (hR : z_CR W σ) {i j n : Nat} (hs1 : ¬ W.th 0 = 0) (ht1 : ¬ W.th 3 = 0) (h4 : W.fo 0 = W.fo 3) (hi : i + n ≤ W.si 0) (hj : j + n ≤ W.si 3)  : pi_wp xs L (d + 9) 90 0 [some (.ref 0), some (.int (nI 0)), some (.int (nI i)), some (.int (nI 3)), some (.int (nI j)), some (.int (nI n)), none, none] [] σ (fun v s => v = some (.int (nI 1)) ∧ z_CR (W.sI 9 (pi_lp (fun q f => upd f (48 * 3 + j + q) (W.it (48 * 0 + i + q))) n W.it)) s ∧ pi_fr z_CC s σ) := by
  have hk := hR.k.p.wk
  have hnd8 := hk.wd.nd8
  have hns12 := hk.wd.ns12
  have hn60 := hk.nine
  have hnf := hk.nf
  have hnw := hk.nw
  have hnc := hk.nc
  have hn08 := hk.wd.n0
  have hn140 := hk.wd.n1
  have hsi := hk.si 0 (by omega)
  have hti := hk.si 3 (by omega)
  refine pi_ca 3 (m' := 94) (l' := [some (.int (nI 0)), some (.int (nI 4))]) (σ' := σ) (pc2 := 5) (l2 := [some (.ref 0), some (.int (nI 0)), some (.int (nI i)), some (.int (nI 3)), some (.int (nI j)), some (.int (nI n)), none, none]) (t := []) (fun f => rfl) (pi_below1 _ _ (z_BL (by omega) (by omega))) ?_
  rintro _ _ ⟨rfl, rfl⟩
  refine pi_cf 1 (c := nI 1 = 0) (pc' := 8) (l' := [some (.ref 0), some (.int (nI 0)), some (.int (nI i)), some (.int (nI 3)), some (.int (nI j)), some (.int (nI n)), none, none]) (st' := []) (σ' := σ) (pc2 := 16) (l2 := [some (.ref 0), some (.int (nI 0)), some (.int (nI i)), some (.int (nI 3)), some (.int (nI j)), some (.int (nI n)), none, none]) (st2 := []) (σ2 := σ) (fun f => rfl) (by decide) ?_
  refine pi_ca 3 (m' := 94) (l' := [some (.int (nI 3)), some (.int (nI 4))]) (σ' := σ) (pc2 := 13) (l2 := [some (.ref 0), some (.int (nI 0)), some (.int (nI i)), some (.int (nI 3)), some (.int (nI j)), some (.int (nI n)), none, none]) (t := []) (fun f => rfl) (pi_below1 _ _ (z_BL (by omega) (by omega))) ?_
  rintro _ _ ⟨rfl, rfl⟩
  refine pi_cf 1 (c := nI 1 = 0) (pc' := 19) (l' := [some (.ref 0), some (.int (nI 0)), some (.int (nI i)), some (.int (nI 3)), some (.int (nI j)), some (.int (nI n)), none, none]) (st' := []) (σ' := σ) (pc2 := 16) (l2 := [some (.ref 0), some (.int (nI 0)), some (.int (nI i)), some (.int (nI 3)), some (.int (nI j)), some (.int (nI n)), none, none]) (st2 := []) (σ2 := σ) (fun f => rfl) (by decide) ?_
  refine pi_aq 4 (u := 0) (n := 4) (a := 47) (c := 48) (pc' := 25) (l' := [some (.ref 0), some (.int (nI 0)), some (.int (nI i)), some (.int (nI 3)), some (.int (nI j)), some (.int (nI n)), none, none]) (t := []) (σ' := σ) (fun f => rfl) (by omega) (by omega) rfl ?_
  refine pi_aq 5 (u := 3) (n := 4) (a := 47) (c := 54) (pc' := 33) (l' := [some (.ref 0), some (.int (nI 0)), some (.int (nI i)), some (.int (nI 3)), some (.int (nI j)), some (.int (nI n)), some (.ref 48), none]) (t := []) (σ' := σ) (fun f => rfl) (by omega) (by omega) rfl ?_
  refine pi_ca 3 (m' := 36) (l' := [some (.ref 48)]) (σ' := σ) (pc2 := 40) (l2 := [some (.ref 0), some (.int (nI 0)), some (.int (nI i)), some (.int (nI 3)), some (.int (nI j)), some (.int (nI n)), some (.ref 48), some (.ref 54)]) (t := []) (fun f => rfl) (pi_C_lost0_f hR.k hs1) ?_
  rintro _ _ ⟨rfl, rfl⟩
  refine pi_ct 1 (c := nI 0 = 0) (pc' := 43) (l' := [some (.ref 0), some (.int (nI 0)), some (.int (nI i)), some (.int (nI 3)), some (.int (nI j)), some (.int (nI n)), some (.ref 48), some (.ref 54)]) (st' := []) (σ' := σ) (pc2 := 51) (l2 := [some (.ref 0), some (.int (nI 0)), some (.int (nI i)), some (.int (nI 3)), some (.int (nI j)), some (.int (nI n)), some (.ref 48), some (.ref 54)]) (st2 := []) (σ2 := σ) (fun f => rfl) (by decide) ?_
  refine pi_ca 2 (m' := 36) (l' := [some (.ref 54)]) (σ' := σ) (pc2 := 48) (l2 := [some (.ref 0), some (.int (nI 0)), some (.int (nI i)), some (.int (nI 3)), some (.int (nI j)), some (.int (nI n)), some (.ref 48), some (.ref 54)]) (t := []) (fun f => rfl) (pi_C_lost3_f hR.k ht1) ?_
  rintro _ _ ⟨rfl, rfl⟩
  refine pi_ct 1 (c := nI 0 = 0) (pc' := 57) (l' := [some (.ref 0), some (.int (nI 0)), some (.int (nI i)), some (.int (nI 3)), some (.int (nI j)), some (.int (nI n)), some (.ref 48), some (.ref 54)]) (st' := []) (σ' := σ) (pc2 := 51) (l2 := [some (.ref 0), some (.int (nI 0)), some (.int (nI i)), some (.int (nI 3)), some (.int (nI j)), some (.int (nI n)), some (.ref 48), some (.ref 54)]) (st2 := []) (σ2 := σ) (fun f => rfl) (by decide) ?_
  refine pi_go 2 (pc' := 62) (l' := [some (.ref 0), some (.int (nI 0)), some (.int (nI i)), some (.int (nI 3)), some (.int (nI j)), some (.int (nI n)), some (.ref 48), some (.ref 54)]) (st' := [.int (σ 48 1)]) (σ' := σ) (fun f => rfl) ?_
  refine pi_tp (y := nI (W.fo 0)) (hR.k.p.sf0) ?_
  refine pi_go 2 (pc' := 67) (l' := [some (.ref 0), some (.int (nI 0)), some (.int (nI i)), some (.int (nI 3)), some (.int (nI j)), some (.int (nI n)), some (.ref 48), some (.ref 54)]) (st' := [.int (σ 54 1), .int (nI (W.fo 0))]) (σ' := σ) (fun f => rfl) ?_
  refine pi_tp (y := nI (W.fo 3)) (hR.k.p.sf3) ?_
  refine pi_ct 1 (c := nI (W.fo 0) = nI (W.fo 3)) (pc' := 76) (l' := [some (.ref 0), some (.int (nI 0)), some (.int (nI i)), some (.int (nI 3)), some (.int (nI j)), some (.int (nI n)), some (.ref 48), some (.ref 54)]) (st' := []) (σ' := σ) (pc2 := 70) (l2 := [some (.ref 0), some (.int (nI 0)), some (.int (nI i)), some (.int (nI 3)), some (.int (nI j)), some (.int (nI n)), some (.ref 48), some (.ref 54)]) (st2 := []) (σ2 := σ) (fun f => rfl) (congrArg nI h4) ?_
  refine pi_ca 4 (m' := 39) (l' := [some (.ref 48), some (.int (nI i)), some (.int (nI n))]) (σ' := σ) (pc2 := 84) (l2 := [some (.ref 0), some (.int (nI 0)), some (.int (nI i)), some (.int (nI 3)), some (.int (nI j)), some (.int (nI n)), some (.ref 48), some (.ref 54)]) (t := []) (fun f => rfl) (pi_C_hasRun0T hR.k hs1 ⟨i, n, rfl, rfl, hi⟩) ?_
  rintro _ _ ⟨rfl, rfl⟩
  refine pi_cf 1 (c := nI 1 = 0) (pc' := 87) (l' := [some (.ref 0), some (.int (nI 0)), some (.int (nI i)), some (.int (nI 3)), some (.int (nI j)), some (.int (nI n)), some (.ref 48), some (.ref 54)]) (st' := []) (σ' := σ) (pc2 := 99) (l2 := [some (.ref 0), some (.int (nI 0)), some (.int (nI i)), some (.int (nI 3)), some (.int (nI j)), some (.int (nI n)), some (.ref 48), some (.ref 54)]) (st2 := []) (σ2 := σ) (fun f => rfl) (by decide) ?_
  refine pi_ca 4 (m' := 39) (l' := [some (.ref 54), some (.int (nI j)), some (.int (nI n))]) (σ' := σ) (pc2 := 96) (l2 := [some (.ref 0), some (.int (nI 0)), some (.int (nI i)), some (.int (nI 3)), some (.int (nI j)), some (.int (nI n)), some (.ref 48), some (.ref 54)]) (t := []) (fun f => rfl) (pi_C_hasRun3T hR.k ht1 ⟨j, n, rfl, rfl, hj⟩) ?_
  rintro _ _ ⟨rfl, rfl⟩
  refine pi_cf 1 (c := nI 1 = 0) (pc' := 105) (l' := [some (.ref 0), some (.int (nI 0)), some (.int (nI i)), some (.int (nI 3)), some (.int (nI j)), some (.int (nI n)), some (.ref 48), some (.ref 54)]) (st' := []) (σ' := σ) (pc2 := 99) (l2 := [some (.ref 0), some (.int (nI 0)), some (.int (nI i)), some (.int (nI 3)), some (.int (nI j)), some (.int (nI n)), some (.ref 48), some (.ref 54)]) (st2 := []) (σ2 := σ) (fun f => rfl) (by decide) ?_
  refine pi_go 7 (pc' := 120) (l' := [some (.ref 0), some (.int (nI 0)), some (.int (nI i)), some (.int (nI 3)), some (.int (nI j)), some (.int (nI n)), some (.ref 48), some (.ref 54)]) (st' := [.int (nI n), .int (nI j), .ref 55, .int (nI i), .ref 49]) (σ' := σ) (fun f => rfl) ?_
  refine pi_gd 1 (c := ¬ nI i < 0 ∧ ¬ nI j < 0 ∧ ¬ nI n < 0 ∧ (nI i).toNatClampNeg + (nI n).toNatClampNeg ≤ 48 ∧ (nI j).toNatClampNeg + (nI n).toNatClampNeg ≤ 48) (pc' := 123) (l' := [some (.ref 0), some (.int (nI 0)), some (.int (nI i)), some (.int (nI 3)), some (.int (nI j)), some (.int (nI n)), some (.ref 48), some (.ref 54)]) (st' := []) (σ' := pi_cpy σ 49 55 (nI i).toNatClampNeg (nI j).toNatClampNeg (nI n).toNatClampNeg) (fun f => rfl) ⟨z_ltz (by omega), z_ltz (by omega), z_ltz (by omega), by rw [nI_clamp (by omega), nI_clamp (by omega)]; omega, by rw [nI_clamp (by omega), nI_clamp (by omega)]; omega⟩ ?_
  rw [show (nI i).toNatClampNeg = i from nI_clamp (by omega), show (nI j).toNatClampNeg = j from nI_clamp (by omega), show (nI n).toNatClampNeg = n from nI_clamp (by omega)]
  generalize es1 : pi_cpy σ 49 55 i j n = s1
  have rs1 := pi_cpy_fr es1
  refine pi_rt 2 (v := some (.int (nI 1))) (σ' := s1) (fun f => rfl) ?_
  have hfr : pi_fr [55] s1 σ := pi_fr_tr rs1 (by decide) (pi_fr_rf)
  exact ⟨rfl, hR.it3 (fun q hq => (congrFun (pi_cpy_at es1) q).trans (z_cp_row hR.k.p.si0 hR.k.p.si3 (by omega) (by omega) q hq)) (z_cp_o (by omega)) hfr, pi_fr_tr hfr (by decide) pi_fr_rf⟩
set_option maxRecDepth 20000 in
theorem pi_X_copy10_null1 {xs : Nat → Int32} {L d : Nat} {W : zW} {σ : pi_S} (hR : z_CR W σ) {i j n : Int32} (hs0 : W.th 1 = 0)  : pi_wp xs L (d + 9) 90 0 [some (.ref 0), some (.int (nI 1)), some (.int i), some (.int (nI 0)), some (.int j), some (.int n), none, none] [] σ (fun v s => v = some (.int ((-10) - (nI 1))) ∧ z_CR (W.sS 0 (nI 1)) s ∧ pi_fr z_CC s σ) := by
  have hk := hR.k.p.wk
  have hnd8 := hk.wd.nd8
  have hns12 := hk.wd.ns12
  have hn60 := hk.nine
  have hnf := hk.nf
  have hnw := hk.nw
  have hnc := hk.nc
  have hn08 := hk.wd.n0
  have hn140 := hk.wd.n1
  have hsi := hk.si 1 (by omega)
  have hti := hk.si 0 (by omega)
  refine pi_ca 3 (m' := 94) (l' := [some (.int (nI 1)), some (.int (nI 4))]) (σ' := σ) (pc2 := 5) (l2 := [some (.ref 0), some (.int (nI 1)), some (.int i), some (.int (nI 0)), some (.int j), some (.int n), none, none]) (t := []) (fun f => rfl) (pi_below1 _ _ (z_BL (by omega) (by omega))) ?_
  rintro _ _ ⟨rfl, rfl⟩
  refine pi_cf 1 (c := nI 1 = 0) (pc' := 8) (l' := [some (.ref 0), some (.int (nI 1)), some (.int i), some (.int (nI 0)), some (.int j), some (.int n), none, none]) (st' := []) (σ' := σ) (pc2 := 16) (l2 := [some (.ref 0), some (.int (nI 1)), some (.int i), some (.int (nI 0)), some (.int j), some (.int n), none, none]) (st2 := []) (σ2 := σ) (fun f => rfl) (by decide) ?_
  refine pi_ca 3 (m' := 94) (l' := [some (.int (nI 0)), some (.int (nI 4))]) (σ' := σ) (pc2 := 13) (l2 := [some (.ref 0), some (.int (nI 1)), some (.int i), some (.int (nI 0)), some (.int j), some (.int n), none, none]) (t := []) (fun f => rfl) (pi_below1 _ _ (z_BL (by omega) (by omega))) ?_
  rintro _ _ ⟨rfl, rfl⟩
  refine pi_cf 1 (c := nI 1 = 0) (pc' := 19) (l' := [some (.ref 0), some (.int (nI 1)), some (.int i), some (.int (nI 0)), some (.int j), some (.int n), none, none]) (st' := []) (σ' := σ) (pc2 := 16) (l2 := [some (.ref 0), some (.int (nI 1)), some (.int i), some (.int (nI 0)), some (.int j), some (.int n), none, none]) (st2 := []) (σ2 := σ) (fun f => rfl) (by decide) ?_
  refine pi_aq 4 (u := 1) (n := 4) (a := 47) (c := 50) (pc' := 25) (l' := [some (.ref 0), some (.int (nI 1)), some (.int i), some (.int (nI 0)), some (.int j), some (.int n), none, none]) (t := []) (σ' := σ) (fun f => rfl) (by omega) (by omega) rfl ?_
  refine pi_aq 5 (u := 0) (n := 4) (a := 47) (c := 48) (pc' := 33) (l' := [some (.ref 0), some (.int (nI 1)), some (.int i), some (.int (nI 0)), some (.int j), some (.int n), some (.ref 50), none]) (t := []) (σ' := σ) (fun f => rfl) (by omega) (by omega) rfl ?_
  refine pi_ca 3 (m' := 36) (l' := [some (.ref 50)]) (σ' := σ) (pc2 := 40) (l2 := [some (.ref 0), some (.int (nI 1)), some (.int i), some (.int (nI 0)), some (.int j), some (.int n), some (.ref 50), some (.ref 48)]) (t := []) (fun f => rfl) (pi_C_lost1_t hR.k hs0) ?_
  rintro _ _ ⟨rfl, rfl⟩
  refine pi_cf 1 (c := nI 1 = 0) (pc' := 51) (l' := [some (.ref 0), some (.int (nI 1)), some (.int i), some (.int (nI 0)), some (.int j), some (.int n), some (.ref 50), some (.ref 48)]) (st' := []) (σ' := σ) (pc2 := 43) (l2 := [some (.ref 0), some (.int (nI 1)), some (.int i), some (.int (nI 0)), some (.int j), some (.int n), some (.ref 50), some (.ref 48)]) (st2 := []) (σ2 := σ) (fun f => rfl) (by decide) ?_
  refine pi_ca 3 (m' := 96) (l' := [some (.ref 0), some (.int (nI 1))]) (σ' := σ) (pc2 := 56) (l2 := [some (.ref 0), some (.int (nI 1)), some (.int i), some (.int (nI 0)), some (.int j), some (.int n), some (.ref 50), some (.ref 48)]) (t := []) (fun f => rfl) (pi_C_found (nI 1)) ?_
  rintro _ t1 ⟨rfl, et1, kt1, rt1⟩
  refine pi_rt 1 (v := some (.int ((-10) - (nI 1)))) (σ' := t1) (fun f => rfl) ?_
  have hfr : pi_fr [0] t1 σ := pi_fr_tr rt1 (by decide) (pi_fr_rf)
  exact ⟨rfl, hR.fnd (et1) hfr, pi_fr_tr hfr (by decide) pi_fr_rf⟩
set_option maxRecDepth 20000 in
theorem pi_X_copy10_null2 {xs : Nat → Int32} {L d : Nat} {W : zW} {σ : pi_S} (hR : z_CR W σ) {i j n : Int32} (hs1 : ¬ W.th 1 = 0) (ht0 : W.th 0 = 0)  : pi_wp xs L (d + 9) 90 0 [some (.ref 0), some (.int (nI 1)), some (.int i), some (.int (nI 0)), some (.int j), some (.int n), none, none] [] σ (fun v s => v = some (.int ((-10) - (nI 1))) ∧ z_CR (W.sS 0 (nI 1)) s ∧ pi_fr z_CC s σ) := by
  have hk := hR.k.p.wk
  have hnd8 := hk.wd.nd8
  have hns12 := hk.wd.ns12
  have hn60 := hk.nine
  have hnf := hk.nf
  have hnw := hk.nw
  have hnc := hk.nc
  have hn08 := hk.wd.n0
  have hn140 := hk.wd.n1
  have hsi := hk.si 1 (by omega)
  have hti := hk.si 0 (by omega)
  refine pi_ca 3 (m' := 94) (l' := [some (.int (nI 1)), some (.int (nI 4))]) (σ' := σ) (pc2 := 5) (l2 := [some (.ref 0), some (.int (nI 1)), some (.int i), some (.int (nI 0)), some (.int j), some (.int n), none, none]) (t := []) (fun f => rfl) (pi_below1 _ _ (z_BL (by omega) (by omega))) ?_
  rintro _ _ ⟨rfl, rfl⟩
  refine pi_cf 1 (c := nI 1 = 0) (pc' := 8) (l' := [some (.ref 0), some (.int (nI 1)), some (.int i), some (.int (nI 0)), some (.int j), some (.int n), none, none]) (st' := []) (σ' := σ) (pc2 := 16) (l2 := [some (.ref 0), some (.int (nI 1)), some (.int i), some (.int (nI 0)), some (.int j), some (.int n), none, none]) (st2 := []) (σ2 := σ) (fun f => rfl) (by decide) ?_
  refine pi_ca 3 (m' := 94) (l' := [some (.int (nI 0)), some (.int (nI 4))]) (σ' := σ) (pc2 := 13) (l2 := [some (.ref 0), some (.int (nI 1)), some (.int i), some (.int (nI 0)), some (.int j), some (.int n), none, none]) (t := []) (fun f => rfl) (pi_below1 _ _ (z_BL (by omega) (by omega))) ?_
  rintro _ _ ⟨rfl, rfl⟩
  refine pi_cf 1 (c := nI 1 = 0) (pc' := 19) (l' := [some (.ref 0), some (.int (nI 1)), some (.int i), some (.int (nI 0)), some (.int j), some (.int n), none, none]) (st' := []) (σ' := σ) (pc2 := 16) (l2 := [some (.ref 0), some (.int (nI 1)), some (.int i), some (.int (nI 0)), some (.int j), some (.int n), none, none]) (st2 := []) (σ2 := σ) (fun f => rfl) (by decide) ?_
  refine pi_aq 4 (u := 1) (n := 4) (a := 47) (c := 50) (pc' := 25) (l' := [some (.ref 0), some (.int (nI 1)), some (.int i), some (.int (nI 0)), some (.int j), some (.int n), none, none]) (t := []) (σ' := σ) (fun f => rfl) (by omega) (by omega) rfl ?_
  refine pi_aq 5 (u := 0) (n := 4) (a := 47) (c := 48) (pc' := 33) (l' := [some (.ref 0), some (.int (nI 1)), some (.int i), some (.int (nI 0)), some (.int j), some (.int n), some (.ref 50), none]) (t := []) (σ' := σ) (fun f => rfl) (by omega) (by omega) rfl ?_
  refine pi_ca 3 (m' := 36) (l' := [some (.ref 50)]) (σ' := σ) (pc2 := 40) (l2 := [some (.ref 0), some (.int (nI 1)), some (.int i), some (.int (nI 0)), some (.int j), some (.int n), some (.ref 50), some (.ref 48)]) (t := []) (fun f => rfl) (pi_C_lost1_f hR.k hs1) ?_
  rintro _ _ ⟨rfl, rfl⟩
  refine pi_ct 1 (c := nI 0 = 0) (pc' := 43) (l' := [some (.ref 0), some (.int (nI 1)), some (.int i), some (.int (nI 0)), some (.int j), some (.int n), some (.ref 50), some (.ref 48)]) (st' := []) (σ' := σ) (pc2 := 51) (l2 := [some (.ref 0), some (.int (nI 1)), some (.int i), some (.int (nI 0)), some (.int j), some (.int n), some (.ref 50), some (.ref 48)]) (st2 := []) (σ2 := σ) (fun f => rfl) (by decide) ?_
  refine pi_ca 2 (m' := 36) (l' := [some (.ref 48)]) (σ' := σ) (pc2 := 48) (l2 := [some (.ref 0), some (.int (nI 1)), some (.int i), some (.int (nI 0)), some (.int j), some (.int n), some (.ref 50), some (.ref 48)]) (t := []) (fun f => rfl) (pi_C_lost0_t hR.k ht0) ?_
  rintro _ _ ⟨rfl, rfl⟩
  refine pi_cf 1 (c := nI 1 = 0) (pc' := 51) (l' := [some (.ref 0), some (.int (nI 1)), some (.int i), some (.int (nI 0)), some (.int j), some (.int n), some (.ref 50), some (.ref 48)]) (st' := []) (σ' := σ) (pc2 := 57) (l2 := [some (.ref 0), some (.int (nI 1)), some (.int i), some (.int (nI 0)), some (.int j), some (.int n), some (.ref 50), some (.ref 48)]) (st2 := []) (σ2 := σ) (fun f => rfl) (by decide) ?_
  refine pi_ca 3 (m' := 96) (l' := [some (.ref 0), some (.int (nI 1))]) (σ' := σ) (pc2 := 56) (l2 := [some (.ref 0), some (.int (nI 1)), some (.int i), some (.int (nI 0)), some (.int j), some (.int n), some (.ref 50), some (.ref 48)]) (t := []) (fun f => rfl) (pi_C_found (nI 1)) ?_
  rintro _ t1 ⟨rfl, et1, kt1, rt1⟩
  refine pi_rt 1 (v := some (.int ((-10) - (nI 1)))) (σ' := t1) (fun f => rfl) ?_
  have hfr : pi_fr [0] t1 σ := pi_fr_tr rt1 (by decide) (pi_fr_rf)
  exact ⟨rfl, hR.fnd (et1) hfr, pi_fr_tr hfr (by decide) pi_fr_rf⟩
set_option maxRecDepth 20000 in
theorem pi_X_copy10_store {xs : Nat → Int32} {L d : Nat} {W : zW} {σ : pi_S} (hR : z_CR W σ) {i j n : Int32} (hs1 : ¬ W.th 1 = 0) (ht1 : ¬ W.th 0 = 0) (h4 : ¬ W.fo 1 = W.fo 0)  : pi_wp xs L (d + 9) 90 0 [some (.ref 0), some (.int (nI 1)), some (.int i), some (.int (nI 0)), some (.int j), some (.int n), none, none] [] σ (fun v s => v = some (.int ((-10) - (nI 4))) ∧ z_CR (W.sS 0 (nI 4)) s ∧ pi_fr z_CC s σ) := by
  have hk := hR.k.p.wk
  have hnd8 := hk.wd.nd8
  have hns12 := hk.wd.ns12
  have hn60 := hk.nine
  have hnf := hk.nf
  have hnw := hk.nw
  have hnc := hk.nc
  have hn08 := hk.wd.n0
  have hn140 := hk.wd.n1
  have hsi := hk.si 1 (by omega)
  have hti := hk.si 0 (by omega)
  refine pi_ca 3 (m' := 94) (l' := [some (.int (nI 1)), some (.int (nI 4))]) (σ' := σ) (pc2 := 5) (l2 := [some (.ref 0), some (.int (nI 1)), some (.int i), some (.int (nI 0)), some (.int j), some (.int n), none, none]) (t := []) (fun f => rfl) (pi_below1 _ _ (z_BL (by omega) (by omega))) ?_
  rintro _ _ ⟨rfl, rfl⟩
  refine pi_cf 1 (c := nI 1 = 0) (pc' := 8) (l' := [some (.ref 0), some (.int (nI 1)), some (.int i), some (.int (nI 0)), some (.int j), some (.int n), none, none]) (st' := []) (σ' := σ) (pc2 := 16) (l2 := [some (.ref 0), some (.int (nI 1)), some (.int i), some (.int (nI 0)), some (.int j), some (.int n), none, none]) (st2 := []) (σ2 := σ) (fun f => rfl) (by decide) ?_
  refine pi_ca 3 (m' := 94) (l' := [some (.int (nI 0)), some (.int (nI 4))]) (σ' := σ) (pc2 := 13) (l2 := [some (.ref 0), some (.int (nI 1)), some (.int i), some (.int (nI 0)), some (.int j), some (.int n), none, none]) (t := []) (fun f => rfl) (pi_below1 _ _ (z_BL (by omega) (by omega))) ?_
  rintro _ _ ⟨rfl, rfl⟩
  refine pi_cf 1 (c := nI 1 = 0) (pc' := 19) (l' := [some (.ref 0), some (.int (nI 1)), some (.int i), some (.int (nI 0)), some (.int j), some (.int n), none, none]) (st' := []) (σ' := σ) (pc2 := 16) (l2 := [some (.ref 0), some (.int (nI 1)), some (.int i), some (.int (nI 0)), some (.int j), some (.int n), none, none]) (st2 := []) (σ2 := σ) (fun f => rfl) (by decide) ?_
  refine pi_aq 4 (u := 1) (n := 4) (a := 47) (c := 50) (pc' := 25) (l' := [some (.ref 0), some (.int (nI 1)), some (.int i), some (.int (nI 0)), some (.int j), some (.int n), none, none]) (t := []) (σ' := σ) (fun f => rfl) (by omega) (by omega) rfl ?_
  refine pi_aq 5 (u := 0) (n := 4) (a := 47) (c := 48) (pc' := 33) (l' := [some (.ref 0), some (.int (nI 1)), some (.int i), some (.int (nI 0)), some (.int j), some (.int n), some (.ref 50), none]) (t := []) (σ' := σ) (fun f => rfl) (by omega) (by omega) rfl ?_
  refine pi_ca 3 (m' := 36) (l' := [some (.ref 50)]) (σ' := σ) (pc2 := 40) (l2 := [some (.ref 0), some (.int (nI 1)), some (.int i), some (.int (nI 0)), some (.int j), some (.int n), some (.ref 50), some (.ref 48)]) (t := []) (fun f => rfl) (pi_C_lost1_f hR.k hs1) ?_
  rintro _ _ ⟨rfl, rfl⟩
  refine pi_ct 1 (c := nI 0 = 0) (pc' := 43) (l' := [some (.ref 0), some (.int (nI 1)), some (.int i), some (.int (nI 0)), some (.int j), some (.int n), some (.ref 50), some (.ref 48)]) (st' := []) (σ' := σ) (pc2 := 51) (l2 := [some (.ref 0), some (.int (nI 1)), some (.int i), some (.int (nI 0)), some (.int j), some (.int n), some (.ref 50), some (.ref 48)]) (st2 := []) (σ2 := σ) (fun f => rfl) (by decide) ?_
  refine pi_ca 2 (m' := 36) (l' := [some (.ref 48)]) (σ' := σ) (pc2 := 48) (l2 := [some (.ref 0), some (.int (nI 1)), some (.int i), some (.int (nI 0)), some (.int j), some (.int n), some (.ref 50), some (.ref 48)]) (t := []) (fun f => rfl) (pi_C_lost0_f hR.k ht1) ?_
  rintro _ _ ⟨rfl, rfl⟩
  refine pi_ct 1 (c := nI 0 = 0) (pc' := 57) (l' := [some (.ref 0), some (.int (nI 1)), some (.int i), some (.int (nI 0)), some (.int j), some (.int n), some (.ref 50), some (.ref 48)]) (st' := []) (σ' := σ) (pc2 := 51) (l2 := [some (.ref 0), some (.int (nI 1)), some (.int i), some (.int (nI 0)), some (.int j), some (.int n), some (.ref 50), some (.ref 48)]) (st2 := []) (σ2 := σ) (fun f => rfl) (by decide) ?_
  refine pi_go 2 (pc' := 62) (l' := [some (.ref 0), some (.int (nI 1)), some (.int i), some (.int (nI 0)), some (.int j), some (.int n), some (.ref 50), some (.ref 48)]) (st' := [.int (σ 50 1)]) (σ' := σ) (fun f => rfl) ?_
  refine pi_tp (y := nI (W.fo 1)) (hR.k.p.sf1) ?_
  refine pi_go 2 (pc' := 67) (l' := [some (.ref 0), some (.int (nI 1)), some (.int i), some (.int (nI 0)), some (.int j), some (.int n), some (.ref 50), some (.ref 48)]) (st' := [.int (σ 48 1), .int (nI (W.fo 1))]) (σ' := σ) (fun f => rfl) ?_
  refine pi_tp (y := nI (W.fo 0)) (hR.k.p.sf0) ?_
  refine pi_cf 1 (c := nI (W.fo 1) = nI (W.fo 0)) (pc' := 70) (l' := [some (.ref 0), some (.int (nI 1)), some (.int i), some (.int (nI 0)), some (.int j), some (.int n), some (.ref 50), some (.ref 48)]) (st' := []) (σ' := σ) (pc2 := 76) (l2 := [some (.ref 0), some (.int (nI 1)), some (.int i), some (.int (nI 0)), some (.int j), some (.int n), some (.ref 50), some (.ref 48)]) (st2 := []) (σ2 := σ) (fun f => rfl) (fun q => h4 ((nI_eq (by omega) (by omega)).mp q)) ?_
  refine pi_ca 3 (m' := 96) (l' := [some (.ref 0), some (.int (nI 4))]) (σ' := σ) (pc2 := 75) (l2 := [some (.ref 0), some (.int (nI 1)), some (.int i), some (.int (nI 0)), some (.int j), some (.int n), some (.ref 50), some (.ref 48)]) (t := []) (fun f => rfl) (pi_C_found (nI 4)) ?_
  rintro _ t1 ⟨rfl, et1, kt1, rt1⟩
  refine pi_rt 1 (v := some (.int ((-10) - (nI 4)))) (σ' := t1) (fun f => rfl) ?_
  have hfr : pi_fr [0] t1 σ := pi_fr_tr rt1 (by decide) (pi_fr_rf)
  exact ⟨rfl, hR.fnd (et1) hfr, pi_fr_tr hfr (by decide) pi_fr_rf⟩
set_option maxRecDepth 20000 in
theorem pi_X_copy10_index {xs : Nat → Int32} {L d : Nat} {W : zW} {σ : pi_S} (hR : z_CR W σ) {i j n : Int32} (hs1 : ¬ W.th 1 = 0) (ht1 : ¬ W.th 0 = 0) (h4 : W.fo 1 = W.fo 0) (hb : ¬ z_cp W 1 0 i j n)  : pi_wp xs L (d + 9) 90 0 [some (.ref 0), some (.int (nI 1)), some (.int i), some (.int (nI 0)), some (.int j), some (.int n), none, none] [] σ (fun v s => v = some (.int ((-10) - (nI 2))) ∧ z_CR (W.sS 0 (nI 2)) s ∧ pi_fr z_CC s σ) := by
  have hk := hR.k.p.wk
  have hnd8 := hk.wd.nd8
  have hns12 := hk.wd.ns12
  have hn60 := hk.nine
  have hnf := hk.nf
  have hnw := hk.nw
  have hnc := hk.nc
  have hn08 := hk.wd.n0
  have hn140 := hk.wd.n1
  have hsi := hk.si 1 (by omega)
  have hti := hk.si 0 (by omega)
  refine pi_ca 3 (m' := 94) (l' := [some (.int (nI 1)), some (.int (nI 4))]) (σ' := σ) (pc2 := 5) (l2 := [some (.ref 0), some (.int (nI 1)), some (.int i), some (.int (nI 0)), some (.int j), some (.int n), none, none]) (t := []) (fun f => rfl) (pi_below1 _ _ (z_BL (by omega) (by omega))) ?_
  rintro _ _ ⟨rfl, rfl⟩
  refine pi_cf 1 (c := nI 1 = 0) (pc' := 8) (l' := [some (.ref 0), some (.int (nI 1)), some (.int i), some (.int (nI 0)), some (.int j), some (.int n), none, none]) (st' := []) (σ' := σ) (pc2 := 16) (l2 := [some (.ref 0), some (.int (nI 1)), some (.int i), some (.int (nI 0)), some (.int j), some (.int n), none, none]) (st2 := []) (σ2 := σ) (fun f => rfl) (by decide) ?_
  refine pi_ca 3 (m' := 94) (l' := [some (.int (nI 0)), some (.int (nI 4))]) (σ' := σ) (pc2 := 13) (l2 := [some (.ref 0), some (.int (nI 1)), some (.int i), some (.int (nI 0)), some (.int j), some (.int n), none, none]) (t := []) (fun f => rfl) (pi_below1 _ _ (z_BL (by omega) (by omega))) ?_
  rintro _ _ ⟨rfl, rfl⟩
  refine pi_cf 1 (c := nI 1 = 0) (pc' := 19) (l' := [some (.ref 0), some (.int (nI 1)), some (.int i), some (.int (nI 0)), some (.int j), some (.int n), none, none]) (st' := []) (σ' := σ) (pc2 := 16) (l2 := [some (.ref 0), some (.int (nI 1)), some (.int i), some (.int (nI 0)), some (.int j), some (.int n), none, none]) (st2 := []) (σ2 := σ) (fun f => rfl) (by decide) ?_
  refine pi_aq 4 (u := 1) (n := 4) (a := 47) (c := 50) (pc' := 25) (l' := [some (.ref 0), some (.int (nI 1)), some (.int i), some (.int (nI 0)), some (.int j), some (.int n), none, none]) (t := []) (σ' := σ) (fun f => rfl) (by omega) (by omega) rfl ?_
  refine pi_aq 5 (u := 0) (n := 4) (a := 47) (c := 48) (pc' := 33) (l' := [some (.ref 0), some (.int (nI 1)), some (.int i), some (.int (nI 0)), some (.int j), some (.int n), some (.ref 50), none]) (t := []) (σ' := σ) (fun f => rfl) (by omega) (by omega) rfl ?_
  refine pi_ca 3 (m' := 36) (l' := [some (.ref 50)]) (σ' := σ) (pc2 := 40) (l2 := [some (.ref 0), some (.int (nI 1)), some (.int i), some (.int (nI 0)), some (.int j), some (.int n), some (.ref 50), some (.ref 48)]) (t := []) (fun f => rfl) (pi_C_lost1_f hR.k hs1) ?_
  rintro _ _ ⟨rfl, rfl⟩
  refine pi_ct 1 (c := nI 0 = 0) (pc' := 43) (l' := [some (.ref 0), some (.int (nI 1)), some (.int i), some (.int (nI 0)), some (.int j), some (.int n), some (.ref 50), some (.ref 48)]) (st' := []) (σ' := σ) (pc2 := 51) (l2 := [some (.ref 0), some (.int (nI 1)), some (.int i), some (.int (nI 0)), some (.int j), some (.int n), some (.ref 50), some (.ref 48)]) (st2 := []) (σ2 := σ) (fun f => rfl) (by decide) ?_
  refine pi_ca 2 (m' := 36) (l' := [some (.ref 48)]) (σ' := σ) (pc2 := 48) (l2 := [some (.ref 0), some (.int (nI 1)), some (.int i), some (.int (nI 0)), some (.int j), some (.int n), some (.ref 50), some (.ref 48)]) (t := []) (fun f => rfl) (pi_C_lost0_f hR.k ht1) ?_
  rintro _ _ ⟨rfl, rfl⟩
  refine pi_ct 1 (c := nI 0 = 0) (pc' := 57) (l' := [some (.ref 0), some (.int (nI 1)), some (.int i), some (.int (nI 0)), some (.int j), some (.int n), some (.ref 50), some (.ref 48)]) (st' := []) (σ' := σ) (pc2 := 51) (l2 := [some (.ref 0), some (.int (nI 1)), some (.int i), some (.int (nI 0)), some (.int j), some (.int n), some (.ref 50), some (.ref 48)]) (st2 := []) (σ2 := σ) (fun f => rfl) (by decide) ?_
  refine pi_go 2 (pc' := 62) (l' := [some (.ref 0), some (.int (nI 1)), some (.int i), some (.int (nI 0)), some (.int j), some (.int n), some (.ref 50), some (.ref 48)]) (st' := [.int (σ 50 1)]) (σ' := σ) (fun f => rfl) ?_
  refine pi_tp (y := nI (W.fo 1)) (hR.k.p.sf1) ?_
  refine pi_go 2 (pc' := 67) (l' := [some (.ref 0), some (.int (nI 1)), some (.int i), some (.int (nI 0)), some (.int j), some (.int n), some (.ref 50), some (.ref 48)]) (st' := [.int (σ 48 1), .int (nI (W.fo 1))]) (σ' := σ) (fun f => rfl) ?_
  refine pi_tp (y := nI (W.fo 0)) (hR.k.p.sf0) ?_
  refine pi_ct 1 (c := nI (W.fo 1) = nI (W.fo 0)) (pc' := 76) (l' := [some (.ref 0), some (.int (nI 1)), some (.int i), some (.int (nI 0)), some (.int j), some (.int n), some (.ref 50), some (.ref 48)]) (st' := []) (σ' := σ) (pc2 := 70) (l2 := [some (.ref 0), some (.int (nI 1)), some (.int i), some (.int (nI 0)), some (.int j), some (.int n), some (.ref 50), some (.ref 48)]) (st2 := []) (σ2 := σ) (fun f => rfl) (congrArg nI h4) ?_
  refine pi_ca 4 (m' := 39) (l' := [some (.ref 50), some (.int i), some (.int n)]) (σ' := σ) (pc2 := 84) (l2 := [some (.ref 0), some (.int (nI 1)), some (.int i), some (.int (nI 0)), some (.int j), some (.int n), some (.ref 50), some (.ref 48)]) (t := []) (fun f => rfl) (pi_C_hasRun1 hR.k hs1 i n) ?_
  rintro _ _ (⟨b1, rfl, rfl⟩ | ⟨b1, rfl, rfl⟩)
  · refine pi_cf 1 (c := nI 1 = 0) (pc' := 87) (l' := [some (.ref 0), some (.int (nI 1)), some (.int i), some (.int (nI 0)), some (.int j), some (.int n), some (.ref 50), some (.ref 48)]) (st' := []) (σ' := σ) (pc2 := 99) (l2 := [some (.ref 0), some (.int (nI 1)), some (.int i), some (.int (nI 0)), some (.int j), some (.int n), some (.ref 50), some (.ref 48)]) (st2 := []) (σ2 := σ) (fun f => rfl) (by decide) ?_
    refine pi_ca 4 (m' := 39) (l' := [some (.ref 48), some (.int j), some (.int n)]) (σ' := σ) (pc2 := 96) (l2 := [some (.ref 0), some (.int (nI 1)), some (.int i), some (.int (nI 0)), some (.int j), some (.int n), some (.ref 50), some (.ref 48)]) (t := []) (fun f => rfl) (pi_C_hasRun0 hR.k ht1 j n) ?_
    rintro _ _ (⟨b2, rfl, rfl⟩ | ⟨b2, rfl, rfl⟩)
    · refine pi_cf 1 (c := nI 1 = 0) (pc' := 105) (l' := [some (.ref 0), some (.int (nI 1)), some (.int i), some (.int (nI 0)), some (.int j), some (.int n), some (.ref 50), some (.ref 48)]) (st' := []) (σ' := σ) (pc2 := 99) (l2 := [some (.ref 0), some (.int (nI 1)), some (.int i), some (.int (nI 0)), some (.int j), some (.int n), some (.ref 50), some (.ref 48)]) (st2 := []) (σ2 := σ) (fun f => rfl) (by decide) ?_
      exact (hb (z_cp_hr hsi.1 hti.1 b1 b2)).elim
    · refine pi_ct 1 (c := nI 0 = 0) (pc' := 99) (l' := [some (.ref 0), some (.int (nI 1)), some (.int i), some (.int (nI 0)), some (.int j), some (.int n), some (.ref 50), some (.ref 48)]) (st' := []) (σ' := σ) (pc2 := 105) (l2 := [some (.ref 0), some (.int (nI 1)), some (.int i), some (.int (nI 0)), some (.int j), some (.int n), some (.ref 50), some (.ref 48)]) (st2 := []) (σ2 := σ) (fun f => rfl) (by decide) ?_
      refine pi_ca 3 (m' := 96) (l' := [some (.ref 0), some (.int (nI 2))]) (σ' := σ) (pc2 := 104) (l2 := [some (.ref 0), some (.int (nI 1)), some (.int i), some (.int (nI 0)), some (.int j), some (.int n), some (.ref 50), some (.ref 48)]) (t := []) (fun f => rfl) (pi_C_found (nI 2)) ?_
      rintro _ t1 ⟨rfl, et1, kt1, rt1⟩
      refine pi_rt 1 (v := some (.int ((-10) - (nI 2)))) (σ' := t1) (fun f => rfl) ?_
      have hfr : pi_fr [0] t1 σ := pi_fr_tr rt1 (by decide) (pi_fr_rf)
      exact ⟨rfl, hR.fnd (et1) hfr, pi_fr_tr hfr (by decide) pi_fr_rf⟩
  · refine pi_ct 1 (c := nI 0 = 0) (pc' := 99) (l' := [some (.ref 0), some (.int (nI 1)), some (.int i), some (.int (nI 0)), some (.int j), some (.int n), some (.ref 50), some (.ref 48)]) (st' := []) (σ' := σ) (pc2 := 87) (l2 := [some (.ref 0), some (.int (nI 1)), some (.int i), some (.int (nI 0)), some (.int j), some (.int n), some (.ref 50), some (.ref 48)]) (st2 := []) (σ2 := σ) (fun f => rfl) (by decide) ?_
    refine pi_ca 3 (m' := 96) (l' := [some (.ref 0), some (.int (nI 2))]) (σ' := σ) (pc2 := 104) (l2 := [some (.ref 0), some (.int (nI 1)), some (.int i), some (.int (nI 0)), some (.int j), some (.int n), some (.ref 50), some (.ref 48)]) (t := []) (fun f => rfl) (pi_C_found (nI 2)) ?_
    rintro _ t2 ⟨rfl, et2, kt2, rt2⟩
    refine pi_rt 1 (v := some (.int ((-10) - (nI 2)))) (σ' := t2) (fun f => rfl) ?_
    have hfr : pi_fr [0] t2 σ := pi_fr_tr rt2 (by decide) (pi_fr_rf)
    exact ⟨rfl, hR.fnd (et2) hfr, pi_fr_tr hfr (by decide) pi_fr_rf⟩
set_option maxRecDepth 20000 in
theorem pi_X_copy10 {xs : Nat → Int32} {L d : Nat} {W : zW} {σ : pi_S} (hR : z_CR W σ) {i j n : Nat} (hs1 : ¬ W.th 1 = 0) (ht1 : ¬ W.th 0 = 0) (h4 : W.fo 1 = W.fo 0) (hi : i + n ≤ W.si 1) (hj : j + n ≤ W.si 0)  : pi_wp xs L (d + 9) 90 0 [some (.ref 0), some (.int (nI 1)), some (.int (nI i)), some (.int (nI 0)), some (.int (nI j)), some (.int (nI n)), none, none] [] σ (fun v s => v = some (.int (nI 1)) ∧ z_CR (W.sI 9 (pi_lp (fun q f => upd f (48 * 0 + j + q) (W.it (48 * 1 + i + q))) n W.it)) s ∧ pi_fr z_CC s σ) := by
  have hk := hR.k.p.wk
  have hnd8 := hk.wd.nd8
  have hns12 := hk.wd.ns12
  have hn60 := hk.nine
  have hnf := hk.nf
  have hnw := hk.nw
  have hnc := hk.nc
  have hn08 := hk.wd.n0
  have hn140 := hk.wd.n1
  have hsi := hk.si 1 (by omega)
  have hti := hk.si 0 (by omega)
  refine pi_ca 3 (m' := 94) (l' := [some (.int (nI 1)), some (.int (nI 4))]) (σ' := σ) (pc2 := 5) (l2 := [some (.ref 0), some (.int (nI 1)), some (.int (nI i)), some (.int (nI 0)), some (.int (nI j)), some (.int (nI n)), none, none]) (t := []) (fun f => rfl) (pi_below1 _ _ (z_BL (by omega) (by omega))) ?_
  rintro _ _ ⟨rfl, rfl⟩
  refine pi_cf 1 (c := nI 1 = 0) (pc' := 8) (l' := [some (.ref 0), some (.int (nI 1)), some (.int (nI i)), some (.int (nI 0)), some (.int (nI j)), some (.int (nI n)), none, none]) (st' := []) (σ' := σ) (pc2 := 16) (l2 := [some (.ref 0), some (.int (nI 1)), some (.int (nI i)), some (.int (nI 0)), some (.int (nI j)), some (.int (nI n)), none, none]) (st2 := []) (σ2 := σ) (fun f => rfl) (by decide) ?_
  refine pi_ca 3 (m' := 94) (l' := [some (.int (nI 0)), some (.int (nI 4))]) (σ' := σ) (pc2 := 13) (l2 := [some (.ref 0), some (.int (nI 1)), some (.int (nI i)), some (.int (nI 0)), some (.int (nI j)), some (.int (nI n)), none, none]) (t := []) (fun f => rfl) (pi_below1 _ _ (z_BL (by omega) (by omega))) ?_
  rintro _ _ ⟨rfl, rfl⟩
  refine pi_cf 1 (c := nI 1 = 0) (pc' := 19) (l' := [some (.ref 0), some (.int (nI 1)), some (.int (nI i)), some (.int (nI 0)), some (.int (nI j)), some (.int (nI n)), none, none]) (st' := []) (σ' := σ) (pc2 := 16) (l2 := [some (.ref 0), some (.int (nI 1)), some (.int (nI i)), some (.int (nI 0)), some (.int (nI j)), some (.int (nI n)), none, none]) (st2 := []) (σ2 := σ) (fun f => rfl) (by decide) ?_
  refine pi_aq 4 (u := 1) (n := 4) (a := 47) (c := 50) (pc' := 25) (l' := [some (.ref 0), some (.int (nI 1)), some (.int (nI i)), some (.int (nI 0)), some (.int (nI j)), some (.int (nI n)), none, none]) (t := []) (σ' := σ) (fun f => rfl) (by omega) (by omega) rfl ?_
  refine pi_aq 5 (u := 0) (n := 4) (a := 47) (c := 48) (pc' := 33) (l' := [some (.ref 0), some (.int (nI 1)), some (.int (nI i)), some (.int (nI 0)), some (.int (nI j)), some (.int (nI n)), some (.ref 50), none]) (t := []) (σ' := σ) (fun f => rfl) (by omega) (by omega) rfl ?_
  refine pi_ca 3 (m' := 36) (l' := [some (.ref 50)]) (σ' := σ) (pc2 := 40) (l2 := [some (.ref 0), some (.int (nI 1)), some (.int (nI i)), some (.int (nI 0)), some (.int (nI j)), some (.int (nI n)), some (.ref 50), some (.ref 48)]) (t := []) (fun f => rfl) (pi_C_lost1_f hR.k hs1) ?_
  rintro _ _ ⟨rfl, rfl⟩
  refine pi_ct 1 (c := nI 0 = 0) (pc' := 43) (l' := [some (.ref 0), some (.int (nI 1)), some (.int (nI i)), some (.int (nI 0)), some (.int (nI j)), some (.int (nI n)), some (.ref 50), some (.ref 48)]) (st' := []) (σ' := σ) (pc2 := 51) (l2 := [some (.ref 0), some (.int (nI 1)), some (.int (nI i)), some (.int (nI 0)), some (.int (nI j)), some (.int (nI n)), some (.ref 50), some (.ref 48)]) (st2 := []) (σ2 := σ) (fun f => rfl) (by decide) ?_
  refine pi_ca 2 (m' := 36) (l' := [some (.ref 48)]) (σ' := σ) (pc2 := 48) (l2 := [some (.ref 0), some (.int (nI 1)), some (.int (nI i)), some (.int (nI 0)), some (.int (nI j)), some (.int (nI n)), some (.ref 50), some (.ref 48)]) (t := []) (fun f => rfl) (pi_C_lost0_f hR.k ht1) ?_
  rintro _ _ ⟨rfl, rfl⟩
  refine pi_ct 1 (c := nI 0 = 0) (pc' := 57) (l' := [some (.ref 0), some (.int (nI 1)), some (.int (nI i)), some (.int (nI 0)), some (.int (nI j)), some (.int (nI n)), some (.ref 50), some (.ref 48)]) (st' := []) (σ' := σ) (pc2 := 51) (l2 := [some (.ref 0), some (.int (nI 1)), some (.int (nI i)), some (.int (nI 0)), some (.int (nI j)), some (.int (nI n)), some (.ref 50), some (.ref 48)]) (st2 := []) (σ2 := σ) (fun f => rfl) (by decide) ?_
  refine pi_go 2 (pc' := 62) (l' := [some (.ref 0), some (.int (nI 1)), some (.int (nI i)), some (.int (nI 0)), some (.int (nI j)), some (.int (nI n)), some (.ref 50), some (.ref 48)]) (st' := [.int (σ 50 1)]) (σ' := σ) (fun f => rfl) ?_
  refine pi_tp (y := nI (W.fo 1)) (hR.k.p.sf1) ?_
  refine pi_go 2 (pc' := 67) (l' := [some (.ref 0), some (.int (nI 1)), some (.int (nI i)), some (.int (nI 0)), some (.int (nI j)), some (.int (nI n)), some (.ref 50), some (.ref 48)]) (st' := [.int (σ 48 1), .int (nI (W.fo 1))]) (σ' := σ) (fun f => rfl) ?_
  refine pi_tp (y := nI (W.fo 0)) (hR.k.p.sf0) ?_
  refine pi_ct 1 (c := nI (W.fo 1) = nI (W.fo 0)) (pc' := 76) (l' := [some (.ref 0), some (.int (nI 1)), some (.int (nI i)), some (.int (nI 0)), some (.int (nI j)), some (.int (nI n)), some (.ref 50), some (.ref 48)]) (st' := []) (σ' := σ) (pc2 := 70) (l2 := [some (.ref 0), some (.int (nI 1)), some (.int (nI i)), some (.int (nI 0)), some (.int (nI j)), some (.int (nI n)), some (.ref 50), some (.ref 48)]) (st2 := []) (σ2 := σ) (fun f => rfl) (congrArg nI h4) ?_
  refine pi_ca 4 (m' := 39) (l' := [some (.ref 50), some (.int (nI i)), some (.int (nI n))]) (σ' := σ) (pc2 := 84) (l2 := [some (.ref 0), some (.int (nI 1)), some (.int (nI i)), some (.int (nI 0)), some (.int (nI j)), some (.int (nI n)), some (.ref 50), some (.ref 48)]) (t := []) (fun f => rfl) (pi_C_hasRun1T hR.k hs1 ⟨i, n, rfl, rfl, hi⟩) ?_
  rintro _ _ ⟨rfl, rfl⟩
  refine pi_cf 1 (c := nI 1 = 0) (pc' := 87) (l' := [some (.ref 0), some (.int (nI 1)), some (.int (nI i)), some (.int (nI 0)), some (.int (nI j)), some (.int (nI n)), some (.ref 50), some (.ref 48)]) (st' := []) (σ' := σ) (pc2 := 99) (l2 := [some (.ref 0), some (.int (nI 1)), some (.int (nI i)), some (.int (nI 0)), some (.int (nI j)), some (.int (nI n)), some (.ref 50), some (.ref 48)]) (st2 := []) (σ2 := σ) (fun f => rfl) (by decide) ?_
  refine pi_ca 4 (m' := 39) (l' := [some (.ref 48), some (.int (nI j)), some (.int (nI n))]) (σ' := σ) (pc2 := 96) (l2 := [some (.ref 0), some (.int (nI 1)), some (.int (nI i)), some (.int (nI 0)), some (.int (nI j)), some (.int (nI n)), some (.ref 50), some (.ref 48)]) (t := []) (fun f => rfl) (pi_C_hasRun0T hR.k ht1 ⟨j, n, rfl, rfl, hj⟩) ?_
  rintro _ _ ⟨rfl, rfl⟩
  refine pi_cf 1 (c := nI 1 = 0) (pc' := 105) (l' := [some (.ref 0), some (.int (nI 1)), some (.int (nI i)), some (.int (nI 0)), some (.int (nI j)), some (.int (nI n)), some (.ref 50), some (.ref 48)]) (st' := []) (σ' := σ) (pc2 := 99) (l2 := [some (.ref 0), some (.int (nI 1)), some (.int (nI i)), some (.int (nI 0)), some (.int (nI j)), some (.int (nI n)), some (.ref 50), some (.ref 48)]) (st2 := []) (σ2 := σ) (fun f => rfl) (by decide) ?_
  refine pi_go 7 (pc' := 120) (l' := [some (.ref 0), some (.int (nI 1)), some (.int (nI i)), some (.int (nI 0)), some (.int (nI j)), some (.int (nI n)), some (.ref 50), some (.ref 48)]) (st' := [.int (nI n), .int (nI j), .ref 49, .int (nI i), .ref 51]) (σ' := σ) (fun f => rfl) ?_
  refine pi_gd 1 (c := ¬ nI i < 0 ∧ ¬ nI j < 0 ∧ ¬ nI n < 0 ∧ (nI i).toNatClampNeg + (nI n).toNatClampNeg ≤ 48 ∧ (nI j).toNatClampNeg + (nI n).toNatClampNeg ≤ 48) (pc' := 123) (l' := [some (.ref 0), some (.int (nI 1)), some (.int (nI i)), some (.int (nI 0)), some (.int (nI j)), some (.int (nI n)), some (.ref 50), some (.ref 48)]) (st' := []) (σ' := pi_cpy σ 51 49 (nI i).toNatClampNeg (nI j).toNatClampNeg (nI n).toNatClampNeg) (fun f => rfl) ⟨z_ltz (by omega), z_ltz (by omega), z_ltz (by omega), by rw [nI_clamp (by omega), nI_clamp (by omega)]; omega, by rw [nI_clamp (by omega), nI_clamp (by omega)]; omega⟩ ?_
  rw [show (nI i).toNatClampNeg = i from nI_clamp (by omega), show (nI j).toNatClampNeg = j from nI_clamp (by omega), show (nI n).toNatClampNeg = n from nI_clamp (by omega)]
  generalize es1 : pi_cpy σ 51 49 i j n = s1
  have rs1 := pi_cpy_fr es1
  refine pi_rt 2 (v := some (.int (nI 1))) (σ' := s1) (fun f => rfl) ?_
  have hfr : pi_fr [49] s1 σ := pi_fr_tr rs1 (by decide) (pi_fr_rf)
  exact ⟨rfl, hR.it0 (fun q hq => (congrFun (pi_cpy_at es1) q).trans (z_cp_row hR.k.p.si1 hR.k.p.si0 (by omega) (by omega) q hq)) (z_cp_o (by omega)) hfr, pi_fr_tr hfr (by decide) pi_fr_rf⟩
set_option maxRecDepth 20000 in
theorem pi_X_copy11_null1 {xs : Nat → Int32} {L d : Nat} {W : zW} {σ : pi_S} (hR : z_CR W σ) {i j n : Int32} (hs0 : W.th 1 = 0)  : pi_wp xs L (d + 9) 90 0 [some (.ref 0), some (.int (nI 1)), some (.int i), some (.int (nI 1)), some (.int j), some (.int n), none, none] [] σ (fun v s => v = some (.int ((-10) - (nI 1))) ∧ z_CR (W.sS 0 (nI 1)) s ∧ pi_fr z_CC s σ) := by
  have hk := hR.k.p.wk
  have hnd8 := hk.wd.nd8
  have hns12 := hk.wd.ns12
  have hn60 := hk.nine
  have hnf := hk.nf
  have hnw := hk.nw
  have hnc := hk.nc
  have hn08 := hk.wd.n0
  have hn140 := hk.wd.n1
  have hsi := hk.si 1 (by omega)
  have hti := hk.si 1 (by omega)
  refine pi_ca 3 (m' := 94) (l' := [some (.int (nI 1)), some (.int (nI 4))]) (σ' := σ) (pc2 := 5) (l2 := [some (.ref 0), some (.int (nI 1)), some (.int i), some (.int (nI 1)), some (.int j), some (.int n), none, none]) (t := []) (fun f => rfl) (pi_below1 _ _ (z_BL (by omega) (by omega))) ?_
  rintro _ _ ⟨rfl, rfl⟩
  refine pi_cf 1 (c := nI 1 = 0) (pc' := 8) (l' := [some (.ref 0), some (.int (nI 1)), some (.int i), some (.int (nI 1)), some (.int j), some (.int n), none, none]) (st' := []) (σ' := σ) (pc2 := 16) (l2 := [some (.ref 0), some (.int (nI 1)), some (.int i), some (.int (nI 1)), some (.int j), some (.int n), none, none]) (st2 := []) (σ2 := σ) (fun f => rfl) (by decide) ?_
  refine pi_ca 3 (m' := 94) (l' := [some (.int (nI 1)), some (.int (nI 4))]) (σ' := σ) (pc2 := 13) (l2 := [some (.ref 0), some (.int (nI 1)), some (.int i), some (.int (nI 1)), some (.int j), some (.int n), none, none]) (t := []) (fun f => rfl) (pi_below1 _ _ (z_BL (by omega) (by omega))) ?_
  rintro _ _ ⟨rfl, rfl⟩
  refine pi_cf 1 (c := nI 1 = 0) (pc' := 19) (l' := [some (.ref 0), some (.int (nI 1)), some (.int i), some (.int (nI 1)), some (.int j), some (.int n), none, none]) (st' := []) (σ' := σ) (pc2 := 16) (l2 := [some (.ref 0), some (.int (nI 1)), some (.int i), some (.int (nI 1)), some (.int j), some (.int n), none, none]) (st2 := []) (σ2 := σ) (fun f => rfl) (by decide) ?_
  refine pi_aq 4 (u := 1) (n := 4) (a := 47) (c := 50) (pc' := 25) (l' := [some (.ref 0), some (.int (nI 1)), some (.int i), some (.int (nI 1)), some (.int j), some (.int n), none, none]) (t := []) (σ' := σ) (fun f => rfl) (by omega) (by omega) rfl ?_
  refine pi_aq 5 (u := 1) (n := 4) (a := 47) (c := 50) (pc' := 33) (l' := [some (.ref 0), some (.int (nI 1)), some (.int i), some (.int (nI 1)), some (.int j), some (.int n), some (.ref 50), none]) (t := []) (σ' := σ) (fun f => rfl) (by omega) (by omega) rfl ?_
  refine pi_ca 3 (m' := 36) (l' := [some (.ref 50)]) (σ' := σ) (pc2 := 40) (l2 := [some (.ref 0), some (.int (nI 1)), some (.int i), some (.int (nI 1)), some (.int j), some (.int n), some (.ref 50), some (.ref 50)]) (t := []) (fun f => rfl) (pi_C_lost1_t hR.k hs0) ?_
  rintro _ _ ⟨rfl, rfl⟩
  refine pi_cf 1 (c := nI 1 = 0) (pc' := 51) (l' := [some (.ref 0), some (.int (nI 1)), some (.int i), some (.int (nI 1)), some (.int j), some (.int n), some (.ref 50), some (.ref 50)]) (st' := []) (σ' := σ) (pc2 := 43) (l2 := [some (.ref 0), some (.int (nI 1)), some (.int i), some (.int (nI 1)), some (.int j), some (.int n), some (.ref 50), some (.ref 50)]) (st2 := []) (σ2 := σ) (fun f => rfl) (by decide) ?_
  refine pi_ca 3 (m' := 96) (l' := [some (.ref 0), some (.int (nI 1))]) (σ' := σ) (pc2 := 56) (l2 := [some (.ref 0), some (.int (nI 1)), some (.int i), some (.int (nI 1)), some (.int j), some (.int n), some (.ref 50), some (.ref 50)]) (t := []) (fun f => rfl) (pi_C_found (nI 1)) ?_
  rintro _ t1 ⟨rfl, et1, kt1, rt1⟩
  refine pi_rt 1 (v := some (.int ((-10) - (nI 1)))) (σ' := t1) (fun f => rfl) ?_
  have hfr : pi_fr [0] t1 σ := pi_fr_tr rt1 (by decide) (pi_fr_rf)
  exact ⟨rfl, hR.fnd (et1) hfr, pi_fr_tr hfr (by decide) pi_fr_rf⟩
set_option maxRecDepth 20000 in
theorem pi_X_copy11_index {xs : Nat → Int32} {L d : Nat} {W : zW} {σ : pi_S} (hR : z_CR W σ) {i j n : Int32} (hs1 : ¬ W.th 1 = 0) (ht1 : ¬ W.th 1 = 0) (h4 : W.fo 1 = W.fo 1) (hb : ¬ z_cp W 1 1 i j n)  : pi_wp xs L (d + 9) 90 0 [some (.ref 0), some (.int (nI 1)), some (.int i), some (.int (nI 1)), some (.int j), some (.int n), none, none] [] σ (fun v s => v = some (.int ((-10) - (nI 2))) ∧ z_CR (W.sS 0 (nI 2)) s ∧ pi_fr z_CC s σ) := by
  have hk := hR.k.p.wk
  have hnd8 := hk.wd.nd8
  have hns12 := hk.wd.ns12
  have hn60 := hk.nine
  have hnf := hk.nf
  have hnw := hk.nw
  have hnc := hk.nc
  have hn08 := hk.wd.n0
  have hn140 := hk.wd.n1
  have hsi := hk.si 1 (by omega)
  have hti := hk.si 1 (by omega)
  refine pi_ca 3 (m' := 94) (l' := [some (.int (nI 1)), some (.int (nI 4))]) (σ' := σ) (pc2 := 5) (l2 := [some (.ref 0), some (.int (nI 1)), some (.int i), some (.int (nI 1)), some (.int j), some (.int n), none, none]) (t := []) (fun f => rfl) (pi_below1 _ _ (z_BL (by omega) (by omega))) ?_
  rintro _ _ ⟨rfl, rfl⟩
  refine pi_cf 1 (c := nI 1 = 0) (pc' := 8) (l' := [some (.ref 0), some (.int (nI 1)), some (.int i), some (.int (nI 1)), some (.int j), some (.int n), none, none]) (st' := []) (σ' := σ) (pc2 := 16) (l2 := [some (.ref 0), some (.int (nI 1)), some (.int i), some (.int (nI 1)), some (.int j), some (.int n), none, none]) (st2 := []) (σ2 := σ) (fun f => rfl) (by decide) ?_
  refine pi_ca 3 (m' := 94) (l' := [some (.int (nI 1)), some (.int (nI 4))]) (σ' := σ) (pc2 := 13) (l2 := [some (.ref 0), some (.int (nI 1)), some (.int i), some (.int (nI 1)), some (.int j), some (.int n), none, none]) (t := []) (fun f => rfl) (pi_below1 _ _ (z_BL (by omega) (by omega))) ?_
  rintro _ _ ⟨rfl, rfl⟩
  refine pi_cf 1 (c := nI 1 = 0) (pc' := 19) (l' := [some (.ref 0), some (.int (nI 1)), some (.int i), some (.int (nI 1)), some (.int j), some (.int n), none, none]) (st' := []) (σ' := σ) (pc2 := 16) (l2 := [some (.ref 0), some (.int (nI 1)), some (.int i), some (.int (nI 1)), some (.int j), some (.int n), none, none]) (st2 := []) (σ2 := σ) (fun f => rfl) (by decide) ?_
  refine pi_aq 4 (u := 1) (n := 4) (a := 47) (c := 50) (pc' := 25) (l' := [some (.ref 0), some (.int (nI 1)), some (.int i), some (.int (nI 1)), some (.int j), some (.int n), none, none]) (t := []) (σ' := σ) (fun f => rfl) (by omega) (by omega) rfl ?_
  refine pi_aq 5 (u := 1) (n := 4) (a := 47) (c := 50) (pc' := 33) (l' := [some (.ref 0), some (.int (nI 1)), some (.int i), some (.int (nI 1)), some (.int j), some (.int n), some (.ref 50), none]) (t := []) (σ' := σ) (fun f => rfl) (by omega) (by omega) rfl ?_
  refine pi_ca 3 (m' := 36) (l' := [some (.ref 50)]) (σ' := σ) (pc2 := 40) (l2 := [some (.ref 0), some (.int (nI 1)), some (.int i), some (.int (nI 1)), some (.int j), some (.int n), some (.ref 50), some (.ref 50)]) (t := []) (fun f => rfl) (pi_C_lost1_f hR.k hs1) ?_
  rintro _ _ ⟨rfl, rfl⟩
  refine pi_ct 1 (c := nI 0 = 0) (pc' := 43) (l' := [some (.ref 0), some (.int (nI 1)), some (.int i), some (.int (nI 1)), some (.int j), some (.int n), some (.ref 50), some (.ref 50)]) (st' := []) (σ' := σ) (pc2 := 51) (l2 := [some (.ref 0), some (.int (nI 1)), some (.int i), some (.int (nI 1)), some (.int j), some (.int n), some (.ref 50), some (.ref 50)]) (st2 := []) (σ2 := σ) (fun f => rfl) (by decide) ?_
  refine pi_ca 2 (m' := 36) (l' := [some (.ref 50)]) (σ' := σ) (pc2 := 48) (l2 := [some (.ref 0), some (.int (nI 1)), some (.int i), some (.int (nI 1)), some (.int j), some (.int n), some (.ref 50), some (.ref 50)]) (t := []) (fun f => rfl) (pi_C_lost1_f hR.k hs1) ?_
  rintro _ _ ⟨rfl, rfl⟩
  refine pi_ct 1 (c := nI 0 = 0) (pc' := 57) (l' := [some (.ref 0), some (.int (nI 1)), some (.int i), some (.int (nI 1)), some (.int j), some (.int n), some (.ref 50), some (.ref 50)]) (st' := []) (σ' := σ) (pc2 := 51) (l2 := [some (.ref 0), some (.int (nI 1)), some (.int i), some (.int (nI 1)), some (.int j), some (.int n), some (.ref 50), some (.ref 50)]) (st2 := []) (σ2 := σ) (fun f => rfl) (by decide) ?_
  refine pi_go 2 (pc' := 62) (l' := [some (.ref 0), some (.int (nI 1)), some (.int i), some (.int (nI 1)), some (.int j), some (.int n), some (.ref 50), some (.ref 50)]) (st' := [.int (σ 50 1)]) (σ' := σ) (fun f => rfl) ?_
  refine pi_tp (y := nI (W.fo 1)) (hR.k.p.sf1) ?_
  refine pi_go 2 (pc' := 67) (l' := [some (.ref 0), some (.int (nI 1)), some (.int i), some (.int (nI 1)), some (.int j), some (.int n), some (.ref 50), some (.ref 50)]) (st' := [.int (σ 50 1), .int (nI (W.fo 1))]) (σ' := σ) (fun f => rfl) ?_
  refine pi_tp (y := nI (W.fo 1)) (hR.k.p.sf1) ?_
  refine pi_ct 1 (c := nI (W.fo 1) = nI (W.fo 1)) (pc' := 76) (l' := [some (.ref 0), some (.int (nI 1)), some (.int i), some (.int (nI 1)), some (.int j), some (.int n), some (.ref 50), some (.ref 50)]) (st' := []) (σ' := σ) (pc2 := 70) (l2 := [some (.ref 0), some (.int (nI 1)), some (.int i), some (.int (nI 1)), some (.int j), some (.int n), some (.ref 50), some (.ref 50)]) (st2 := []) (σ2 := σ) (fun f => rfl) ((show nI (W.fo 1) = nI (W.fo 1) ↔ _ from nI_eq (by omega) (by omega)).mpr (by omega)) ?_
  refine pi_ca 4 (m' := 39) (l' := [some (.ref 50), some (.int i), some (.int n)]) (σ' := σ) (pc2 := 84) (l2 := [some (.ref 0), some (.int (nI 1)), some (.int i), some (.int (nI 1)), some (.int j), some (.int n), some (.ref 50), some (.ref 50)]) (t := []) (fun f => rfl) (pi_C_hasRun1 hR.k hs1 i n) ?_
  rintro _ _ (⟨b1, rfl, rfl⟩ | ⟨b1, rfl, rfl⟩)
  · refine pi_cf 1 (c := nI 1 = 0) (pc' := 87) (l' := [some (.ref 0), some (.int (nI 1)), some (.int i), some (.int (nI 1)), some (.int j), some (.int n), some (.ref 50), some (.ref 50)]) (st' := []) (σ' := σ) (pc2 := 99) (l2 := [some (.ref 0), some (.int (nI 1)), some (.int i), some (.int (nI 1)), some (.int j), some (.int n), some (.ref 50), some (.ref 50)]) (st2 := []) (σ2 := σ) (fun f => rfl) (by decide) ?_
    refine pi_ca 4 (m' := 39) (l' := [some (.ref 50), some (.int j), some (.int n)]) (σ' := σ) (pc2 := 96) (l2 := [some (.ref 0), some (.int (nI 1)), some (.int i), some (.int (nI 1)), some (.int j), some (.int n), some (.ref 50), some (.ref 50)]) (t := []) (fun f => rfl) (pi_C_hasRun1 hR.k hs1 j n) ?_
    rintro _ _ (⟨b2, rfl, rfl⟩ | ⟨b2, rfl, rfl⟩)
    · refine pi_cf 1 (c := nI 1 = 0) (pc' := 105) (l' := [some (.ref 0), some (.int (nI 1)), some (.int i), some (.int (nI 1)), some (.int j), some (.int n), some (.ref 50), some (.ref 50)]) (st' := []) (σ' := σ) (pc2 := 99) (l2 := [some (.ref 0), some (.int (nI 1)), some (.int i), some (.int (nI 1)), some (.int j), some (.int n), some (.ref 50), some (.ref 50)]) (st2 := []) (σ2 := σ) (fun f => rfl) (by decide) ?_
      exact (hb (z_cp_hr hsi.1 hti.1 b1 b2)).elim
    · refine pi_ct 1 (c := nI 0 = 0) (pc' := 99) (l' := [some (.ref 0), some (.int (nI 1)), some (.int i), some (.int (nI 1)), some (.int j), some (.int n), some (.ref 50), some (.ref 50)]) (st' := []) (σ' := σ) (pc2 := 105) (l2 := [some (.ref 0), some (.int (nI 1)), some (.int i), some (.int (nI 1)), some (.int j), some (.int n), some (.ref 50), some (.ref 50)]) (st2 := []) (σ2 := σ) (fun f => rfl) (by decide) ?_
      refine pi_ca 3 (m' := 96) (l' := [some (.ref 0), some (.int (nI 2))]) (σ' := σ) (pc2 := 104) (l2 := [some (.ref 0), some (.int (nI 1)), some (.int i), some (.int (nI 1)), some (.int j), some (.int n), some (.ref 50), some (.ref 50)]) (t := []) (fun f => rfl) (pi_C_found (nI 2)) ?_
      rintro _ t1 ⟨rfl, et1, kt1, rt1⟩
      refine pi_rt 1 (v := some (.int ((-10) - (nI 2)))) (σ' := t1) (fun f => rfl) ?_
      have hfr : pi_fr [0] t1 σ := pi_fr_tr rt1 (by decide) (pi_fr_rf)
      exact ⟨rfl, hR.fnd (et1) hfr, pi_fr_tr hfr (by decide) pi_fr_rf⟩
  · refine pi_ct 1 (c := nI 0 = 0) (pc' := 99) (l' := [some (.ref 0), some (.int (nI 1)), some (.int i), some (.int (nI 1)), some (.int j), some (.int n), some (.ref 50), some (.ref 50)]) (st' := []) (σ' := σ) (pc2 := 87) (l2 := [some (.ref 0), some (.int (nI 1)), some (.int i), some (.int (nI 1)), some (.int j), some (.int n), some (.ref 50), some (.ref 50)]) (st2 := []) (σ2 := σ) (fun f => rfl) (by decide) ?_
    refine pi_ca 3 (m' := 96) (l' := [some (.ref 0), some (.int (nI 2))]) (σ' := σ) (pc2 := 104) (l2 := [some (.ref 0), some (.int (nI 1)), some (.int i), some (.int (nI 1)), some (.int j), some (.int n), some (.ref 50), some (.ref 50)]) (t := []) (fun f => rfl) (pi_C_found (nI 2)) ?_
    rintro _ t2 ⟨rfl, et2, kt2, rt2⟩
    refine pi_rt 1 (v := some (.int ((-10) - (nI 2)))) (σ' := t2) (fun f => rfl) ?_
    have hfr : pi_fr [0] t2 σ := pi_fr_tr rt2 (by decide) (pi_fr_rf)
    exact ⟨rfl, hR.fnd (et2) hfr, pi_fr_tr hfr (by decide) pi_fr_rf⟩
set_option maxRecDepth 20000 in
theorem pi_X_copy11 {xs : Nat → Int32} {L d : Nat} {W : zW} {σ : pi_S} (hR : z_CR W σ) {i j n : Nat} (hs1 : ¬ W.th 1 = 0) (ht1 : ¬ W.th 1 = 0) (h4 : W.fo 1 = W.fo 1) (hi : i + n ≤ W.si 1) (hj : j + n ≤ W.si 1)  : pi_wp xs L (d + 9) 90 0 [some (.ref 0), some (.int (nI 1)), some (.int (nI i)), some (.int (nI 1)), some (.int (nI j)), some (.int (nI n)), none, none] [] σ (fun v s => v = some (.int (nI 1)) ∧ z_CR (W.sI 9 (pi_lp (fun q f => upd f (48 * 1 + j + q) (W.it (48 * 1 + i + q))) n W.it)) s ∧ pi_fr z_CC s σ) := by
  have hk := hR.k.p.wk
  have hnd8 := hk.wd.nd8
  have hns12 := hk.wd.ns12
  have hn60 := hk.nine
  have hnf := hk.nf
  have hnw := hk.nw
  have hnc := hk.nc
  have hn08 := hk.wd.n0
  have hn140 := hk.wd.n1
  have hsi := hk.si 1 (by omega)
  have hti := hk.si 1 (by omega)
  refine pi_ca 3 (m' := 94) (l' := [some (.int (nI 1)), some (.int (nI 4))]) (σ' := σ) (pc2 := 5) (l2 := [some (.ref 0), some (.int (nI 1)), some (.int (nI i)), some (.int (nI 1)), some (.int (nI j)), some (.int (nI n)), none, none]) (t := []) (fun f => rfl) (pi_below1 _ _ (z_BL (by omega) (by omega))) ?_
  rintro _ _ ⟨rfl, rfl⟩
  refine pi_cf 1 (c := nI 1 = 0) (pc' := 8) (l' := [some (.ref 0), some (.int (nI 1)), some (.int (nI i)), some (.int (nI 1)), some (.int (nI j)), some (.int (nI n)), none, none]) (st' := []) (σ' := σ) (pc2 := 16) (l2 := [some (.ref 0), some (.int (nI 1)), some (.int (nI i)), some (.int (nI 1)), some (.int (nI j)), some (.int (nI n)), none, none]) (st2 := []) (σ2 := σ) (fun f => rfl) (by decide) ?_
  refine pi_ca 3 (m' := 94) (l' := [some (.int (nI 1)), some (.int (nI 4))]) (σ' := σ) (pc2 := 13) (l2 := [some (.ref 0), some (.int (nI 1)), some (.int (nI i)), some (.int (nI 1)), some (.int (nI j)), some (.int (nI n)), none, none]) (t := []) (fun f => rfl) (pi_below1 _ _ (z_BL (by omega) (by omega))) ?_
  rintro _ _ ⟨rfl, rfl⟩
  refine pi_cf 1 (c := nI 1 = 0) (pc' := 19) (l' := [some (.ref 0), some (.int (nI 1)), some (.int (nI i)), some (.int (nI 1)), some (.int (nI j)), some (.int (nI n)), none, none]) (st' := []) (σ' := σ) (pc2 := 16) (l2 := [some (.ref 0), some (.int (nI 1)), some (.int (nI i)), some (.int (nI 1)), some (.int (nI j)), some (.int (nI n)), none, none]) (st2 := []) (σ2 := σ) (fun f => rfl) (by decide) ?_
  refine pi_aq 4 (u := 1) (n := 4) (a := 47) (c := 50) (pc' := 25) (l' := [some (.ref 0), some (.int (nI 1)), some (.int (nI i)), some (.int (nI 1)), some (.int (nI j)), some (.int (nI n)), none, none]) (t := []) (σ' := σ) (fun f => rfl) (by omega) (by omega) rfl ?_
  refine pi_aq 5 (u := 1) (n := 4) (a := 47) (c := 50) (pc' := 33) (l' := [some (.ref 0), some (.int (nI 1)), some (.int (nI i)), some (.int (nI 1)), some (.int (nI j)), some (.int (nI n)), some (.ref 50), none]) (t := []) (σ' := σ) (fun f => rfl) (by omega) (by omega) rfl ?_
  refine pi_ca 3 (m' := 36) (l' := [some (.ref 50)]) (σ' := σ) (pc2 := 40) (l2 := [some (.ref 0), some (.int (nI 1)), some (.int (nI i)), some (.int (nI 1)), some (.int (nI j)), some (.int (nI n)), some (.ref 50), some (.ref 50)]) (t := []) (fun f => rfl) (pi_C_lost1_f hR.k hs1) ?_
  rintro _ _ ⟨rfl, rfl⟩
  refine pi_ct 1 (c := nI 0 = 0) (pc' := 43) (l' := [some (.ref 0), some (.int (nI 1)), some (.int (nI i)), some (.int (nI 1)), some (.int (nI j)), some (.int (nI n)), some (.ref 50), some (.ref 50)]) (st' := []) (σ' := σ) (pc2 := 51) (l2 := [some (.ref 0), some (.int (nI 1)), some (.int (nI i)), some (.int (nI 1)), some (.int (nI j)), some (.int (nI n)), some (.ref 50), some (.ref 50)]) (st2 := []) (σ2 := σ) (fun f => rfl) (by decide) ?_
  refine pi_ca 2 (m' := 36) (l' := [some (.ref 50)]) (σ' := σ) (pc2 := 48) (l2 := [some (.ref 0), some (.int (nI 1)), some (.int (nI i)), some (.int (nI 1)), some (.int (nI j)), some (.int (nI n)), some (.ref 50), some (.ref 50)]) (t := []) (fun f => rfl) (pi_C_lost1_f hR.k hs1) ?_
  rintro _ _ ⟨rfl, rfl⟩
  refine pi_ct 1 (c := nI 0 = 0) (pc' := 57) (l' := [some (.ref 0), some (.int (nI 1)), some (.int (nI i)), some (.int (nI 1)), some (.int (nI j)), some (.int (nI n)), some (.ref 50), some (.ref 50)]) (st' := []) (σ' := σ) (pc2 := 51) (l2 := [some (.ref 0), some (.int (nI 1)), some (.int (nI i)), some (.int (nI 1)), some (.int (nI j)), some (.int (nI n)), some (.ref 50), some (.ref 50)]) (st2 := []) (σ2 := σ) (fun f => rfl) (by decide) ?_
  refine pi_go 2 (pc' := 62) (l' := [some (.ref 0), some (.int (nI 1)), some (.int (nI i)), some (.int (nI 1)), some (.int (nI j)), some (.int (nI n)), some (.ref 50), some (.ref 50)]) (st' := [.int (σ 50 1)]) (σ' := σ) (fun f => rfl) ?_
  refine pi_tp (y := nI (W.fo 1)) (hR.k.p.sf1) ?_
  refine pi_go 2 (pc' := 67) (l' := [some (.ref 0), some (.int (nI 1)), some (.int (nI i)), some (.int (nI 1)), some (.int (nI j)), some (.int (nI n)), some (.ref 50), some (.ref 50)]) (st' := [.int (σ 50 1), .int (nI (W.fo 1))]) (σ' := σ) (fun f => rfl) ?_
  refine pi_tp (y := nI (W.fo 1)) (hR.k.p.sf1) ?_
  refine pi_ct 1 (c := nI (W.fo 1) = nI (W.fo 1)) (pc' := 76) (l' := [some (.ref 0), some (.int (nI 1)), some (.int (nI i)), some (.int (nI 1)), some (.int (nI j)), some (.int (nI n)), some (.ref 50), some (.ref 50)]) (st' := []) (σ' := σ) (pc2 := 70) (l2 := [some (.ref 0), some (.int (nI 1)), some (.int (nI i)), some (.int (nI 1)), some (.int (nI j)), some (.int (nI n)), some (.ref 50), some (.ref 50)]) (st2 := []) (σ2 := σ) (fun f => rfl) ((show nI (W.fo 1) = nI (W.fo 1) ↔ _ from nI_eq (by omega) (by omega)).mpr (by omega)) ?_
  refine pi_ca 4 (m' := 39) (l' := [some (.ref 50), some (.int (nI i)), some (.int (nI n))]) (σ' := σ) (pc2 := 84) (l2 := [some (.ref 0), some (.int (nI 1)), some (.int (nI i)), some (.int (nI 1)), some (.int (nI j)), some (.int (nI n)), some (.ref 50), some (.ref 50)]) (t := []) (fun f => rfl) (pi_C_hasRun1T hR.k hs1 ⟨i, n, rfl, rfl, hi⟩) ?_
  rintro _ _ ⟨rfl, rfl⟩
  refine pi_cf 1 (c := nI 1 = 0) (pc' := 87) (l' := [some (.ref 0), some (.int (nI 1)), some (.int (nI i)), some (.int (nI 1)), some (.int (nI j)), some (.int (nI n)), some (.ref 50), some (.ref 50)]) (st' := []) (σ' := σ) (pc2 := 99) (l2 := [some (.ref 0), some (.int (nI 1)), some (.int (nI i)), some (.int (nI 1)), some (.int (nI j)), some (.int (nI n)), some (.ref 50), some (.ref 50)]) (st2 := []) (σ2 := σ) (fun f => rfl) (by decide) ?_
  refine pi_ca 4 (m' := 39) (l' := [some (.ref 50), some (.int (nI j)), some (.int (nI n))]) (σ' := σ) (pc2 := 96) (l2 := [some (.ref 0), some (.int (nI 1)), some (.int (nI i)), some (.int (nI 1)), some (.int (nI j)), some (.int (nI n)), some (.ref 50), some (.ref 50)]) (t := []) (fun f => rfl) (pi_C_hasRun1T hR.k hs1 ⟨j, n, rfl, rfl, hj⟩) ?_
  rintro _ _ ⟨rfl, rfl⟩
  refine pi_cf 1 (c := nI 1 = 0) (pc' := 105) (l' := [some (.ref 0), some (.int (nI 1)), some (.int (nI i)), some (.int (nI 1)), some (.int (nI j)), some (.int (nI n)), some (.ref 50), some (.ref 50)]) (st' := []) (σ' := σ) (pc2 := 99) (l2 := [some (.ref 0), some (.int (nI 1)), some (.int (nI i)), some (.int (nI 1)), some (.int (nI j)), some (.int (nI n)), some (.ref 50), some (.ref 50)]) (st2 := []) (σ2 := σ) (fun f => rfl) (by decide) ?_
  refine pi_go 7 (pc' := 120) (l' := [some (.ref 0), some (.int (nI 1)), some (.int (nI i)), some (.int (nI 1)), some (.int (nI j)), some (.int (nI n)), some (.ref 50), some (.ref 50)]) (st' := [.int (nI n), .int (nI j), .ref 51, .int (nI i), .ref 51]) (σ' := σ) (fun f => rfl) ?_
  refine pi_gd 1 (c := ¬ nI i < 0 ∧ ¬ nI j < 0 ∧ ¬ nI n < 0 ∧ (nI i).toNatClampNeg + (nI n).toNatClampNeg ≤ 48 ∧ (nI j).toNatClampNeg + (nI n).toNatClampNeg ≤ 48) (pc' := 123) (l' := [some (.ref 0), some (.int (nI 1)), some (.int (nI i)), some (.int (nI 1)), some (.int (nI j)), some (.int (nI n)), some (.ref 50), some (.ref 50)]) (st' := []) (σ' := pi_cpy σ 51 51 (nI i).toNatClampNeg (nI j).toNatClampNeg (nI n).toNatClampNeg) (fun f => rfl) ⟨z_ltz (by omega), z_ltz (by omega), z_ltz (by omega), by rw [nI_clamp (by omega), nI_clamp (by omega)]; omega, by rw [nI_clamp (by omega), nI_clamp (by omega)]; omega⟩ ?_
  rw [show (nI i).toNatClampNeg = i from nI_clamp (by omega), show (nI j).toNatClampNeg = j from nI_clamp (by omega), show (nI n).toNatClampNeg = n from nI_clamp (by omega)]
  generalize es1 : pi_cpy σ 51 51 i j n = s1
  have rs1 := pi_cpy_fr es1
  refine pi_rt 2 (v := some (.int (nI 1))) (σ' := s1) (fun f => rfl) ?_
  have hfr : pi_fr [51] s1 σ := pi_fr_tr rs1 (by decide) (pi_fr_rf)
  exact ⟨rfl, hR.it1 (fun q hq => (congrFun (pi_cpy_at es1) q).trans (z_cp_row hR.k.p.si1 hR.k.p.si1 (by omega) (by omega) q hq)) (z_cp_o (by omega)) hfr, pi_fr_tr hfr (by decide) pi_fr_rf⟩
set_option maxRecDepth 20000 in
theorem pi_X_copy12_null1 {xs : Nat → Int32} {L d : Nat} {W : zW} {σ : pi_S} (hR : z_CR W σ) {i j n : Int32} (hs0 : W.th 1 = 0)  : pi_wp xs L (d + 9) 90 0 [some (.ref 0), some (.int (nI 1)), some (.int i), some (.int (nI 2)), some (.int j), some (.int n), none, none] [] σ (fun v s => v = some (.int ((-10) - (nI 1))) ∧ z_CR (W.sS 0 (nI 1)) s ∧ pi_fr z_CC s σ) := by
  have hk := hR.k.p.wk
  have hnd8 := hk.wd.nd8
  have hns12 := hk.wd.ns12
  have hn60 := hk.nine
  have hnf := hk.nf
  have hnw := hk.nw
  have hnc := hk.nc
  have hn08 := hk.wd.n0
  have hn140 := hk.wd.n1
  have hsi := hk.si 1 (by omega)
  have hti := hk.si 2 (by omega)
  refine pi_ca 3 (m' := 94) (l' := [some (.int (nI 1)), some (.int (nI 4))]) (σ' := σ) (pc2 := 5) (l2 := [some (.ref 0), some (.int (nI 1)), some (.int i), some (.int (nI 2)), some (.int j), some (.int n), none, none]) (t := []) (fun f => rfl) (pi_below1 _ _ (z_BL (by omega) (by omega))) ?_
  rintro _ _ ⟨rfl, rfl⟩
  refine pi_cf 1 (c := nI 1 = 0) (pc' := 8) (l' := [some (.ref 0), some (.int (nI 1)), some (.int i), some (.int (nI 2)), some (.int j), some (.int n), none, none]) (st' := []) (σ' := σ) (pc2 := 16) (l2 := [some (.ref 0), some (.int (nI 1)), some (.int i), some (.int (nI 2)), some (.int j), some (.int n), none, none]) (st2 := []) (σ2 := σ) (fun f => rfl) (by decide) ?_
  refine pi_ca 3 (m' := 94) (l' := [some (.int (nI 2)), some (.int (nI 4))]) (σ' := σ) (pc2 := 13) (l2 := [some (.ref 0), some (.int (nI 1)), some (.int i), some (.int (nI 2)), some (.int j), some (.int n), none, none]) (t := []) (fun f => rfl) (pi_below1 _ _ (z_BL (by omega) (by omega))) ?_
  rintro _ _ ⟨rfl, rfl⟩
  refine pi_cf 1 (c := nI 1 = 0) (pc' := 19) (l' := [some (.ref 0), some (.int (nI 1)), some (.int i), some (.int (nI 2)), some (.int j), some (.int n), none, none]) (st' := []) (σ' := σ) (pc2 := 16) (l2 := [some (.ref 0), some (.int (nI 1)), some (.int i), some (.int (nI 2)), some (.int j), some (.int n), none, none]) (st2 := []) (σ2 := σ) (fun f => rfl) (by decide) ?_
  refine pi_aq 4 (u := 1) (n := 4) (a := 47) (c := 50) (pc' := 25) (l' := [some (.ref 0), some (.int (nI 1)), some (.int i), some (.int (nI 2)), some (.int j), some (.int n), none, none]) (t := []) (σ' := σ) (fun f => rfl) (by omega) (by omega) rfl ?_
  refine pi_aq 5 (u := 2) (n := 4) (a := 47) (c := 52) (pc' := 33) (l' := [some (.ref 0), some (.int (nI 1)), some (.int i), some (.int (nI 2)), some (.int j), some (.int n), some (.ref 50), none]) (t := []) (σ' := σ) (fun f => rfl) (by omega) (by omega) rfl ?_
  refine pi_ca 3 (m' := 36) (l' := [some (.ref 50)]) (σ' := σ) (pc2 := 40) (l2 := [some (.ref 0), some (.int (nI 1)), some (.int i), some (.int (nI 2)), some (.int j), some (.int n), some (.ref 50), some (.ref 52)]) (t := []) (fun f => rfl) (pi_C_lost1_t hR.k hs0) ?_
  rintro _ _ ⟨rfl, rfl⟩
  refine pi_cf 1 (c := nI 1 = 0) (pc' := 51) (l' := [some (.ref 0), some (.int (nI 1)), some (.int i), some (.int (nI 2)), some (.int j), some (.int n), some (.ref 50), some (.ref 52)]) (st' := []) (σ' := σ) (pc2 := 43) (l2 := [some (.ref 0), some (.int (nI 1)), some (.int i), some (.int (nI 2)), some (.int j), some (.int n), some (.ref 50), some (.ref 52)]) (st2 := []) (σ2 := σ) (fun f => rfl) (by decide) ?_
  refine pi_ca 3 (m' := 96) (l' := [some (.ref 0), some (.int (nI 1))]) (σ' := σ) (pc2 := 56) (l2 := [some (.ref 0), some (.int (nI 1)), some (.int i), some (.int (nI 2)), some (.int j), some (.int n), some (.ref 50), some (.ref 52)]) (t := []) (fun f => rfl) (pi_C_found (nI 1)) ?_
  rintro _ t1 ⟨rfl, et1, kt1, rt1⟩
  refine pi_rt 1 (v := some (.int ((-10) - (nI 1)))) (σ' := t1) (fun f => rfl) ?_
  have hfr : pi_fr [0] t1 σ := pi_fr_tr rt1 (by decide) (pi_fr_rf)
  exact ⟨rfl, hR.fnd (et1) hfr, pi_fr_tr hfr (by decide) pi_fr_rf⟩
set_option maxRecDepth 20000 in
theorem pi_X_copy12_null2 {xs : Nat → Int32} {L d : Nat} {W : zW} {σ : pi_S} (hR : z_CR W σ) {i j n : Int32} (hs1 : ¬ W.th 1 = 0) (ht0 : W.th 2 = 0)  : pi_wp xs L (d + 9) 90 0 [some (.ref 0), some (.int (nI 1)), some (.int i), some (.int (nI 2)), some (.int j), some (.int n), none, none] [] σ (fun v s => v = some (.int ((-10) - (nI 1))) ∧ z_CR (W.sS 0 (nI 1)) s ∧ pi_fr z_CC s σ) := by
  have hk := hR.k.p.wk
  have hnd8 := hk.wd.nd8
  have hns12 := hk.wd.ns12
  have hn60 := hk.nine
  have hnf := hk.nf
  have hnw := hk.nw
  have hnc := hk.nc
  have hn08 := hk.wd.n0
  have hn140 := hk.wd.n1
  have hsi := hk.si 1 (by omega)
  have hti := hk.si 2 (by omega)
  refine pi_ca 3 (m' := 94) (l' := [some (.int (nI 1)), some (.int (nI 4))]) (σ' := σ) (pc2 := 5) (l2 := [some (.ref 0), some (.int (nI 1)), some (.int i), some (.int (nI 2)), some (.int j), some (.int n), none, none]) (t := []) (fun f => rfl) (pi_below1 _ _ (z_BL (by omega) (by omega))) ?_
  rintro _ _ ⟨rfl, rfl⟩
  refine pi_cf 1 (c := nI 1 = 0) (pc' := 8) (l' := [some (.ref 0), some (.int (nI 1)), some (.int i), some (.int (nI 2)), some (.int j), some (.int n), none, none]) (st' := []) (σ' := σ) (pc2 := 16) (l2 := [some (.ref 0), some (.int (nI 1)), some (.int i), some (.int (nI 2)), some (.int j), some (.int n), none, none]) (st2 := []) (σ2 := σ) (fun f => rfl) (by decide) ?_
  refine pi_ca 3 (m' := 94) (l' := [some (.int (nI 2)), some (.int (nI 4))]) (σ' := σ) (pc2 := 13) (l2 := [some (.ref 0), some (.int (nI 1)), some (.int i), some (.int (nI 2)), some (.int j), some (.int n), none, none]) (t := []) (fun f => rfl) (pi_below1 _ _ (z_BL (by omega) (by omega))) ?_
  rintro _ _ ⟨rfl, rfl⟩
  refine pi_cf 1 (c := nI 1 = 0) (pc' := 19) (l' := [some (.ref 0), some (.int (nI 1)), some (.int i), some (.int (nI 2)), some (.int j), some (.int n), none, none]) (st' := []) (σ' := σ) (pc2 := 16) (l2 := [some (.ref 0), some (.int (nI 1)), some (.int i), some (.int (nI 2)), some (.int j), some (.int n), none, none]) (st2 := []) (σ2 := σ) (fun f => rfl) (by decide) ?_
  refine pi_aq 4 (u := 1) (n := 4) (a := 47) (c := 50) (pc' := 25) (l' := [some (.ref 0), some (.int (nI 1)), some (.int i), some (.int (nI 2)), some (.int j), some (.int n), none, none]) (t := []) (σ' := σ) (fun f => rfl) (by omega) (by omega) rfl ?_
  refine pi_aq 5 (u := 2) (n := 4) (a := 47) (c := 52) (pc' := 33) (l' := [some (.ref 0), some (.int (nI 1)), some (.int i), some (.int (nI 2)), some (.int j), some (.int n), some (.ref 50), none]) (t := []) (σ' := σ) (fun f => rfl) (by omega) (by omega) rfl ?_
  refine pi_ca 3 (m' := 36) (l' := [some (.ref 50)]) (σ' := σ) (pc2 := 40) (l2 := [some (.ref 0), some (.int (nI 1)), some (.int i), some (.int (nI 2)), some (.int j), some (.int n), some (.ref 50), some (.ref 52)]) (t := []) (fun f => rfl) (pi_C_lost1_f hR.k hs1) ?_
  rintro _ _ ⟨rfl, rfl⟩
  refine pi_ct 1 (c := nI 0 = 0) (pc' := 43) (l' := [some (.ref 0), some (.int (nI 1)), some (.int i), some (.int (nI 2)), some (.int j), some (.int n), some (.ref 50), some (.ref 52)]) (st' := []) (σ' := σ) (pc2 := 51) (l2 := [some (.ref 0), some (.int (nI 1)), some (.int i), some (.int (nI 2)), some (.int j), some (.int n), some (.ref 50), some (.ref 52)]) (st2 := []) (σ2 := σ) (fun f => rfl) (by decide) ?_
  refine pi_ca 2 (m' := 36) (l' := [some (.ref 52)]) (σ' := σ) (pc2 := 48) (l2 := [some (.ref 0), some (.int (nI 1)), some (.int i), some (.int (nI 2)), some (.int j), some (.int n), some (.ref 50), some (.ref 52)]) (t := []) (fun f => rfl) (pi_C_lost2_t hR.k ht0) ?_
  rintro _ _ ⟨rfl, rfl⟩
  refine pi_cf 1 (c := nI 1 = 0) (pc' := 51) (l' := [some (.ref 0), some (.int (nI 1)), some (.int i), some (.int (nI 2)), some (.int j), some (.int n), some (.ref 50), some (.ref 52)]) (st' := []) (σ' := σ) (pc2 := 57) (l2 := [some (.ref 0), some (.int (nI 1)), some (.int i), some (.int (nI 2)), some (.int j), some (.int n), some (.ref 50), some (.ref 52)]) (st2 := []) (σ2 := σ) (fun f => rfl) (by decide) ?_
  refine pi_ca 3 (m' := 96) (l' := [some (.ref 0), some (.int (nI 1))]) (σ' := σ) (pc2 := 56) (l2 := [some (.ref 0), some (.int (nI 1)), some (.int i), some (.int (nI 2)), some (.int j), some (.int n), some (.ref 50), some (.ref 52)]) (t := []) (fun f => rfl) (pi_C_found (nI 1)) ?_
  rintro _ t1 ⟨rfl, et1, kt1, rt1⟩
  refine pi_rt 1 (v := some (.int ((-10) - (nI 1)))) (σ' := t1) (fun f => rfl) ?_
  have hfr : pi_fr [0] t1 σ := pi_fr_tr rt1 (by decide) (pi_fr_rf)
  exact ⟨rfl, hR.fnd (et1) hfr, pi_fr_tr hfr (by decide) pi_fr_rf⟩
set_option maxRecDepth 20000 in
theorem pi_X_copy12_store {xs : Nat → Int32} {L d : Nat} {W : zW} {σ : pi_S} (hR : z_CR W σ) {i j n : Int32} (hs1 : ¬ W.th 1 = 0) (ht1 : ¬ W.th 2 = 0) (h4 : ¬ W.fo 1 = W.fo 2)  : pi_wp xs L (d + 9) 90 0 [some (.ref 0), some (.int (nI 1)), some (.int i), some (.int (nI 2)), some (.int j), some (.int n), none, none] [] σ (fun v s => v = some (.int ((-10) - (nI 4))) ∧ z_CR (W.sS 0 (nI 4)) s ∧ pi_fr z_CC s σ) := by
  have hk := hR.k.p.wk
  have hnd8 := hk.wd.nd8
  have hns12 := hk.wd.ns12
  have hn60 := hk.nine
  have hnf := hk.nf
  have hnw := hk.nw
  have hnc := hk.nc
  have hn08 := hk.wd.n0
  have hn140 := hk.wd.n1
  have hsi := hk.si 1 (by omega)
  have hti := hk.si 2 (by omega)
  refine pi_ca 3 (m' := 94) (l' := [some (.int (nI 1)), some (.int (nI 4))]) (σ' := σ) (pc2 := 5) (l2 := [some (.ref 0), some (.int (nI 1)), some (.int i), some (.int (nI 2)), some (.int j), some (.int n), none, none]) (t := []) (fun f => rfl) (pi_below1 _ _ (z_BL (by omega) (by omega))) ?_
  rintro _ _ ⟨rfl, rfl⟩
  refine pi_cf 1 (c := nI 1 = 0) (pc' := 8) (l' := [some (.ref 0), some (.int (nI 1)), some (.int i), some (.int (nI 2)), some (.int j), some (.int n), none, none]) (st' := []) (σ' := σ) (pc2 := 16) (l2 := [some (.ref 0), some (.int (nI 1)), some (.int i), some (.int (nI 2)), some (.int j), some (.int n), none, none]) (st2 := []) (σ2 := σ) (fun f => rfl) (by decide) ?_
  refine pi_ca 3 (m' := 94) (l' := [some (.int (nI 2)), some (.int (nI 4))]) (σ' := σ) (pc2 := 13) (l2 := [some (.ref 0), some (.int (nI 1)), some (.int i), some (.int (nI 2)), some (.int j), some (.int n), none, none]) (t := []) (fun f => rfl) (pi_below1 _ _ (z_BL (by omega) (by omega))) ?_
  rintro _ _ ⟨rfl, rfl⟩
  refine pi_cf 1 (c := nI 1 = 0) (pc' := 19) (l' := [some (.ref 0), some (.int (nI 1)), some (.int i), some (.int (nI 2)), some (.int j), some (.int n), none, none]) (st' := []) (σ' := σ) (pc2 := 16) (l2 := [some (.ref 0), some (.int (nI 1)), some (.int i), some (.int (nI 2)), some (.int j), some (.int n), none, none]) (st2 := []) (σ2 := σ) (fun f => rfl) (by decide) ?_
  refine pi_aq 4 (u := 1) (n := 4) (a := 47) (c := 50) (pc' := 25) (l' := [some (.ref 0), some (.int (nI 1)), some (.int i), some (.int (nI 2)), some (.int j), some (.int n), none, none]) (t := []) (σ' := σ) (fun f => rfl) (by omega) (by omega) rfl ?_
  refine pi_aq 5 (u := 2) (n := 4) (a := 47) (c := 52) (pc' := 33) (l' := [some (.ref 0), some (.int (nI 1)), some (.int i), some (.int (nI 2)), some (.int j), some (.int n), some (.ref 50), none]) (t := []) (σ' := σ) (fun f => rfl) (by omega) (by omega) rfl ?_
  refine pi_ca 3 (m' := 36) (l' := [some (.ref 50)]) (σ' := σ) (pc2 := 40) (l2 := [some (.ref 0), some (.int (nI 1)), some (.int i), some (.int (nI 2)), some (.int j), some (.int n), some (.ref 50), some (.ref 52)]) (t := []) (fun f => rfl) (pi_C_lost1_f hR.k hs1) ?_
  rintro _ _ ⟨rfl, rfl⟩
  refine pi_ct 1 (c := nI 0 = 0) (pc' := 43) (l' := [some (.ref 0), some (.int (nI 1)), some (.int i), some (.int (nI 2)), some (.int j), some (.int n), some (.ref 50), some (.ref 52)]) (st' := []) (σ' := σ) (pc2 := 51) (l2 := [some (.ref 0), some (.int (nI 1)), some (.int i), some (.int (nI 2)), some (.int j), some (.int n), some (.ref 50), some (.ref 52)]) (st2 := []) (σ2 := σ) (fun f => rfl) (by decide) ?_
  refine pi_ca 2 (m' := 36) (l' := [some (.ref 52)]) (σ' := σ) (pc2 := 48) (l2 := [some (.ref 0), some (.int (nI 1)), some (.int i), some (.int (nI 2)), some (.int j), some (.int n), some (.ref 50), some (.ref 52)]) (t := []) (fun f => rfl) (pi_C_lost2_f hR.k ht1) ?_
  rintro _ _ ⟨rfl, rfl⟩
  refine pi_ct 1 (c := nI 0 = 0) (pc' := 57) (l' := [some (.ref 0), some (.int (nI 1)), some (.int i), some (.int (nI 2)), some (.int j), some (.int n), some (.ref 50), some (.ref 52)]) (st' := []) (σ' := σ) (pc2 := 51) (l2 := [some (.ref 0), some (.int (nI 1)), some (.int i), some (.int (nI 2)), some (.int j), some (.int n), some (.ref 50), some (.ref 52)]) (st2 := []) (σ2 := σ) (fun f => rfl) (by decide) ?_
  refine pi_go 2 (pc' := 62) (l' := [some (.ref 0), some (.int (nI 1)), some (.int i), some (.int (nI 2)), some (.int j), some (.int n), some (.ref 50), some (.ref 52)]) (st' := [.int (σ 50 1)]) (σ' := σ) (fun f => rfl) ?_
  refine pi_tp (y := nI (W.fo 1)) (hR.k.p.sf1) ?_
  refine pi_go 2 (pc' := 67) (l' := [some (.ref 0), some (.int (nI 1)), some (.int i), some (.int (nI 2)), some (.int j), some (.int n), some (.ref 50), some (.ref 52)]) (st' := [.int (σ 52 1), .int (nI (W.fo 1))]) (σ' := σ) (fun f => rfl) ?_
  refine pi_tp (y := nI (W.fo 2)) (hR.k.p.sf2) ?_
  refine pi_cf 1 (c := nI (W.fo 1) = nI (W.fo 2)) (pc' := 70) (l' := [some (.ref 0), some (.int (nI 1)), some (.int i), some (.int (nI 2)), some (.int j), some (.int n), some (.ref 50), some (.ref 52)]) (st' := []) (σ' := σ) (pc2 := 76) (l2 := [some (.ref 0), some (.int (nI 1)), some (.int i), some (.int (nI 2)), some (.int j), some (.int n), some (.ref 50), some (.ref 52)]) (st2 := []) (σ2 := σ) (fun f => rfl) (fun q => h4 ((nI_eq (by omega) (by omega)).mp q)) ?_
  refine pi_ca 3 (m' := 96) (l' := [some (.ref 0), some (.int (nI 4))]) (σ' := σ) (pc2 := 75) (l2 := [some (.ref 0), some (.int (nI 1)), some (.int i), some (.int (nI 2)), some (.int j), some (.int n), some (.ref 50), some (.ref 52)]) (t := []) (fun f => rfl) (pi_C_found (nI 4)) ?_
  rintro _ t1 ⟨rfl, et1, kt1, rt1⟩
  refine pi_rt 1 (v := some (.int ((-10) - (nI 4)))) (σ' := t1) (fun f => rfl) ?_
  have hfr : pi_fr [0] t1 σ := pi_fr_tr rt1 (by decide) (pi_fr_rf)
  exact ⟨rfl, hR.fnd (et1) hfr, pi_fr_tr hfr (by decide) pi_fr_rf⟩
set_option maxRecDepth 20000 in
theorem pi_X_copy12_index {xs : Nat → Int32} {L d : Nat} {W : zW} {σ : pi_S} (hR : z_CR W σ) {i j n : Int32} (hs1 : ¬ W.th 1 = 0) (ht1 : ¬ W.th 2 = 0) (h4 : W.fo 1 = W.fo 2) (hb : ¬ z_cp W 1 2 i j n)  : pi_wp xs L (d + 9) 90 0 [some (.ref 0), some (.int (nI 1)), some (.int i), some (.int (nI 2)), some (.int j), some (.int n), none, none] [] σ (fun v s => v = some (.int ((-10) - (nI 2))) ∧ z_CR (W.sS 0 (nI 2)) s ∧ pi_fr z_CC s σ) := by
  have hk := hR.k.p.wk
  have hnd8 := hk.wd.nd8
  have hns12 := hk.wd.ns12
  have hn60 := hk.nine
  have hnf := hk.nf
  have hnw := hk.nw
  have hnc := hk.nc
  have hn08 := hk.wd.n0
  have hn140 := hk.wd.n1
  have hsi := hk.si 1 (by omega)
  have hti := hk.si 2 (by omega)
  refine pi_ca 3 (m' := 94) (l' := [some (.int (nI 1)), some (.int (nI 4))]) (σ' := σ) (pc2 := 5) (l2 := [some (.ref 0), some (.int (nI 1)), some (.int i), some (.int (nI 2)), some (.int j), some (.int n), none, none]) (t := []) (fun f => rfl) (pi_below1 _ _ (z_BL (by omega) (by omega))) ?_
  rintro _ _ ⟨rfl, rfl⟩
  refine pi_cf 1 (c := nI 1 = 0) (pc' := 8) (l' := [some (.ref 0), some (.int (nI 1)), some (.int i), some (.int (nI 2)), some (.int j), some (.int n), none, none]) (st' := []) (σ' := σ) (pc2 := 16) (l2 := [some (.ref 0), some (.int (nI 1)), some (.int i), some (.int (nI 2)), some (.int j), some (.int n), none, none]) (st2 := []) (σ2 := σ) (fun f => rfl) (by decide) ?_
  refine pi_ca 3 (m' := 94) (l' := [some (.int (nI 2)), some (.int (nI 4))]) (σ' := σ) (pc2 := 13) (l2 := [some (.ref 0), some (.int (nI 1)), some (.int i), some (.int (nI 2)), some (.int j), some (.int n), none, none]) (t := []) (fun f => rfl) (pi_below1 _ _ (z_BL (by omega) (by omega))) ?_
  rintro _ _ ⟨rfl, rfl⟩
  refine pi_cf 1 (c := nI 1 = 0) (pc' := 19) (l' := [some (.ref 0), some (.int (nI 1)), some (.int i), some (.int (nI 2)), some (.int j), some (.int n), none, none]) (st' := []) (σ' := σ) (pc2 := 16) (l2 := [some (.ref 0), some (.int (nI 1)), some (.int i), some (.int (nI 2)), some (.int j), some (.int n), none, none]) (st2 := []) (σ2 := σ) (fun f => rfl) (by decide) ?_
  refine pi_aq 4 (u := 1) (n := 4) (a := 47) (c := 50) (pc' := 25) (l' := [some (.ref 0), some (.int (nI 1)), some (.int i), some (.int (nI 2)), some (.int j), some (.int n), none, none]) (t := []) (σ' := σ) (fun f => rfl) (by omega) (by omega) rfl ?_
  refine pi_aq 5 (u := 2) (n := 4) (a := 47) (c := 52) (pc' := 33) (l' := [some (.ref 0), some (.int (nI 1)), some (.int i), some (.int (nI 2)), some (.int j), some (.int n), some (.ref 50), none]) (t := []) (σ' := σ) (fun f => rfl) (by omega) (by omega) rfl ?_
  refine pi_ca 3 (m' := 36) (l' := [some (.ref 50)]) (σ' := σ) (pc2 := 40) (l2 := [some (.ref 0), some (.int (nI 1)), some (.int i), some (.int (nI 2)), some (.int j), some (.int n), some (.ref 50), some (.ref 52)]) (t := []) (fun f => rfl) (pi_C_lost1_f hR.k hs1) ?_
  rintro _ _ ⟨rfl, rfl⟩
  refine pi_ct 1 (c := nI 0 = 0) (pc' := 43) (l' := [some (.ref 0), some (.int (nI 1)), some (.int i), some (.int (nI 2)), some (.int j), some (.int n), some (.ref 50), some (.ref 52)]) (st' := []) (σ' := σ) (pc2 := 51) (l2 := [some (.ref 0), some (.int (nI 1)), some (.int i), some (.int (nI 2)), some (.int j), some (.int n), some (.ref 50), some (.ref 52)]) (st2 := []) (σ2 := σ) (fun f => rfl) (by decide) ?_
  refine pi_ca 2 (m' := 36) (l' := [some (.ref 52)]) (σ' := σ) (pc2 := 48) (l2 := [some (.ref 0), some (.int (nI 1)), some (.int i), some (.int (nI 2)), some (.int j), some (.int n), some (.ref 50), some (.ref 52)]) (t := []) (fun f => rfl) (pi_C_lost2_f hR.k ht1) ?_
  rintro _ _ ⟨rfl, rfl⟩
  refine pi_ct 1 (c := nI 0 = 0) (pc' := 57) (l' := [some (.ref 0), some (.int (nI 1)), some (.int i), some (.int (nI 2)), some (.int j), some (.int n), some (.ref 50), some (.ref 52)]) (st' := []) (σ' := σ) (pc2 := 51) (l2 := [some (.ref 0), some (.int (nI 1)), some (.int i), some (.int (nI 2)), some (.int j), some (.int n), some (.ref 50), some (.ref 52)]) (st2 := []) (σ2 := σ) (fun f => rfl) (by decide) ?_
  refine pi_go 2 (pc' := 62) (l' := [some (.ref 0), some (.int (nI 1)), some (.int i), some (.int (nI 2)), some (.int j), some (.int n), some (.ref 50), some (.ref 52)]) (st' := [.int (σ 50 1)]) (σ' := σ) (fun f => rfl) ?_
  refine pi_tp (y := nI (W.fo 1)) (hR.k.p.sf1) ?_
  refine pi_go 2 (pc' := 67) (l' := [some (.ref 0), some (.int (nI 1)), some (.int i), some (.int (nI 2)), some (.int j), some (.int n), some (.ref 50), some (.ref 52)]) (st' := [.int (σ 52 1), .int (nI (W.fo 1))]) (σ' := σ) (fun f => rfl) ?_
  refine pi_tp (y := nI (W.fo 2)) (hR.k.p.sf2) ?_
  refine pi_ct 1 (c := nI (W.fo 1) = nI (W.fo 2)) (pc' := 76) (l' := [some (.ref 0), some (.int (nI 1)), some (.int i), some (.int (nI 2)), some (.int j), some (.int n), some (.ref 50), some (.ref 52)]) (st' := []) (σ' := σ) (pc2 := 70) (l2 := [some (.ref 0), some (.int (nI 1)), some (.int i), some (.int (nI 2)), some (.int j), some (.int n), some (.ref 50), some (.ref 52)]) (st2 := []) (σ2 := σ) (fun f => rfl) (congrArg nI h4) ?_
  refine pi_ca 4 (m' := 39) (l' := [some (.ref 50), some (.int i), some (.int n)]) (σ' := σ) (pc2 := 84) (l2 := [some (.ref 0), some (.int (nI 1)), some (.int i), some (.int (nI 2)), some (.int j), some (.int n), some (.ref 50), some (.ref 52)]) (t := []) (fun f => rfl) (pi_C_hasRun1 hR.k hs1 i n) ?_
  rintro _ _ (⟨b1, rfl, rfl⟩ | ⟨b1, rfl, rfl⟩)
  · refine pi_cf 1 (c := nI 1 = 0) (pc' := 87) (l' := [some (.ref 0), some (.int (nI 1)), some (.int i), some (.int (nI 2)), some (.int j), some (.int n), some (.ref 50), some (.ref 52)]) (st' := []) (σ' := σ) (pc2 := 99) (l2 := [some (.ref 0), some (.int (nI 1)), some (.int i), some (.int (nI 2)), some (.int j), some (.int n), some (.ref 50), some (.ref 52)]) (st2 := []) (σ2 := σ) (fun f => rfl) (by decide) ?_
    refine pi_ca 4 (m' := 39) (l' := [some (.ref 52), some (.int j), some (.int n)]) (σ' := σ) (pc2 := 96) (l2 := [some (.ref 0), some (.int (nI 1)), some (.int i), some (.int (nI 2)), some (.int j), some (.int n), some (.ref 50), some (.ref 52)]) (t := []) (fun f => rfl) (pi_C_hasRun2 hR.k ht1 j n) ?_
    rintro _ _ (⟨b2, rfl, rfl⟩ | ⟨b2, rfl, rfl⟩)
    · refine pi_cf 1 (c := nI 1 = 0) (pc' := 105) (l' := [some (.ref 0), some (.int (nI 1)), some (.int i), some (.int (nI 2)), some (.int j), some (.int n), some (.ref 50), some (.ref 52)]) (st' := []) (σ' := σ) (pc2 := 99) (l2 := [some (.ref 0), some (.int (nI 1)), some (.int i), some (.int (nI 2)), some (.int j), some (.int n), some (.ref 50), some (.ref 52)]) (st2 := []) (σ2 := σ) (fun f => rfl) (by decide) ?_
      exact (hb (z_cp_hr hsi.1 hti.1 b1 b2)).elim
    · refine pi_ct 1 (c := nI 0 = 0) (pc' := 99) (l' := [some (.ref 0), some (.int (nI 1)), some (.int i), some (.int (nI 2)), some (.int j), some (.int n), some (.ref 50), some (.ref 52)]) (st' := []) (σ' := σ) (pc2 := 105) (l2 := [some (.ref 0), some (.int (nI 1)), some (.int i), some (.int (nI 2)), some (.int j), some (.int n), some (.ref 50), some (.ref 52)]) (st2 := []) (σ2 := σ) (fun f => rfl) (by decide) ?_
      refine pi_ca 3 (m' := 96) (l' := [some (.ref 0), some (.int (nI 2))]) (σ' := σ) (pc2 := 104) (l2 := [some (.ref 0), some (.int (nI 1)), some (.int i), some (.int (nI 2)), some (.int j), some (.int n), some (.ref 50), some (.ref 52)]) (t := []) (fun f => rfl) (pi_C_found (nI 2)) ?_
      rintro _ t1 ⟨rfl, et1, kt1, rt1⟩
      refine pi_rt 1 (v := some (.int ((-10) - (nI 2)))) (σ' := t1) (fun f => rfl) ?_
      have hfr : pi_fr [0] t1 σ := pi_fr_tr rt1 (by decide) (pi_fr_rf)
      exact ⟨rfl, hR.fnd (et1) hfr, pi_fr_tr hfr (by decide) pi_fr_rf⟩
  · refine pi_ct 1 (c := nI 0 = 0) (pc' := 99) (l' := [some (.ref 0), some (.int (nI 1)), some (.int i), some (.int (nI 2)), some (.int j), some (.int n), some (.ref 50), some (.ref 52)]) (st' := []) (σ' := σ) (pc2 := 87) (l2 := [some (.ref 0), some (.int (nI 1)), some (.int i), some (.int (nI 2)), some (.int j), some (.int n), some (.ref 50), some (.ref 52)]) (st2 := []) (σ2 := σ) (fun f => rfl) (by decide) ?_
    refine pi_ca 3 (m' := 96) (l' := [some (.ref 0), some (.int (nI 2))]) (σ' := σ) (pc2 := 104) (l2 := [some (.ref 0), some (.int (nI 1)), some (.int i), some (.int (nI 2)), some (.int j), some (.int n), some (.ref 50), some (.ref 52)]) (t := []) (fun f => rfl) (pi_C_found (nI 2)) ?_
    rintro _ t2 ⟨rfl, et2, kt2, rt2⟩
    refine pi_rt 1 (v := some (.int ((-10) - (nI 2)))) (σ' := t2) (fun f => rfl) ?_
    have hfr : pi_fr [0] t2 σ := pi_fr_tr rt2 (by decide) (pi_fr_rf)
    exact ⟨rfl, hR.fnd (et2) hfr, pi_fr_tr hfr (by decide) pi_fr_rf⟩
set_option maxRecDepth 20000 in
theorem pi_X_copy12 {xs : Nat → Int32} {L d : Nat} {W : zW} {σ : pi_S} (hR : z_CR W σ) {i j n : Nat} (hs1 : ¬ W.th 1 = 0) (ht1 : ¬ W.th 2 = 0) (h4 : W.fo 1 = W.fo 2) (hi : i + n ≤ W.si 1) (hj : j + n ≤ W.si 2)  : pi_wp xs L (d + 9) 90 0 [some (.ref 0), some (.int (nI 1)), some (.int (nI i)), some (.int (nI 2)), some (.int (nI j)), some (.int (nI n)), none, none] [] σ (fun v s => v = some (.int (nI 1)) ∧ z_CR (W.sI 9 (pi_lp (fun q f => upd f (48 * 2 + j + q) (W.it (48 * 1 + i + q))) n W.it)) s ∧ pi_fr z_CC s σ) := by
  have hk := hR.k.p.wk
  have hnd8 := hk.wd.nd8
  have hns12 := hk.wd.ns12
  have hn60 := hk.nine
  have hnf := hk.nf
  have hnw := hk.nw
  have hnc := hk.nc
  have hn08 := hk.wd.n0
  have hn140 := hk.wd.n1
  have hsi := hk.si 1 (by omega)
  have hti := hk.si 2 (by omega)
  refine pi_ca 3 (m' := 94) (l' := [some (.int (nI 1)), some (.int (nI 4))]) (σ' := σ) (pc2 := 5) (l2 := [some (.ref 0), some (.int (nI 1)), some (.int (nI i)), some (.int (nI 2)), some (.int (nI j)), some (.int (nI n)), none, none]) (t := []) (fun f => rfl) (pi_below1 _ _ (z_BL (by omega) (by omega))) ?_
  rintro _ _ ⟨rfl, rfl⟩
  refine pi_cf 1 (c := nI 1 = 0) (pc' := 8) (l' := [some (.ref 0), some (.int (nI 1)), some (.int (nI i)), some (.int (nI 2)), some (.int (nI j)), some (.int (nI n)), none, none]) (st' := []) (σ' := σ) (pc2 := 16) (l2 := [some (.ref 0), some (.int (nI 1)), some (.int (nI i)), some (.int (nI 2)), some (.int (nI j)), some (.int (nI n)), none, none]) (st2 := []) (σ2 := σ) (fun f => rfl) (by decide) ?_
  refine pi_ca 3 (m' := 94) (l' := [some (.int (nI 2)), some (.int (nI 4))]) (σ' := σ) (pc2 := 13) (l2 := [some (.ref 0), some (.int (nI 1)), some (.int (nI i)), some (.int (nI 2)), some (.int (nI j)), some (.int (nI n)), none, none]) (t := []) (fun f => rfl) (pi_below1 _ _ (z_BL (by omega) (by omega))) ?_
  rintro _ _ ⟨rfl, rfl⟩
  refine pi_cf 1 (c := nI 1 = 0) (pc' := 19) (l' := [some (.ref 0), some (.int (nI 1)), some (.int (nI i)), some (.int (nI 2)), some (.int (nI j)), some (.int (nI n)), none, none]) (st' := []) (σ' := σ) (pc2 := 16) (l2 := [some (.ref 0), some (.int (nI 1)), some (.int (nI i)), some (.int (nI 2)), some (.int (nI j)), some (.int (nI n)), none, none]) (st2 := []) (σ2 := σ) (fun f => rfl) (by decide) ?_
  refine pi_aq 4 (u := 1) (n := 4) (a := 47) (c := 50) (pc' := 25) (l' := [some (.ref 0), some (.int (nI 1)), some (.int (nI i)), some (.int (nI 2)), some (.int (nI j)), some (.int (nI n)), none, none]) (t := []) (σ' := σ) (fun f => rfl) (by omega) (by omega) rfl ?_
  refine pi_aq 5 (u := 2) (n := 4) (a := 47) (c := 52) (pc' := 33) (l' := [some (.ref 0), some (.int (nI 1)), some (.int (nI i)), some (.int (nI 2)), some (.int (nI j)), some (.int (nI n)), some (.ref 50), none]) (t := []) (σ' := σ) (fun f => rfl) (by omega) (by omega) rfl ?_
  refine pi_ca 3 (m' := 36) (l' := [some (.ref 50)]) (σ' := σ) (pc2 := 40) (l2 := [some (.ref 0), some (.int (nI 1)), some (.int (nI i)), some (.int (nI 2)), some (.int (nI j)), some (.int (nI n)), some (.ref 50), some (.ref 52)]) (t := []) (fun f => rfl) (pi_C_lost1_f hR.k hs1) ?_
  rintro _ _ ⟨rfl, rfl⟩
  refine pi_ct 1 (c := nI 0 = 0) (pc' := 43) (l' := [some (.ref 0), some (.int (nI 1)), some (.int (nI i)), some (.int (nI 2)), some (.int (nI j)), some (.int (nI n)), some (.ref 50), some (.ref 52)]) (st' := []) (σ' := σ) (pc2 := 51) (l2 := [some (.ref 0), some (.int (nI 1)), some (.int (nI i)), some (.int (nI 2)), some (.int (nI j)), some (.int (nI n)), some (.ref 50), some (.ref 52)]) (st2 := []) (σ2 := σ) (fun f => rfl) (by decide) ?_
  refine pi_ca 2 (m' := 36) (l' := [some (.ref 52)]) (σ' := σ) (pc2 := 48) (l2 := [some (.ref 0), some (.int (nI 1)), some (.int (nI i)), some (.int (nI 2)), some (.int (nI j)), some (.int (nI n)), some (.ref 50), some (.ref 52)]) (t := []) (fun f => rfl) (pi_C_lost2_f hR.k ht1) ?_
  rintro _ _ ⟨rfl, rfl⟩
  refine pi_ct 1 (c := nI 0 = 0) (pc' := 57) (l' := [some (.ref 0), some (.int (nI 1)), some (.int (nI i)), some (.int (nI 2)), some (.int (nI j)), some (.int (nI n)), some (.ref 50), some (.ref 52)]) (st' := []) (σ' := σ) (pc2 := 51) (l2 := [some (.ref 0), some (.int (nI 1)), some (.int (nI i)), some (.int (nI 2)), some (.int (nI j)), some (.int (nI n)), some (.ref 50), some (.ref 52)]) (st2 := []) (σ2 := σ) (fun f => rfl) (by decide) ?_
  refine pi_go 2 (pc' := 62) (l' := [some (.ref 0), some (.int (nI 1)), some (.int (nI i)), some (.int (nI 2)), some (.int (nI j)), some (.int (nI n)), some (.ref 50), some (.ref 52)]) (st' := [.int (σ 50 1)]) (σ' := σ) (fun f => rfl) ?_
  refine pi_tp (y := nI (W.fo 1)) (hR.k.p.sf1) ?_
  refine pi_go 2 (pc' := 67) (l' := [some (.ref 0), some (.int (nI 1)), some (.int (nI i)), some (.int (nI 2)), some (.int (nI j)), some (.int (nI n)), some (.ref 50), some (.ref 52)]) (st' := [.int (σ 52 1), .int (nI (W.fo 1))]) (σ' := σ) (fun f => rfl) ?_
  refine pi_tp (y := nI (W.fo 2)) (hR.k.p.sf2) ?_
  refine pi_ct 1 (c := nI (W.fo 1) = nI (W.fo 2)) (pc' := 76) (l' := [some (.ref 0), some (.int (nI 1)), some (.int (nI i)), some (.int (nI 2)), some (.int (nI j)), some (.int (nI n)), some (.ref 50), some (.ref 52)]) (st' := []) (σ' := σ) (pc2 := 70) (l2 := [some (.ref 0), some (.int (nI 1)), some (.int (nI i)), some (.int (nI 2)), some (.int (nI j)), some (.int (nI n)), some (.ref 50), some (.ref 52)]) (st2 := []) (σ2 := σ) (fun f => rfl) (congrArg nI h4) ?_
  refine pi_ca 4 (m' := 39) (l' := [some (.ref 50), some (.int (nI i)), some (.int (nI n))]) (σ' := σ) (pc2 := 84) (l2 := [some (.ref 0), some (.int (nI 1)), some (.int (nI i)), some (.int (nI 2)), some (.int (nI j)), some (.int (nI n)), some (.ref 50), some (.ref 52)]) (t := []) (fun f => rfl) (pi_C_hasRun1T hR.k hs1 ⟨i, n, rfl, rfl, hi⟩) ?_
  rintro _ _ ⟨rfl, rfl⟩
  refine pi_cf 1 (c := nI 1 = 0) (pc' := 87) (l' := [some (.ref 0), some (.int (nI 1)), some (.int (nI i)), some (.int (nI 2)), some (.int (nI j)), some (.int (nI n)), some (.ref 50), some (.ref 52)]) (st' := []) (σ' := σ) (pc2 := 99) (l2 := [some (.ref 0), some (.int (nI 1)), some (.int (nI i)), some (.int (nI 2)), some (.int (nI j)), some (.int (nI n)), some (.ref 50), some (.ref 52)]) (st2 := []) (σ2 := σ) (fun f => rfl) (by decide) ?_
  refine pi_ca 4 (m' := 39) (l' := [some (.ref 52), some (.int (nI j)), some (.int (nI n))]) (σ' := σ) (pc2 := 96) (l2 := [some (.ref 0), some (.int (nI 1)), some (.int (nI i)), some (.int (nI 2)), some (.int (nI j)), some (.int (nI n)), some (.ref 50), some (.ref 52)]) (t := []) (fun f => rfl) (pi_C_hasRun2T hR.k ht1 ⟨j, n, rfl, rfl, hj⟩) ?_
  rintro _ _ ⟨rfl, rfl⟩
  refine pi_cf 1 (c := nI 1 = 0) (pc' := 105) (l' := [some (.ref 0), some (.int (nI 1)), some (.int (nI i)), some (.int (nI 2)), some (.int (nI j)), some (.int (nI n)), some (.ref 50), some (.ref 52)]) (st' := []) (σ' := σ) (pc2 := 99) (l2 := [some (.ref 0), some (.int (nI 1)), some (.int (nI i)), some (.int (nI 2)), some (.int (nI j)), some (.int (nI n)), some (.ref 50), some (.ref 52)]) (st2 := []) (σ2 := σ) (fun f => rfl) (by decide) ?_
  refine pi_go 7 (pc' := 120) (l' := [some (.ref 0), some (.int (nI 1)), some (.int (nI i)), some (.int (nI 2)), some (.int (nI j)), some (.int (nI n)), some (.ref 50), some (.ref 52)]) (st' := [.int (nI n), .int (nI j), .ref 53, .int (nI i), .ref 51]) (σ' := σ) (fun f => rfl) ?_
  refine pi_gd 1 (c := ¬ nI i < 0 ∧ ¬ nI j < 0 ∧ ¬ nI n < 0 ∧ (nI i).toNatClampNeg + (nI n).toNatClampNeg ≤ 48 ∧ (nI j).toNatClampNeg + (nI n).toNatClampNeg ≤ 48) (pc' := 123) (l' := [some (.ref 0), some (.int (nI 1)), some (.int (nI i)), some (.int (nI 2)), some (.int (nI j)), some (.int (nI n)), some (.ref 50), some (.ref 52)]) (st' := []) (σ' := pi_cpy σ 51 53 (nI i).toNatClampNeg (nI j).toNatClampNeg (nI n).toNatClampNeg) (fun f => rfl) ⟨z_ltz (by omega), z_ltz (by omega), z_ltz (by omega), by rw [nI_clamp (by omega), nI_clamp (by omega)]; omega, by rw [nI_clamp (by omega), nI_clamp (by omega)]; omega⟩ ?_
  rw [show (nI i).toNatClampNeg = i from nI_clamp (by omega), show (nI j).toNatClampNeg = j from nI_clamp (by omega), show (nI n).toNatClampNeg = n from nI_clamp (by omega)]
  generalize es1 : pi_cpy σ 51 53 i j n = s1
  have rs1 := pi_cpy_fr es1
  refine pi_rt 2 (v := some (.int (nI 1))) (σ' := s1) (fun f => rfl) ?_
  have hfr : pi_fr [53] s1 σ := pi_fr_tr rs1 (by decide) (pi_fr_rf)
  exact ⟨rfl, hR.it2 (fun q hq => (congrFun (pi_cpy_at es1) q).trans (z_cp_row hR.k.p.si1 hR.k.p.si2 (by omega) (by omega) q hq)) (z_cp_o (by omega)) hfr, pi_fr_tr hfr (by decide) pi_fr_rf⟩
set_option maxRecDepth 20000 in
theorem pi_X_copy13_null1 {xs : Nat → Int32} {L d : Nat} {W : zW} {σ : pi_S} (hR : z_CR W σ) {i j n : Int32} (hs0 : W.th 1 = 0)  : pi_wp xs L (d + 9) 90 0 [some (.ref 0), some (.int (nI 1)), some (.int i), some (.int (nI 3)), some (.int j), some (.int n), none, none] [] σ (fun v s => v = some (.int ((-10) - (nI 1))) ∧ z_CR (W.sS 0 (nI 1)) s ∧ pi_fr z_CC s σ) := by
  have hk := hR.k.p.wk
  have hnd8 := hk.wd.nd8
  have hns12 := hk.wd.ns12
  have hn60 := hk.nine
  have hnf := hk.nf
  have hnw := hk.nw
  have hnc := hk.nc
  have hn08 := hk.wd.n0
  have hn140 := hk.wd.n1
  have hsi := hk.si 1 (by omega)
  have hti := hk.si 3 (by omega)
  refine pi_ca 3 (m' := 94) (l' := [some (.int (nI 1)), some (.int (nI 4))]) (σ' := σ) (pc2 := 5) (l2 := [some (.ref 0), some (.int (nI 1)), some (.int i), some (.int (nI 3)), some (.int j), some (.int n), none, none]) (t := []) (fun f => rfl) (pi_below1 _ _ (z_BL (by omega) (by omega))) ?_
  rintro _ _ ⟨rfl, rfl⟩
  refine pi_cf 1 (c := nI 1 = 0) (pc' := 8) (l' := [some (.ref 0), some (.int (nI 1)), some (.int i), some (.int (nI 3)), some (.int j), some (.int n), none, none]) (st' := []) (σ' := σ) (pc2 := 16) (l2 := [some (.ref 0), some (.int (nI 1)), some (.int i), some (.int (nI 3)), some (.int j), some (.int n), none, none]) (st2 := []) (σ2 := σ) (fun f => rfl) (by decide) ?_
  refine pi_ca 3 (m' := 94) (l' := [some (.int (nI 3)), some (.int (nI 4))]) (σ' := σ) (pc2 := 13) (l2 := [some (.ref 0), some (.int (nI 1)), some (.int i), some (.int (nI 3)), some (.int j), some (.int n), none, none]) (t := []) (fun f => rfl) (pi_below1 _ _ (z_BL (by omega) (by omega))) ?_
  rintro _ _ ⟨rfl, rfl⟩
  refine pi_cf 1 (c := nI 1 = 0) (pc' := 19) (l' := [some (.ref 0), some (.int (nI 1)), some (.int i), some (.int (nI 3)), some (.int j), some (.int n), none, none]) (st' := []) (σ' := σ) (pc2 := 16) (l2 := [some (.ref 0), some (.int (nI 1)), some (.int i), some (.int (nI 3)), some (.int j), some (.int n), none, none]) (st2 := []) (σ2 := σ) (fun f => rfl) (by decide) ?_
  refine pi_aq 4 (u := 1) (n := 4) (a := 47) (c := 50) (pc' := 25) (l' := [some (.ref 0), some (.int (nI 1)), some (.int i), some (.int (nI 3)), some (.int j), some (.int n), none, none]) (t := []) (σ' := σ) (fun f => rfl) (by omega) (by omega) rfl ?_
  refine pi_aq 5 (u := 3) (n := 4) (a := 47) (c := 54) (pc' := 33) (l' := [some (.ref 0), some (.int (nI 1)), some (.int i), some (.int (nI 3)), some (.int j), some (.int n), some (.ref 50), none]) (t := []) (σ' := σ) (fun f => rfl) (by omega) (by omega) rfl ?_
  refine pi_ca 3 (m' := 36) (l' := [some (.ref 50)]) (σ' := σ) (pc2 := 40) (l2 := [some (.ref 0), some (.int (nI 1)), some (.int i), some (.int (nI 3)), some (.int j), some (.int n), some (.ref 50), some (.ref 54)]) (t := []) (fun f => rfl) (pi_C_lost1_t hR.k hs0) ?_
  rintro _ _ ⟨rfl, rfl⟩
  refine pi_cf 1 (c := nI 1 = 0) (pc' := 51) (l' := [some (.ref 0), some (.int (nI 1)), some (.int i), some (.int (nI 3)), some (.int j), some (.int n), some (.ref 50), some (.ref 54)]) (st' := []) (σ' := σ) (pc2 := 43) (l2 := [some (.ref 0), some (.int (nI 1)), some (.int i), some (.int (nI 3)), some (.int j), some (.int n), some (.ref 50), some (.ref 54)]) (st2 := []) (σ2 := σ) (fun f => rfl) (by decide) ?_
  refine pi_ca 3 (m' := 96) (l' := [some (.ref 0), some (.int (nI 1))]) (σ' := σ) (pc2 := 56) (l2 := [some (.ref 0), some (.int (nI 1)), some (.int i), some (.int (nI 3)), some (.int j), some (.int n), some (.ref 50), some (.ref 54)]) (t := []) (fun f => rfl) (pi_C_found (nI 1)) ?_
  rintro _ t1 ⟨rfl, et1, kt1, rt1⟩
  refine pi_rt 1 (v := some (.int ((-10) - (nI 1)))) (σ' := t1) (fun f => rfl) ?_
  have hfr : pi_fr [0] t1 σ := pi_fr_tr rt1 (by decide) (pi_fr_rf)
  exact ⟨rfl, hR.fnd (et1) hfr, pi_fr_tr hfr (by decide) pi_fr_rf⟩
set_option maxRecDepth 20000 in
theorem pi_X_copy13_null2 {xs : Nat → Int32} {L d : Nat} {W : zW} {σ : pi_S} (hR : z_CR W σ) {i j n : Int32} (hs1 : ¬ W.th 1 = 0) (ht0 : W.th 3 = 0)  : pi_wp xs L (d + 9) 90 0 [some (.ref 0), some (.int (nI 1)), some (.int i), some (.int (nI 3)), some (.int j), some (.int n), none, none] [] σ (fun v s => v = some (.int ((-10) - (nI 1))) ∧ z_CR (W.sS 0 (nI 1)) s ∧ pi_fr z_CC s σ) := by
  have hk := hR.k.p.wk
  have hnd8 := hk.wd.nd8
  have hns12 := hk.wd.ns12
  have hn60 := hk.nine
  have hnf := hk.nf
  have hnw := hk.nw
  have hnc := hk.nc
  have hn08 := hk.wd.n0
  have hn140 := hk.wd.n1
  have hsi := hk.si 1 (by omega)
  have hti := hk.si 3 (by omega)
  refine pi_ca 3 (m' := 94) (l' := [some (.int (nI 1)), some (.int (nI 4))]) (σ' := σ) (pc2 := 5) (l2 := [some (.ref 0), some (.int (nI 1)), some (.int i), some (.int (nI 3)), some (.int j), some (.int n), none, none]) (t := []) (fun f => rfl) (pi_below1 _ _ (z_BL (by omega) (by omega))) ?_
  rintro _ _ ⟨rfl, rfl⟩
  refine pi_cf 1 (c := nI 1 = 0) (pc' := 8) (l' := [some (.ref 0), some (.int (nI 1)), some (.int i), some (.int (nI 3)), some (.int j), some (.int n), none, none]) (st' := []) (σ' := σ) (pc2 := 16) (l2 := [some (.ref 0), some (.int (nI 1)), some (.int i), some (.int (nI 3)), some (.int j), some (.int n), none, none]) (st2 := []) (σ2 := σ) (fun f => rfl) (by decide) ?_
  refine pi_ca 3 (m' := 94) (l' := [some (.int (nI 3)), some (.int (nI 4))]) (σ' := σ) (pc2 := 13) (l2 := [some (.ref 0), some (.int (nI 1)), some (.int i), some (.int (nI 3)), some (.int j), some (.int n), none, none]) (t := []) (fun f => rfl) (pi_below1 _ _ (z_BL (by omega) (by omega))) ?_
  rintro _ _ ⟨rfl, rfl⟩
  refine pi_cf 1 (c := nI 1 = 0) (pc' := 19) (l' := [some (.ref 0), some (.int (nI 1)), some (.int i), some (.int (nI 3)), some (.int j), some (.int n), none, none]) (st' := []) (σ' := σ) (pc2 := 16) (l2 := [some (.ref 0), some (.int (nI 1)), some (.int i), some (.int (nI 3)), some (.int j), some (.int n), none, none]) (st2 := []) (σ2 := σ) (fun f => rfl) (by decide) ?_
  refine pi_aq 4 (u := 1) (n := 4) (a := 47) (c := 50) (pc' := 25) (l' := [some (.ref 0), some (.int (nI 1)), some (.int i), some (.int (nI 3)), some (.int j), some (.int n), none, none]) (t := []) (σ' := σ) (fun f => rfl) (by omega) (by omega) rfl ?_
  refine pi_aq 5 (u := 3) (n := 4) (a := 47) (c := 54) (pc' := 33) (l' := [some (.ref 0), some (.int (nI 1)), some (.int i), some (.int (nI 3)), some (.int j), some (.int n), some (.ref 50), none]) (t := []) (σ' := σ) (fun f => rfl) (by omega) (by omega) rfl ?_
  refine pi_ca 3 (m' := 36) (l' := [some (.ref 50)]) (σ' := σ) (pc2 := 40) (l2 := [some (.ref 0), some (.int (nI 1)), some (.int i), some (.int (nI 3)), some (.int j), some (.int n), some (.ref 50), some (.ref 54)]) (t := []) (fun f => rfl) (pi_C_lost1_f hR.k hs1) ?_
  rintro _ _ ⟨rfl, rfl⟩
  refine pi_ct 1 (c := nI 0 = 0) (pc' := 43) (l' := [some (.ref 0), some (.int (nI 1)), some (.int i), some (.int (nI 3)), some (.int j), some (.int n), some (.ref 50), some (.ref 54)]) (st' := []) (σ' := σ) (pc2 := 51) (l2 := [some (.ref 0), some (.int (nI 1)), some (.int i), some (.int (nI 3)), some (.int j), some (.int n), some (.ref 50), some (.ref 54)]) (st2 := []) (σ2 := σ) (fun f => rfl) (by decide) ?_
  refine pi_ca 2 (m' := 36) (l' := [some (.ref 54)]) (σ' := σ) (pc2 := 48) (l2 := [some (.ref 0), some (.int (nI 1)), some (.int i), some (.int (nI 3)), some (.int j), some (.int n), some (.ref 50), some (.ref 54)]) (t := []) (fun f => rfl) (pi_C_lost3_t hR.k ht0) ?_
  rintro _ _ ⟨rfl, rfl⟩
  refine pi_cf 1 (c := nI 1 = 0) (pc' := 51) (l' := [some (.ref 0), some (.int (nI 1)), some (.int i), some (.int (nI 3)), some (.int j), some (.int n), some (.ref 50), some (.ref 54)]) (st' := []) (σ' := σ) (pc2 := 57) (l2 := [some (.ref 0), some (.int (nI 1)), some (.int i), some (.int (nI 3)), some (.int j), some (.int n), some (.ref 50), some (.ref 54)]) (st2 := []) (σ2 := σ) (fun f => rfl) (by decide) ?_
  refine pi_ca 3 (m' := 96) (l' := [some (.ref 0), some (.int (nI 1))]) (σ' := σ) (pc2 := 56) (l2 := [some (.ref 0), some (.int (nI 1)), some (.int i), some (.int (nI 3)), some (.int j), some (.int n), some (.ref 50), some (.ref 54)]) (t := []) (fun f => rfl) (pi_C_found (nI 1)) ?_
  rintro _ t1 ⟨rfl, et1, kt1, rt1⟩
  refine pi_rt 1 (v := some (.int ((-10) - (nI 1)))) (σ' := t1) (fun f => rfl) ?_
  have hfr : pi_fr [0] t1 σ := pi_fr_tr rt1 (by decide) (pi_fr_rf)
  exact ⟨rfl, hR.fnd (et1) hfr, pi_fr_tr hfr (by decide) pi_fr_rf⟩
set_option maxRecDepth 20000 in
theorem pi_X_copy13_store {xs : Nat → Int32} {L d : Nat} {W : zW} {σ : pi_S} (hR : z_CR W σ) {i j n : Int32} (hs1 : ¬ W.th 1 = 0) (ht1 : ¬ W.th 3 = 0) (h4 : ¬ W.fo 1 = W.fo 3)  : pi_wp xs L (d + 9) 90 0 [some (.ref 0), some (.int (nI 1)), some (.int i), some (.int (nI 3)), some (.int j), some (.int n), none, none] [] σ (fun v s => v = some (.int ((-10) - (nI 4))) ∧ z_CR (W.sS 0 (nI 4)) s ∧ pi_fr z_CC s σ) := by
  have hk := hR.k.p.wk
  have hnd8 := hk.wd.nd8
  have hns12 := hk.wd.ns12
  have hn60 := hk.nine
  have hnf := hk.nf
  have hnw := hk.nw
  have hnc := hk.nc
  have hn08 := hk.wd.n0
  have hn140 := hk.wd.n1
  have hsi := hk.si 1 (by omega)
  have hti := hk.si 3 (by omega)
  refine pi_ca 3 (m' := 94) (l' := [some (.int (nI 1)), some (.int (nI 4))]) (σ' := σ) (pc2 := 5) (l2 := [some (.ref 0), some (.int (nI 1)), some (.int i), some (.int (nI 3)), some (.int j), some (.int n), none, none]) (t := []) (fun f => rfl) (pi_below1 _ _ (z_BL (by omega) (by omega))) ?_
  rintro _ _ ⟨rfl, rfl⟩
  refine pi_cf 1 (c := nI 1 = 0) (pc' := 8) (l' := [some (.ref 0), some (.int (nI 1)), some (.int i), some (.int (nI 3)), some (.int j), some (.int n), none, none]) (st' := []) (σ' := σ) (pc2 := 16) (l2 := [some (.ref 0), some (.int (nI 1)), some (.int i), some (.int (nI 3)), some (.int j), some (.int n), none, none]) (st2 := []) (σ2 := σ) (fun f => rfl) (by decide) ?_
  refine pi_ca 3 (m' := 94) (l' := [some (.int (nI 3)), some (.int (nI 4))]) (σ' := σ) (pc2 := 13) (l2 := [some (.ref 0), some (.int (nI 1)), some (.int i), some (.int (nI 3)), some (.int j), some (.int n), none, none]) (t := []) (fun f => rfl) (pi_below1 _ _ (z_BL (by omega) (by omega))) ?_
  rintro _ _ ⟨rfl, rfl⟩
  refine pi_cf 1 (c := nI 1 = 0) (pc' := 19) (l' := [some (.ref 0), some (.int (nI 1)), some (.int i), some (.int (nI 3)), some (.int j), some (.int n), none, none]) (st' := []) (σ' := σ) (pc2 := 16) (l2 := [some (.ref 0), some (.int (nI 1)), some (.int i), some (.int (nI 3)), some (.int j), some (.int n), none, none]) (st2 := []) (σ2 := σ) (fun f => rfl) (by decide) ?_
  refine pi_aq 4 (u := 1) (n := 4) (a := 47) (c := 50) (pc' := 25) (l' := [some (.ref 0), some (.int (nI 1)), some (.int i), some (.int (nI 3)), some (.int j), some (.int n), none, none]) (t := []) (σ' := σ) (fun f => rfl) (by omega) (by omega) rfl ?_
  refine pi_aq 5 (u := 3) (n := 4) (a := 47) (c := 54) (pc' := 33) (l' := [some (.ref 0), some (.int (nI 1)), some (.int i), some (.int (nI 3)), some (.int j), some (.int n), some (.ref 50), none]) (t := []) (σ' := σ) (fun f => rfl) (by omega) (by omega) rfl ?_
  refine pi_ca 3 (m' := 36) (l' := [some (.ref 50)]) (σ' := σ) (pc2 := 40) (l2 := [some (.ref 0), some (.int (nI 1)), some (.int i), some (.int (nI 3)), some (.int j), some (.int n), some (.ref 50), some (.ref 54)]) (t := []) (fun f => rfl) (pi_C_lost1_f hR.k hs1) ?_
  rintro _ _ ⟨rfl, rfl⟩
  refine pi_ct 1 (c := nI 0 = 0) (pc' := 43) (l' := [some (.ref 0), some (.int (nI 1)), some (.int i), some (.int (nI 3)), some (.int j), some (.int n), some (.ref 50), some (.ref 54)]) (st' := []) (σ' := σ) (pc2 := 51) (l2 := [some (.ref 0), some (.int (nI 1)), some (.int i), some (.int (nI 3)), some (.int j), some (.int n), some (.ref 50), some (.ref 54)]) (st2 := []) (σ2 := σ) (fun f => rfl) (by decide) ?_
  refine pi_ca 2 (m' := 36) (l' := [some (.ref 54)]) (σ' := σ) (pc2 := 48) (l2 := [some (.ref 0), some (.int (nI 1)), some (.int i), some (.int (nI 3)), some (.int j), some (.int n), some (.ref 50), some (.ref 54)]) (t := []) (fun f => rfl) (pi_C_lost3_f hR.k ht1) ?_
  rintro _ _ ⟨rfl, rfl⟩
  refine pi_ct 1 (c := nI 0 = 0) (pc' := 57) (l' := [some (.ref 0), some (.int (nI 1)), some (.int i), some (.int (nI 3)), some (.int j), some (.int n), some (.ref 50), some (.ref 54)]) (st' := []) (σ' := σ) (pc2 := 51) (l2 := [some (.ref 0), some (.int (nI 1)), some (.int i), some (.int (nI 3)), some (.int j), some (.int n), some (.ref 50), some (.ref 54)]) (st2 := []) (σ2 := σ) (fun f => rfl) (by decide) ?_
  refine pi_go 2 (pc' := 62) (l' := [some (.ref 0), some (.int (nI 1)), some (.int i), some (.int (nI 3)), some (.int j), some (.int n), some (.ref 50), some (.ref 54)]) (st' := [.int (σ 50 1)]) (σ' := σ) (fun f => rfl) ?_
  refine pi_tp (y := nI (W.fo 1)) (hR.k.p.sf1) ?_
  refine pi_go 2 (pc' := 67) (l' := [some (.ref 0), some (.int (nI 1)), some (.int i), some (.int (nI 3)), some (.int j), some (.int n), some (.ref 50), some (.ref 54)]) (st' := [.int (σ 54 1), .int (nI (W.fo 1))]) (σ' := σ) (fun f => rfl) ?_
  refine pi_tp (y := nI (W.fo 3)) (hR.k.p.sf3) ?_
  refine pi_cf 1 (c := nI (W.fo 1) = nI (W.fo 3)) (pc' := 70) (l' := [some (.ref 0), some (.int (nI 1)), some (.int i), some (.int (nI 3)), some (.int j), some (.int n), some (.ref 50), some (.ref 54)]) (st' := []) (σ' := σ) (pc2 := 76) (l2 := [some (.ref 0), some (.int (nI 1)), some (.int i), some (.int (nI 3)), some (.int j), some (.int n), some (.ref 50), some (.ref 54)]) (st2 := []) (σ2 := σ) (fun f => rfl) (fun q => h4 ((nI_eq (by omega) (by omega)).mp q)) ?_
  refine pi_ca 3 (m' := 96) (l' := [some (.ref 0), some (.int (nI 4))]) (σ' := σ) (pc2 := 75) (l2 := [some (.ref 0), some (.int (nI 1)), some (.int i), some (.int (nI 3)), some (.int j), some (.int n), some (.ref 50), some (.ref 54)]) (t := []) (fun f => rfl) (pi_C_found (nI 4)) ?_
  rintro _ t1 ⟨rfl, et1, kt1, rt1⟩
  refine pi_rt 1 (v := some (.int ((-10) - (nI 4)))) (σ' := t1) (fun f => rfl) ?_
  have hfr : pi_fr [0] t1 σ := pi_fr_tr rt1 (by decide) (pi_fr_rf)
  exact ⟨rfl, hR.fnd (et1) hfr, pi_fr_tr hfr (by decide) pi_fr_rf⟩
set_option maxRecDepth 20000 in
theorem pi_X_copy13_index {xs : Nat → Int32} {L d : Nat} {W : zW} {σ : pi_S} (hR : z_CR W σ) {i j n : Int32} (hs1 : ¬ W.th 1 = 0) (ht1 : ¬ W.th 3 = 0) (h4 : W.fo 1 = W.fo 3) (hb : ¬ z_cp W 1 3 i j n)  : pi_wp xs L (d + 9) 90 0 [some (.ref 0), some (.int (nI 1)), some (.int i), some (.int (nI 3)), some (.int j), some (.int n), none, none] [] σ (fun v s => v = some (.int ((-10) - (nI 2))) ∧ z_CR (W.sS 0 (nI 2)) s ∧ pi_fr z_CC s σ) := by
  have hk := hR.k.p.wk
  have hnd8 := hk.wd.nd8
  have hns12 := hk.wd.ns12
  have hn60 := hk.nine
  have hnf := hk.nf
  have hnw := hk.nw
  have hnc := hk.nc
  have hn08 := hk.wd.n0
  have hn140 := hk.wd.n1
  have hsi := hk.si 1 (by omega)
  have hti := hk.si 3 (by omega)
  refine pi_ca 3 (m' := 94) (l' := [some (.int (nI 1)), some (.int (nI 4))]) (σ' := σ) (pc2 := 5) (l2 := [some (.ref 0), some (.int (nI 1)), some (.int i), some (.int (nI 3)), some (.int j), some (.int n), none, none]) (t := []) (fun f => rfl) (pi_below1 _ _ (z_BL (by omega) (by omega))) ?_
  rintro _ _ ⟨rfl, rfl⟩
  refine pi_cf 1 (c := nI 1 = 0) (pc' := 8) (l' := [some (.ref 0), some (.int (nI 1)), some (.int i), some (.int (nI 3)), some (.int j), some (.int n), none, none]) (st' := []) (σ' := σ) (pc2 := 16) (l2 := [some (.ref 0), some (.int (nI 1)), some (.int i), some (.int (nI 3)), some (.int j), some (.int n), none, none]) (st2 := []) (σ2 := σ) (fun f => rfl) (by decide) ?_
  refine pi_ca 3 (m' := 94) (l' := [some (.int (nI 3)), some (.int (nI 4))]) (σ' := σ) (pc2 := 13) (l2 := [some (.ref 0), some (.int (nI 1)), some (.int i), some (.int (nI 3)), some (.int j), some (.int n), none, none]) (t := []) (fun f => rfl) (pi_below1 _ _ (z_BL (by omega) (by omega))) ?_
  rintro _ _ ⟨rfl, rfl⟩
  refine pi_cf 1 (c := nI 1 = 0) (pc' := 19) (l' := [some (.ref 0), some (.int (nI 1)), some (.int i), some (.int (nI 3)), some (.int j), some (.int n), none, none]) (st' := []) (σ' := σ) (pc2 := 16) (l2 := [some (.ref 0), some (.int (nI 1)), some (.int i), some (.int (nI 3)), some (.int j), some (.int n), none, none]) (st2 := []) (σ2 := σ) (fun f => rfl) (by decide) ?_
  refine pi_aq 4 (u := 1) (n := 4) (a := 47) (c := 50) (pc' := 25) (l' := [some (.ref 0), some (.int (nI 1)), some (.int i), some (.int (nI 3)), some (.int j), some (.int n), none, none]) (t := []) (σ' := σ) (fun f => rfl) (by omega) (by omega) rfl ?_
  refine pi_aq 5 (u := 3) (n := 4) (a := 47) (c := 54) (pc' := 33) (l' := [some (.ref 0), some (.int (nI 1)), some (.int i), some (.int (nI 3)), some (.int j), some (.int n), some (.ref 50), none]) (t := []) (σ' := σ) (fun f => rfl) (by omega) (by omega) rfl ?_
  refine pi_ca 3 (m' := 36) (l' := [some (.ref 50)]) (σ' := σ) (pc2 := 40) (l2 := [some (.ref 0), some (.int (nI 1)), some (.int i), some (.int (nI 3)), some (.int j), some (.int n), some (.ref 50), some (.ref 54)]) (t := []) (fun f => rfl) (pi_C_lost1_f hR.k hs1) ?_
  rintro _ _ ⟨rfl, rfl⟩
  refine pi_ct 1 (c := nI 0 = 0) (pc' := 43) (l' := [some (.ref 0), some (.int (nI 1)), some (.int i), some (.int (nI 3)), some (.int j), some (.int n), some (.ref 50), some (.ref 54)]) (st' := []) (σ' := σ) (pc2 := 51) (l2 := [some (.ref 0), some (.int (nI 1)), some (.int i), some (.int (nI 3)), some (.int j), some (.int n), some (.ref 50), some (.ref 54)]) (st2 := []) (σ2 := σ) (fun f => rfl) (by decide) ?_
  refine pi_ca 2 (m' := 36) (l' := [some (.ref 54)]) (σ' := σ) (pc2 := 48) (l2 := [some (.ref 0), some (.int (nI 1)), some (.int i), some (.int (nI 3)), some (.int j), some (.int n), some (.ref 50), some (.ref 54)]) (t := []) (fun f => rfl) (pi_C_lost3_f hR.k ht1) ?_
  rintro _ _ ⟨rfl, rfl⟩
  refine pi_ct 1 (c := nI 0 = 0) (pc' := 57) (l' := [some (.ref 0), some (.int (nI 1)), some (.int i), some (.int (nI 3)), some (.int j), some (.int n), some (.ref 50), some (.ref 54)]) (st' := []) (σ' := σ) (pc2 := 51) (l2 := [some (.ref 0), some (.int (nI 1)), some (.int i), some (.int (nI 3)), some (.int j), some (.int n), some (.ref 50), some (.ref 54)]) (st2 := []) (σ2 := σ) (fun f => rfl) (by decide) ?_
  refine pi_go 2 (pc' := 62) (l' := [some (.ref 0), some (.int (nI 1)), some (.int i), some (.int (nI 3)), some (.int j), some (.int n), some (.ref 50), some (.ref 54)]) (st' := [.int (σ 50 1)]) (σ' := σ) (fun f => rfl) ?_
  refine pi_tp (y := nI (W.fo 1)) (hR.k.p.sf1) ?_
  refine pi_go 2 (pc' := 67) (l' := [some (.ref 0), some (.int (nI 1)), some (.int i), some (.int (nI 3)), some (.int j), some (.int n), some (.ref 50), some (.ref 54)]) (st' := [.int (σ 54 1), .int (nI (W.fo 1))]) (σ' := σ) (fun f => rfl) ?_
  refine pi_tp (y := nI (W.fo 3)) (hR.k.p.sf3) ?_
  refine pi_ct 1 (c := nI (W.fo 1) = nI (W.fo 3)) (pc' := 76) (l' := [some (.ref 0), some (.int (nI 1)), some (.int i), some (.int (nI 3)), some (.int j), some (.int n), some (.ref 50), some (.ref 54)]) (st' := []) (σ' := σ) (pc2 := 70) (l2 := [some (.ref 0), some (.int (nI 1)), some (.int i), some (.int (nI 3)), some (.int j), some (.int n), some (.ref 50), some (.ref 54)]) (st2 := []) (σ2 := σ) (fun f => rfl) (congrArg nI h4) ?_
  refine pi_ca 4 (m' := 39) (l' := [some (.ref 50), some (.int i), some (.int n)]) (σ' := σ) (pc2 := 84) (l2 := [some (.ref 0), some (.int (nI 1)), some (.int i), some (.int (nI 3)), some (.int j), some (.int n), some (.ref 50), some (.ref 54)]) (t := []) (fun f => rfl) (pi_C_hasRun1 hR.k hs1 i n) ?_
  rintro _ _ (⟨b1, rfl, rfl⟩ | ⟨b1, rfl, rfl⟩)
  · refine pi_cf 1 (c := nI 1 = 0) (pc' := 87) (l' := [some (.ref 0), some (.int (nI 1)), some (.int i), some (.int (nI 3)), some (.int j), some (.int n), some (.ref 50), some (.ref 54)]) (st' := []) (σ' := σ) (pc2 := 99) (l2 := [some (.ref 0), some (.int (nI 1)), some (.int i), some (.int (nI 3)), some (.int j), some (.int n), some (.ref 50), some (.ref 54)]) (st2 := []) (σ2 := σ) (fun f => rfl) (by decide) ?_
    refine pi_ca 4 (m' := 39) (l' := [some (.ref 54), some (.int j), some (.int n)]) (σ' := σ) (pc2 := 96) (l2 := [some (.ref 0), some (.int (nI 1)), some (.int i), some (.int (nI 3)), some (.int j), some (.int n), some (.ref 50), some (.ref 54)]) (t := []) (fun f => rfl) (pi_C_hasRun3 hR.k ht1 j n) ?_
    rintro _ _ (⟨b2, rfl, rfl⟩ | ⟨b2, rfl, rfl⟩)
    · refine pi_cf 1 (c := nI 1 = 0) (pc' := 105) (l' := [some (.ref 0), some (.int (nI 1)), some (.int i), some (.int (nI 3)), some (.int j), some (.int n), some (.ref 50), some (.ref 54)]) (st' := []) (σ' := σ) (pc2 := 99) (l2 := [some (.ref 0), some (.int (nI 1)), some (.int i), some (.int (nI 3)), some (.int j), some (.int n), some (.ref 50), some (.ref 54)]) (st2 := []) (σ2 := σ) (fun f => rfl) (by decide) ?_
      exact (hb (z_cp_hr hsi.1 hti.1 b1 b2)).elim
    · refine pi_ct 1 (c := nI 0 = 0) (pc' := 99) (l' := [some (.ref 0), some (.int (nI 1)), some (.int i), some (.int (nI 3)), some (.int j), some (.int n), some (.ref 50), some (.ref 54)]) (st' := []) (σ' := σ) (pc2 := 105) (l2 := [some (.ref 0), some (.int (nI 1)), some (.int i), some (.int (nI 3)), some (.int j), some (.int n), some (.ref 50), some (.ref 54)]) (st2 := []) (σ2 := σ) (fun f => rfl) (by decide) ?_
      refine pi_ca 3 (m' := 96) (l' := [some (.ref 0), some (.int (nI 2))]) (σ' := σ) (pc2 := 104) (l2 := [some (.ref 0), some (.int (nI 1)), some (.int i), some (.int (nI 3)), some (.int j), some (.int n), some (.ref 50), some (.ref 54)]) (t := []) (fun f => rfl) (pi_C_found (nI 2)) ?_
      rintro _ t1 ⟨rfl, et1, kt1, rt1⟩
      refine pi_rt 1 (v := some (.int ((-10) - (nI 2)))) (σ' := t1) (fun f => rfl) ?_
      have hfr : pi_fr [0] t1 σ := pi_fr_tr rt1 (by decide) (pi_fr_rf)
      exact ⟨rfl, hR.fnd (et1) hfr, pi_fr_tr hfr (by decide) pi_fr_rf⟩
  · refine pi_ct 1 (c := nI 0 = 0) (pc' := 99) (l' := [some (.ref 0), some (.int (nI 1)), some (.int i), some (.int (nI 3)), some (.int j), some (.int n), some (.ref 50), some (.ref 54)]) (st' := []) (σ' := σ) (pc2 := 87) (l2 := [some (.ref 0), some (.int (nI 1)), some (.int i), some (.int (nI 3)), some (.int j), some (.int n), some (.ref 50), some (.ref 54)]) (st2 := []) (σ2 := σ) (fun f => rfl) (by decide) ?_
    refine pi_ca 3 (m' := 96) (l' := [some (.ref 0), some (.int (nI 2))]) (σ' := σ) (pc2 := 104) (l2 := [some (.ref 0), some (.int (nI 1)), some (.int i), some (.int (nI 3)), some (.int j), some (.int n), some (.ref 50), some (.ref 54)]) (t := []) (fun f => rfl) (pi_C_found (nI 2)) ?_
    rintro _ t2 ⟨rfl, et2, kt2, rt2⟩
    refine pi_rt 1 (v := some (.int ((-10) - (nI 2)))) (σ' := t2) (fun f => rfl) ?_
    have hfr : pi_fr [0] t2 σ := pi_fr_tr rt2 (by decide) (pi_fr_rf)
    exact ⟨rfl, hR.fnd (et2) hfr, pi_fr_tr hfr (by decide) pi_fr_rf⟩
set_option maxRecDepth 20000 in
theorem pi_X_copy13 {xs : Nat → Int32} {L d : Nat} {W : zW} {σ : pi_S} (hR : z_CR W σ) {i j n : Nat} (hs1 : ¬ W.th 1 = 0) (ht1 : ¬ W.th 3 = 0) (h4 : W.fo 1 = W.fo 3) (hi : i + n ≤ W.si 1) (hj : j + n ≤ W.si 3)  : pi_wp xs L (d + 9) 90 0 [some (.ref 0), some (.int (nI 1)), some (.int (nI i)), some (.int (nI 3)), some (.int (nI j)), some (.int (nI n)), none, none] [] σ (fun v s => v = some (.int (nI 1)) ∧ z_CR (W.sI 9 (pi_lp (fun q f => upd f (48 * 3 + j + q) (W.it (48 * 1 + i + q))) n W.it)) s ∧ pi_fr z_CC s σ) := by
  have hk := hR.k.p.wk
  have hnd8 := hk.wd.nd8
  have hns12 := hk.wd.ns12
  have hn60 := hk.nine
  have hnf := hk.nf
  have hnw := hk.nw
  have hnc := hk.nc
  have hn08 := hk.wd.n0
  have hn140 := hk.wd.n1
  have hsi := hk.si 1 (by omega)
  have hti := hk.si 3 (by omega)
  refine pi_ca 3 (m' := 94) (l' := [some (.int (nI 1)), some (.int (nI 4))]) (σ' := σ) (pc2 := 5) (l2 := [some (.ref 0), some (.int (nI 1)), some (.int (nI i)), some (.int (nI 3)), some (.int (nI j)), some (.int (nI n)), none, none]) (t := []) (fun f => rfl) (pi_below1 _ _ (z_BL (by omega) (by omega))) ?_
  rintro _ _ ⟨rfl, rfl⟩
  refine pi_cf 1 (c := nI 1 = 0) (pc' := 8) (l' := [some (.ref 0), some (.int (nI 1)), some (.int (nI i)), some (.int (nI 3)), some (.int (nI j)), some (.int (nI n)), none, none]) (st' := []) (σ' := σ) (pc2 := 16) (l2 := [some (.ref 0), some (.int (nI 1)), some (.int (nI i)), some (.int (nI 3)), some (.int (nI j)), some (.int (nI n)), none, none]) (st2 := []) (σ2 := σ) (fun f => rfl) (by decide) ?_
  refine pi_ca 3 (m' := 94) (l' := [some (.int (nI 3)), some (.int (nI 4))]) (σ' := σ) (pc2 := 13) (l2 := [some (.ref 0), some (.int (nI 1)), some (.int (nI i)), some (.int (nI 3)), some (.int (nI j)), some (.int (nI n)), none, none]) (t := []) (fun f => rfl) (pi_below1 _ _ (z_BL (by omega) (by omega))) ?_
  rintro _ _ ⟨rfl, rfl⟩
  refine pi_cf 1 (c := nI 1 = 0) (pc' := 19) (l' := [some (.ref 0), some (.int (nI 1)), some (.int (nI i)), some (.int (nI 3)), some (.int (nI j)), some (.int (nI n)), none, none]) (st' := []) (σ' := σ) (pc2 := 16) (l2 := [some (.ref 0), some (.int (nI 1)), some (.int (nI i)), some (.int (nI 3)), some (.int (nI j)), some (.int (nI n)), none, none]) (st2 := []) (σ2 := σ) (fun f => rfl) (by decide) ?_
  refine pi_aq 4 (u := 1) (n := 4) (a := 47) (c := 50) (pc' := 25) (l' := [some (.ref 0), some (.int (nI 1)), some (.int (nI i)), some (.int (nI 3)), some (.int (nI j)), some (.int (nI n)), none, none]) (t := []) (σ' := σ) (fun f => rfl) (by omega) (by omega) rfl ?_
  refine pi_aq 5 (u := 3) (n := 4) (a := 47) (c := 54) (pc' := 33) (l' := [some (.ref 0), some (.int (nI 1)), some (.int (nI i)), some (.int (nI 3)), some (.int (nI j)), some (.int (nI n)), some (.ref 50), none]) (t := []) (σ' := σ) (fun f => rfl) (by omega) (by omega) rfl ?_
  refine pi_ca 3 (m' := 36) (l' := [some (.ref 50)]) (σ' := σ) (pc2 := 40) (l2 := [some (.ref 0), some (.int (nI 1)), some (.int (nI i)), some (.int (nI 3)), some (.int (nI j)), some (.int (nI n)), some (.ref 50), some (.ref 54)]) (t := []) (fun f => rfl) (pi_C_lost1_f hR.k hs1) ?_
  rintro _ _ ⟨rfl, rfl⟩
  refine pi_ct 1 (c := nI 0 = 0) (pc' := 43) (l' := [some (.ref 0), some (.int (nI 1)), some (.int (nI i)), some (.int (nI 3)), some (.int (nI j)), some (.int (nI n)), some (.ref 50), some (.ref 54)]) (st' := []) (σ' := σ) (pc2 := 51) (l2 := [some (.ref 0), some (.int (nI 1)), some (.int (nI i)), some (.int (nI 3)), some (.int (nI j)), some (.int (nI n)), some (.ref 50), some (.ref 54)]) (st2 := []) (σ2 := σ) (fun f => rfl) (by decide) ?_
  refine pi_ca 2 (m' := 36) (l' := [some (.ref 54)]) (σ' := σ) (pc2 := 48) (l2 := [some (.ref 0), some (.int (nI 1)), some (.int (nI i)), some (.int (nI 3)), some (.int (nI j)), some (.int (nI n)), some (.ref 50), some (.ref 54)]) (t := []) (fun f => rfl) (pi_C_lost3_f hR.k ht1) ?_
  rintro _ _ ⟨rfl, rfl⟩
  refine pi_ct 1 (c := nI 0 = 0) (pc' := 57) (l' := [some (.ref 0), some (.int (nI 1)), some (.int (nI i)), some (.int (nI 3)), some (.int (nI j)), some (.int (nI n)), some (.ref 50), some (.ref 54)]) (st' := []) (σ' := σ) (pc2 := 51) (l2 := [some (.ref 0), some (.int (nI 1)), some (.int (nI i)), some (.int (nI 3)), some (.int (nI j)), some (.int (nI n)), some (.ref 50), some (.ref 54)]) (st2 := []) (σ2 := σ) (fun f => rfl) (by decide) ?_
  refine pi_go 2 (pc' := 62) (l' := [some (.ref 0), some (.int (nI 1)), some (.int (nI i)), some (.int (nI 3)), some (.int (nI j)), some (.int (nI n)), some (.ref 50), some (.ref 54)]) (st' := [.int (σ 50 1)]) (σ' := σ) (fun f => rfl) ?_
  refine pi_tp (y := nI (W.fo 1)) (hR.k.p.sf1) ?_
  refine pi_go 2 (pc' := 67) (l' := [some (.ref 0), some (.int (nI 1)), some (.int (nI i)), some (.int (nI 3)), some (.int (nI j)), some (.int (nI n)), some (.ref 50), some (.ref 54)]) (st' := [.int (σ 54 1), .int (nI (W.fo 1))]) (σ' := σ) (fun f => rfl) ?_
  refine pi_tp (y := nI (W.fo 3)) (hR.k.p.sf3) ?_
  refine pi_ct 1 (c := nI (W.fo 1) = nI (W.fo 3)) (pc' := 76) (l' := [some (.ref 0), some (.int (nI 1)), some (.int (nI i)), some (.int (nI 3)), some (.int (nI j)), some (.int (nI n)), some (.ref 50), some (.ref 54)]) (st' := []) (σ' := σ) (pc2 := 70) (l2 := [some (.ref 0), some (.int (nI 1)), some (.int (nI i)), some (.int (nI 3)), some (.int (nI j)), some (.int (nI n)), some (.ref 50), some (.ref 54)]) (st2 := []) (σ2 := σ) (fun f => rfl) (congrArg nI h4) ?_
  refine pi_ca 4 (m' := 39) (l' := [some (.ref 50), some (.int (nI i)), some (.int (nI n))]) (σ' := σ) (pc2 := 84) (l2 := [some (.ref 0), some (.int (nI 1)), some (.int (nI i)), some (.int (nI 3)), some (.int (nI j)), some (.int (nI n)), some (.ref 50), some (.ref 54)]) (t := []) (fun f => rfl) (pi_C_hasRun1T hR.k hs1 ⟨i, n, rfl, rfl, hi⟩) ?_
  rintro _ _ ⟨rfl, rfl⟩
  refine pi_cf 1 (c := nI 1 = 0) (pc' := 87) (l' := [some (.ref 0), some (.int (nI 1)), some (.int (nI i)), some (.int (nI 3)), some (.int (nI j)), some (.int (nI n)), some (.ref 50), some (.ref 54)]) (st' := []) (σ' := σ) (pc2 := 99) (l2 := [some (.ref 0), some (.int (nI 1)), some (.int (nI i)), some (.int (nI 3)), some (.int (nI j)), some (.int (nI n)), some (.ref 50), some (.ref 54)]) (st2 := []) (σ2 := σ) (fun f => rfl) (by decide) ?_
  refine pi_ca 4 (m' := 39) (l' := [some (.ref 54), some (.int (nI j)), some (.int (nI n))]) (σ' := σ) (pc2 := 96) (l2 := [some (.ref 0), some (.int (nI 1)), some (.int (nI i)), some (.int (nI 3)), some (.int (nI j)), some (.int (nI n)), some (.ref 50), some (.ref 54)]) (t := []) (fun f => rfl) (pi_C_hasRun3T hR.k ht1 ⟨j, n, rfl, rfl, hj⟩) ?_
  rintro _ _ ⟨rfl, rfl⟩
  refine pi_cf 1 (c := nI 1 = 0) (pc' := 105) (l' := [some (.ref 0), some (.int (nI 1)), some (.int (nI i)), some (.int (nI 3)), some (.int (nI j)), some (.int (nI n)), some (.ref 50), some (.ref 54)]) (st' := []) (σ' := σ) (pc2 := 99) (l2 := [some (.ref 0), some (.int (nI 1)), some (.int (nI i)), some (.int (nI 3)), some (.int (nI j)), some (.int (nI n)), some (.ref 50), some (.ref 54)]) (st2 := []) (σ2 := σ) (fun f => rfl) (by decide) ?_
  refine pi_go 7 (pc' := 120) (l' := [some (.ref 0), some (.int (nI 1)), some (.int (nI i)), some (.int (nI 3)), some (.int (nI j)), some (.int (nI n)), some (.ref 50), some (.ref 54)]) (st' := [.int (nI n), .int (nI j), .ref 55, .int (nI i), .ref 51]) (σ' := σ) (fun f => rfl) ?_
  refine pi_gd 1 (c := ¬ nI i < 0 ∧ ¬ nI j < 0 ∧ ¬ nI n < 0 ∧ (nI i).toNatClampNeg + (nI n).toNatClampNeg ≤ 48 ∧ (nI j).toNatClampNeg + (nI n).toNatClampNeg ≤ 48) (pc' := 123) (l' := [some (.ref 0), some (.int (nI 1)), some (.int (nI i)), some (.int (nI 3)), some (.int (nI j)), some (.int (nI n)), some (.ref 50), some (.ref 54)]) (st' := []) (σ' := pi_cpy σ 51 55 (nI i).toNatClampNeg (nI j).toNatClampNeg (nI n).toNatClampNeg) (fun f => rfl) ⟨z_ltz (by omega), z_ltz (by omega), z_ltz (by omega), by rw [nI_clamp (by omega), nI_clamp (by omega)]; omega, by rw [nI_clamp (by omega), nI_clamp (by omega)]; omega⟩ ?_
  rw [show (nI i).toNatClampNeg = i from nI_clamp (by omega), show (nI j).toNatClampNeg = j from nI_clamp (by omega), show (nI n).toNatClampNeg = n from nI_clamp (by omega)]
  generalize es1 : pi_cpy σ 51 55 i j n = s1
  have rs1 := pi_cpy_fr es1
  refine pi_rt 2 (v := some (.int (nI 1))) (σ' := s1) (fun f => rfl) ?_
  have hfr : pi_fr [55] s1 σ := pi_fr_tr rs1 (by decide) (pi_fr_rf)
  exact ⟨rfl, hR.it3 (fun q hq => (congrFun (pi_cpy_at es1) q).trans (z_cp_row hR.k.p.si1 hR.k.p.si3 (by omega) (by omega) q hq)) (z_cp_o (by omega)) hfr, pi_fr_tr hfr (by decide) pi_fr_rf⟩
set_option maxRecDepth 20000 in
theorem pi_X_copy20_null1 {xs : Nat → Int32} {L d : Nat} {W : zW} {σ : pi_S} (hR : z_CR W σ) {i j n : Int32} (hs0 : W.th 2 = 0)  : pi_wp xs L (d + 9) 90 0 [some (.ref 0), some (.int (nI 2)), some (.int i), some (.int (nI 0)), some (.int j), some (.int n), none, none] [] σ (fun v s => v = some (.int ((-10) - (nI 1))) ∧ z_CR (W.sS 0 (nI 1)) s ∧ pi_fr z_CC s σ) := by
  have hk := hR.k.p.wk
  have hnd8 := hk.wd.nd8
  have hns12 := hk.wd.ns12
  have hn60 := hk.nine
  have hnf := hk.nf
  have hnw := hk.nw
  have hnc := hk.nc
  have hn08 := hk.wd.n0
  have hn140 := hk.wd.n1
  have hsi := hk.si 2 (by omega)
  have hti := hk.si 0 (by omega)
  refine pi_ca 3 (m' := 94) (l' := [some (.int (nI 2)), some (.int (nI 4))]) (σ' := σ) (pc2 := 5) (l2 := [some (.ref 0), some (.int (nI 2)), some (.int i), some (.int (nI 0)), some (.int j), some (.int n), none, none]) (t := []) (fun f => rfl) (pi_below1 _ _ (z_BL (by omega) (by omega))) ?_
  rintro _ _ ⟨rfl, rfl⟩
  refine pi_cf 1 (c := nI 1 = 0) (pc' := 8) (l' := [some (.ref 0), some (.int (nI 2)), some (.int i), some (.int (nI 0)), some (.int j), some (.int n), none, none]) (st' := []) (σ' := σ) (pc2 := 16) (l2 := [some (.ref 0), some (.int (nI 2)), some (.int i), some (.int (nI 0)), some (.int j), some (.int n), none, none]) (st2 := []) (σ2 := σ) (fun f => rfl) (by decide) ?_
  refine pi_ca 3 (m' := 94) (l' := [some (.int (nI 0)), some (.int (nI 4))]) (σ' := σ) (pc2 := 13) (l2 := [some (.ref 0), some (.int (nI 2)), some (.int i), some (.int (nI 0)), some (.int j), some (.int n), none, none]) (t := []) (fun f => rfl) (pi_below1 _ _ (z_BL (by omega) (by omega))) ?_
  rintro _ _ ⟨rfl, rfl⟩
  refine pi_cf 1 (c := nI 1 = 0) (pc' := 19) (l' := [some (.ref 0), some (.int (nI 2)), some (.int i), some (.int (nI 0)), some (.int j), some (.int n), none, none]) (st' := []) (σ' := σ) (pc2 := 16) (l2 := [some (.ref 0), some (.int (nI 2)), some (.int i), some (.int (nI 0)), some (.int j), some (.int n), none, none]) (st2 := []) (σ2 := σ) (fun f => rfl) (by decide) ?_
  refine pi_aq 4 (u := 2) (n := 4) (a := 47) (c := 52) (pc' := 25) (l' := [some (.ref 0), some (.int (nI 2)), some (.int i), some (.int (nI 0)), some (.int j), some (.int n), none, none]) (t := []) (σ' := σ) (fun f => rfl) (by omega) (by omega) rfl ?_
  refine pi_aq 5 (u := 0) (n := 4) (a := 47) (c := 48) (pc' := 33) (l' := [some (.ref 0), some (.int (nI 2)), some (.int i), some (.int (nI 0)), some (.int j), some (.int n), some (.ref 52), none]) (t := []) (σ' := σ) (fun f => rfl) (by omega) (by omega) rfl ?_
  refine pi_ca 3 (m' := 36) (l' := [some (.ref 52)]) (σ' := σ) (pc2 := 40) (l2 := [some (.ref 0), some (.int (nI 2)), some (.int i), some (.int (nI 0)), some (.int j), some (.int n), some (.ref 52), some (.ref 48)]) (t := []) (fun f => rfl) (pi_C_lost2_t hR.k hs0) ?_
  rintro _ _ ⟨rfl, rfl⟩
  refine pi_cf 1 (c := nI 1 = 0) (pc' := 51) (l' := [some (.ref 0), some (.int (nI 2)), some (.int i), some (.int (nI 0)), some (.int j), some (.int n), some (.ref 52), some (.ref 48)]) (st' := []) (σ' := σ) (pc2 := 43) (l2 := [some (.ref 0), some (.int (nI 2)), some (.int i), some (.int (nI 0)), some (.int j), some (.int n), some (.ref 52), some (.ref 48)]) (st2 := []) (σ2 := σ) (fun f => rfl) (by decide) ?_
  refine pi_ca 3 (m' := 96) (l' := [some (.ref 0), some (.int (nI 1))]) (σ' := σ) (pc2 := 56) (l2 := [some (.ref 0), some (.int (nI 2)), some (.int i), some (.int (nI 0)), some (.int j), some (.int n), some (.ref 52), some (.ref 48)]) (t := []) (fun f => rfl) (pi_C_found (nI 1)) ?_
  rintro _ t1 ⟨rfl, et1, kt1, rt1⟩
  refine pi_rt 1 (v := some (.int ((-10) - (nI 1)))) (σ' := t1) (fun f => rfl) ?_
  have hfr : pi_fr [0] t1 σ := pi_fr_tr rt1 (by decide) (pi_fr_rf)
  exact ⟨rfl, hR.fnd (et1) hfr, pi_fr_tr hfr (by decide) pi_fr_rf⟩
set_option maxRecDepth 20000 in
theorem pi_X_copy20_null2 {xs : Nat → Int32} {L d : Nat} {W : zW} {σ : pi_S} (hR : z_CR W σ) {i j n : Int32} (hs1 : ¬ W.th 2 = 0) (ht0 : W.th 0 = 0)  : pi_wp xs L (d + 9) 90 0 [some (.ref 0), some (.int (nI 2)), some (.int i), some (.int (nI 0)), some (.int j), some (.int n), none, none] [] σ (fun v s => v = some (.int ((-10) - (nI 1))) ∧ z_CR (W.sS 0 (nI 1)) s ∧ pi_fr z_CC s σ) := by
  have hk := hR.k.p.wk
  have hnd8 := hk.wd.nd8
  have hns12 := hk.wd.ns12
  have hn60 := hk.nine
  have hnf := hk.nf
  have hnw := hk.nw
  have hnc := hk.nc
  have hn08 := hk.wd.n0
  have hn140 := hk.wd.n1
  have hsi := hk.si 2 (by omega)
  have hti := hk.si 0 (by omega)
  refine pi_ca 3 (m' := 94) (l' := [some (.int (nI 2)), some (.int (nI 4))]) (σ' := σ) (pc2 := 5) (l2 := [some (.ref 0), some (.int (nI 2)), some (.int i), some (.int (nI 0)), some (.int j), some (.int n), none, none]) (t := []) (fun f => rfl) (pi_below1 _ _ (z_BL (by omega) (by omega))) ?_
  rintro _ _ ⟨rfl, rfl⟩
  refine pi_cf 1 (c := nI 1 = 0) (pc' := 8) (l' := [some (.ref 0), some (.int (nI 2)), some (.int i), some (.int (nI 0)), some (.int j), some (.int n), none, none]) (st' := []) (σ' := σ) (pc2 := 16) (l2 := [some (.ref 0), some (.int (nI 2)), some (.int i), some (.int (nI 0)), some (.int j), some (.int n), none, none]) (st2 := []) (σ2 := σ) (fun f => rfl) (by decide) ?_
  refine pi_ca 3 (m' := 94) (l' := [some (.int (nI 0)), some (.int (nI 4))]) (σ' := σ) (pc2 := 13) (l2 := [some (.ref 0), some (.int (nI 2)), some (.int i), some (.int (nI 0)), some (.int j), some (.int n), none, none]) (t := []) (fun f => rfl) (pi_below1 _ _ (z_BL (by omega) (by omega))) ?_
  rintro _ _ ⟨rfl, rfl⟩
  refine pi_cf 1 (c := nI 1 = 0) (pc' := 19) (l' := [some (.ref 0), some (.int (nI 2)), some (.int i), some (.int (nI 0)), some (.int j), some (.int n), none, none]) (st' := []) (σ' := σ) (pc2 := 16) (l2 := [some (.ref 0), some (.int (nI 2)), some (.int i), some (.int (nI 0)), some (.int j), some (.int n), none, none]) (st2 := []) (σ2 := σ) (fun f => rfl) (by decide) ?_
  refine pi_aq 4 (u := 2) (n := 4) (a := 47) (c := 52) (pc' := 25) (l' := [some (.ref 0), some (.int (nI 2)), some (.int i), some (.int (nI 0)), some (.int j), some (.int n), none, none]) (t := []) (σ' := σ) (fun f => rfl) (by omega) (by omega) rfl ?_
  refine pi_aq 5 (u := 0) (n := 4) (a := 47) (c := 48) (pc' := 33) (l' := [some (.ref 0), some (.int (nI 2)), some (.int i), some (.int (nI 0)), some (.int j), some (.int n), some (.ref 52), none]) (t := []) (σ' := σ) (fun f => rfl) (by omega) (by omega) rfl ?_
  refine pi_ca 3 (m' := 36) (l' := [some (.ref 52)]) (σ' := σ) (pc2 := 40) (l2 := [some (.ref 0), some (.int (nI 2)), some (.int i), some (.int (nI 0)), some (.int j), some (.int n), some (.ref 52), some (.ref 48)]) (t := []) (fun f => rfl) (pi_C_lost2_f hR.k hs1) ?_
  rintro _ _ ⟨rfl, rfl⟩
  refine pi_ct 1 (c := nI 0 = 0) (pc' := 43) (l' := [some (.ref 0), some (.int (nI 2)), some (.int i), some (.int (nI 0)), some (.int j), some (.int n), some (.ref 52), some (.ref 48)]) (st' := []) (σ' := σ) (pc2 := 51) (l2 := [some (.ref 0), some (.int (nI 2)), some (.int i), some (.int (nI 0)), some (.int j), some (.int n), some (.ref 52), some (.ref 48)]) (st2 := []) (σ2 := σ) (fun f => rfl) (by decide) ?_
  refine pi_ca 2 (m' := 36) (l' := [some (.ref 48)]) (σ' := σ) (pc2 := 48) (l2 := [some (.ref 0), some (.int (nI 2)), some (.int i), some (.int (nI 0)), some (.int j), some (.int n), some (.ref 52), some (.ref 48)]) (t := []) (fun f => rfl) (pi_C_lost0_t hR.k ht0) ?_
  rintro _ _ ⟨rfl, rfl⟩
  refine pi_cf 1 (c := nI 1 = 0) (pc' := 51) (l' := [some (.ref 0), some (.int (nI 2)), some (.int i), some (.int (nI 0)), some (.int j), some (.int n), some (.ref 52), some (.ref 48)]) (st' := []) (σ' := σ) (pc2 := 57) (l2 := [some (.ref 0), some (.int (nI 2)), some (.int i), some (.int (nI 0)), some (.int j), some (.int n), some (.ref 52), some (.ref 48)]) (st2 := []) (σ2 := σ) (fun f => rfl) (by decide) ?_
  refine pi_ca 3 (m' := 96) (l' := [some (.ref 0), some (.int (nI 1))]) (σ' := σ) (pc2 := 56) (l2 := [some (.ref 0), some (.int (nI 2)), some (.int i), some (.int (nI 0)), some (.int j), some (.int n), some (.ref 52), some (.ref 48)]) (t := []) (fun f => rfl) (pi_C_found (nI 1)) ?_
  rintro _ t1 ⟨rfl, et1, kt1, rt1⟩
  refine pi_rt 1 (v := some (.int ((-10) - (nI 1)))) (σ' := t1) (fun f => rfl) ?_
  have hfr : pi_fr [0] t1 σ := pi_fr_tr rt1 (by decide) (pi_fr_rf)
  exact ⟨rfl, hR.fnd (et1) hfr, pi_fr_tr hfr (by decide) pi_fr_rf⟩
set_option maxRecDepth 20000 in
theorem pi_X_copy20_store {xs : Nat → Int32} {L d : Nat} {W : zW} {σ : pi_S} (hR : z_CR W σ) {i j n : Int32} (hs1 : ¬ W.th 2 = 0) (ht1 : ¬ W.th 0 = 0) (h4 : ¬ W.fo 2 = W.fo 0)  : pi_wp xs L (d + 9) 90 0 [some (.ref 0), some (.int (nI 2)), some (.int i), some (.int (nI 0)), some (.int j), some (.int n), none, none] [] σ (fun v s => v = some (.int ((-10) - (nI 4))) ∧ z_CR (W.sS 0 (nI 4)) s ∧ pi_fr z_CC s σ) := by
  have hk := hR.k.p.wk
  have hnd8 := hk.wd.nd8
  have hns12 := hk.wd.ns12
  have hn60 := hk.nine
  have hnf := hk.nf
  have hnw := hk.nw
  have hnc := hk.nc
  have hn08 := hk.wd.n0
  have hn140 := hk.wd.n1
  have hsi := hk.si 2 (by omega)
  have hti := hk.si 0 (by omega)
  refine pi_ca 3 (m' := 94) (l' := [some (.int (nI 2)), some (.int (nI 4))]) (σ' := σ) (pc2 := 5) (l2 := [some (.ref 0), some (.int (nI 2)), some (.int i), some (.int (nI 0)), some (.int j), some (.int n), none, none]) (t := []) (fun f => rfl) (pi_below1 _ _ (z_BL (by omega) (by omega))) ?_
  rintro _ _ ⟨rfl, rfl⟩
  refine pi_cf 1 (c := nI 1 = 0) (pc' := 8) (l' := [some (.ref 0), some (.int (nI 2)), some (.int i), some (.int (nI 0)), some (.int j), some (.int n), none, none]) (st' := []) (σ' := σ) (pc2 := 16) (l2 := [some (.ref 0), some (.int (nI 2)), some (.int i), some (.int (nI 0)), some (.int j), some (.int n), none, none]) (st2 := []) (σ2 := σ) (fun f => rfl) (by decide) ?_
  refine pi_ca 3 (m' := 94) (l' := [some (.int (nI 0)), some (.int (nI 4))]) (σ' := σ) (pc2 := 13) (l2 := [some (.ref 0), some (.int (nI 2)), some (.int i), some (.int (nI 0)), some (.int j), some (.int n), none, none]) (t := []) (fun f => rfl) (pi_below1 _ _ (z_BL (by omega) (by omega))) ?_
  rintro _ _ ⟨rfl, rfl⟩
  refine pi_cf 1 (c := nI 1 = 0) (pc' := 19) (l' := [some (.ref 0), some (.int (nI 2)), some (.int i), some (.int (nI 0)), some (.int j), some (.int n), none, none]) (st' := []) (σ' := σ) (pc2 := 16) (l2 := [some (.ref 0), some (.int (nI 2)), some (.int i), some (.int (nI 0)), some (.int j), some (.int n), none, none]) (st2 := []) (σ2 := σ) (fun f => rfl) (by decide) ?_
  refine pi_aq 4 (u := 2) (n := 4) (a := 47) (c := 52) (pc' := 25) (l' := [some (.ref 0), some (.int (nI 2)), some (.int i), some (.int (nI 0)), some (.int j), some (.int n), none, none]) (t := []) (σ' := σ) (fun f => rfl) (by omega) (by omega) rfl ?_
  refine pi_aq 5 (u := 0) (n := 4) (a := 47) (c := 48) (pc' := 33) (l' := [some (.ref 0), some (.int (nI 2)), some (.int i), some (.int (nI 0)), some (.int j), some (.int n), some (.ref 52), none]) (t := []) (σ' := σ) (fun f => rfl) (by omega) (by omega) rfl ?_
  refine pi_ca 3 (m' := 36) (l' := [some (.ref 52)]) (σ' := σ) (pc2 := 40) (l2 := [some (.ref 0), some (.int (nI 2)), some (.int i), some (.int (nI 0)), some (.int j), some (.int n), some (.ref 52), some (.ref 48)]) (t := []) (fun f => rfl) (pi_C_lost2_f hR.k hs1) ?_
  rintro _ _ ⟨rfl, rfl⟩
  refine pi_ct 1 (c := nI 0 = 0) (pc' := 43) (l' := [some (.ref 0), some (.int (nI 2)), some (.int i), some (.int (nI 0)), some (.int j), some (.int n), some (.ref 52), some (.ref 48)]) (st' := []) (σ' := σ) (pc2 := 51) (l2 := [some (.ref 0), some (.int (nI 2)), some (.int i), some (.int (nI 0)), some (.int j), some (.int n), some (.ref 52), some (.ref 48)]) (st2 := []) (σ2 := σ) (fun f => rfl) (by decide) ?_
  refine pi_ca 2 (m' := 36) (l' := [some (.ref 48)]) (σ' := σ) (pc2 := 48) (l2 := [some (.ref 0), some (.int (nI 2)), some (.int i), some (.int (nI 0)), some (.int j), some (.int n), some (.ref 52), some (.ref 48)]) (t := []) (fun f => rfl) (pi_C_lost0_f hR.k ht1) ?_
  rintro _ _ ⟨rfl, rfl⟩
  refine pi_ct 1 (c := nI 0 = 0) (pc' := 57) (l' := [some (.ref 0), some (.int (nI 2)), some (.int i), some (.int (nI 0)), some (.int j), some (.int n), some (.ref 52), some (.ref 48)]) (st' := []) (σ' := σ) (pc2 := 51) (l2 := [some (.ref 0), some (.int (nI 2)), some (.int i), some (.int (nI 0)), some (.int j), some (.int n), some (.ref 52), some (.ref 48)]) (st2 := []) (σ2 := σ) (fun f => rfl) (by decide) ?_
  refine pi_go 2 (pc' := 62) (l' := [some (.ref 0), some (.int (nI 2)), some (.int i), some (.int (nI 0)), some (.int j), some (.int n), some (.ref 52), some (.ref 48)]) (st' := [.int (σ 52 1)]) (σ' := σ) (fun f => rfl) ?_
  refine pi_tp (y := nI (W.fo 2)) (hR.k.p.sf2) ?_
  refine pi_go 2 (pc' := 67) (l' := [some (.ref 0), some (.int (nI 2)), some (.int i), some (.int (nI 0)), some (.int j), some (.int n), some (.ref 52), some (.ref 48)]) (st' := [.int (σ 48 1), .int (nI (W.fo 2))]) (σ' := σ) (fun f => rfl) ?_
  refine pi_tp (y := nI (W.fo 0)) (hR.k.p.sf0) ?_
  refine pi_cf 1 (c := nI (W.fo 2) = nI (W.fo 0)) (pc' := 70) (l' := [some (.ref 0), some (.int (nI 2)), some (.int i), some (.int (nI 0)), some (.int j), some (.int n), some (.ref 52), some (.ref 48)]) (st' := []) (σ' := σ) (pc2 := 76) (l2 := [some (.ref 0), some (.int (nI 2)), some (.int i), some (.int (nI 0)), some (.int j), some (.int n), some (.ref 52), some (.ref 48)]) (st2 := []) (σ2 := σ) (fun f => rfl) (fun q => h4 ((nI_eq (by omega) (by omega)).mp q)) ?_
  refine pi_ca 3 (m' := 96) (l' := [some (.ref 0), some (.int (nI 4))]) (σ' := σ) (pc2 := 75) (l2 := [some (.ref 0), some (.int (nI 2)), some (.int i), some (.int (nI 0)), some (.int j), some (.int n), some (.ref 52), some (.ref 48)]) (t := []) (fun f => rfl) (pi_C_found (nI 4)) ?_
  rintro _ t1 ⟨rfl, et1, kt1, rt1⟩
  refine pi_rt 1 (v := some (.int ((-10) - (nI 4)))) (σ' := t1) (fun f => rfl) ?_
  have hfr : pi_fr [0] t1 σ := pi_fr_tr rt1 (by decide) (pi_fr_rf)
  exact ⟨rfl, hR.fnd (et1) hfr, pi_fr_tr hfr (by decide) pi_fr_rf⟩
set_option maxRecDepth 20000 in
theorem pi_X_copy20_index {xs : Nat → Int32} {L d : Nat} {W : zW} {σ : pi_S} (hR : z_CR W σ) {i j n : Int32} (hs1 : ¬ W.th 2 = 0) (ht1 : ¬ W.th 0 = 0) (h4 : W.fo 2 = W.fo 0) (hb : ¬ z_cp W 2 0 i j n)  : pi_wp xs L (d + 9) 90 0 [some (.ref 0), some (.int (nI 2)), some (.int i), some (.int (nI 0)), some (.int j), some (.int n), none, none] [] σ (fun v s => v = some (.int ((-10) - (nI 2))) ∧ z_CR (W.sS 0 (nI 2)) s ∧ pi_fr z_CC s σ) := by
  have hk := hR.k.p.wk
  have hnd8 := hk.wd.nd8
  have hns12 := hk.wd.ns12
  have hn60 := hk.nine
  have hnf := hk.nf
  have hnw := hk.nw
  have hnc := hk.nc
  have hn08 := hk.wd.n0
  have hn140 := hk.wd.n1
  have hsi := hk.si 2 (by omega)
  have hti := hk.si 0 (by omega)
  refine pi_ca 3 (m' := 94) (l' := [some (.int (nI 2)), some (.int (nI 4))]) (σ' := σ) (pc2 := 5) (l2 := [some (.ref 0), some (.int (nI 2)), some (.int i), some (.int (nI 0)), some (.int j), some (.int n), none, none]) (t := []) (fun f => rfl) (pi_below1 _ _ (z_BL (by omega) (by omega))) ?_
  rintro _ _ ⟨rfl, rfl⟩
  refine pi_cf 1 (c := nI 1 = 0) (pc' := 8) (l' := [some (.ref 0), some (.int (nI 2)), some (.int i), some (.int (nI 0)), some (.int j), some (.int n), none, none]) (st' := []) (σ' := σ) (pc2 := 16) (l2 := [some (.ref 0), some (.int (nI 2)), some (.int i), some (.int (nI 0)), some (.int j), some (.int n), none, none]) (st2 := []) (σ2 := σ) (fun f => rfl) (by decide) ?_
  refine pi_ca 3 (m' := 94) (l' := [some (.int (nI 0)), some (.int (nI 4))]) (σ' := σ) (pc2 := 13) (l2 := [some (.ref 0), some (.int (nI 2)), some (.int i), some (.int (nI 0)), some (.int j), some (.int n), none, none]) (t := []) (fun f => rfl) (pi_below1 _ _ (z_BL (by omega) (by omega))) ?_
  rintro _ _ ⟨rfl, rfl⟩
  refine pi_cf 1 (c := nI 1 = 0) (pc' := 19) (l' := [some (.ref 0), some (.int (nI 2)), some (.int i), some (.int (nI 0)), some (.int j), some (.int n), none, none]) (st' := []) (σ' := σ) (pc2 := 16) (l2 := [some (.ref 0), some (.int (nI 2)), some (.int i), some (.int (nI 0)), some (.int j), some (.int n), none, none]) (st2 := []) (σ2 := σ) (fun f => rfl) (by decide) ?_
  refine pi_aq 4 (u := 2) (n := 4) (a := 47) (c := 52) (pc' := 25) (l' := [some (.ref 0), some (.int (nI 2)), some (.int i), some (.int (nI 0)), some (.int j), some (.int n), none, none]) (t := []) (σ' := σ) (fun f => rfl) (by omega) (by omega) rfl ?_
  refine pi_aq 5 (u := 0) (n := 4) (a := 47) (c := 48) (pc' := 33) (l' := [some (.ref 0), some (.int (nI 2)), some (.int i), some (.int (nI 0)), some (.int j), some (.int n), some (.ref 52), none]) (t := []) (σ' := σ) (fun f => rfl) (by omega) (by omega) rfl ?_
  refine pi_ca 3 (m' := 36) (l' := [some (.ref 52)]) (σ' := σ) (pc2 := 40) (l2 := [some (.ref 0), some (.int (nI 2)), some (.int i), some (.int (nI 0)), some (.int j), some (.int n), some (.ref 52), some (.ref 48)]) (t := []) (fun f => rfl) (pi_C_lost2_f hR.k hs1) ?_
  rintro _ _ ⟨rfl, rfl⟩
  refine pi_ct 1 (c := nI 0 = 0) (pc' := 43) (l' := [some (.ref 0), some (.int (nI 2)), some (.int i), some (.int (nI 0)), some (.int j), some (.int n), some (.ref 52), some (.ref 48)]) (st' := []) (σ' := σ) (pc2 := 51) (l2 := [some (.ref 0), some (.int (nI 2)), some (.int i), some (.int (nI 0)), some (.int j), some (.int n), some (.ref 52), some (.ref 48)]) (st2 := []) (σ2 := σ) (fun f => rfl) (by decide) ?_
  refine pi_ca 2 (m' := 36) (l' := [some (.ref 48)]) (σ' := σ) (pc2 := 48) (l2 := [some (.ref 0), some (.int (nI 2)), some (.int i), some (.int (nI 0)), some (.int j), some (.int n), some (.ref 52), some (.ref 48)]) (t := []) (fun f => rfl) (pi_C_lost0_f hR.k ht1) ?_
  rintro _ _ ⟨rfl, rfl⟩
  refine pi_ct 1 (c := nI 0 = 0) (pc' := 57) (l' := [some (.ref 0), some (.int (nI 2)), some (.int i), some (.int (nI 0)), some (.int j), some (.int n), some (.ref 52), some (.ref 48)]) (st' := []) (σ' := σ) (pc2 := 51) (l2 := [some (.ref 0), some (.int (nI 2)), some (.int i), some (.int (nI 0)), some (.int j), some (.int n), some (.ref 52), some (.ref 48)]) (st2 := []) (σ2 := σ) (fun f => rfl) (by decide) ?_
  refine pi_go 2 (pc' := 62) (l' := [some (.ref 0), some (.int (nI 2)), some (.int i), some (.int (nI 0)), some (.int j), some (.int n), some (.ref 52), some (.ref 48)]) (st' := [.int (σ 52 1)]) (σ' := σ) (fun f => rfl) ?_
  refine pi_tp (y := nI (W.fo 2)) (hR.k.p.sf2) ?_
  refine pi_go 2 (pc' := 67) (l' := [some (.ref 0), some (.int (nI 2)), some (.int i), some (.int (nI 0)), some (.int j), some (.int n), some (.ref 52), some (.ref 48)]) (st' := [.int (σ 48 1), .int (nI (W.fo 2))]) (σ' := σ) (fun f => rfl) ?_
  refine pi_tp (y := nI (W.fo 0)) (hR.k.p.sf0) ?_
  refine pi_ct 1 (c := nI (W.fo 2) = nI (W.fo 0)) (pc' := 76) (l' := [some (.ref 0), some (.int (nI 2)), some (.int i), some (.int (nI 0)), some (.int j), some (.int n), some (.ref 52), some (.ref 48)]) (st' := []) (σ' := σ) (pc2 := 70) (l2 := [some (.ref 0), some (.int (nI 2)), some (.int i), some (.int (nI 0)), some (.int j), some (.int n), some (.ref 52), some (.ref 48)]) (st2 := []) (σ2 := σ) (fun f => rfl) (congrArg nI h4) ?_
  refine pi_ca 4 (m' := 39) (l' := [some (.ref 52), some (.int i), some (.int n)]) (σ' := σ) (pc2 := 84) (l2 := [some (.ref 0), some (.int (nI 2)), some (.int i), some (.int (nI 0)), some (.int j), some (.int n), some (.ref 52), some (.ref 48)]) (t := []) (fun f => rfl) (pi_C_hasRun2 hR.k hs1 i n) ?_
  rintro _ _ (⟨b1, rfl, rfl⟩ | ⟨b1, rfl, rfl⟩)
  · refine pi_cf 1 (c := nI 1 = 0) (pc' := 87) (l' := [some (.ref 0), some (.int (nI 2)), some (.int i), some (.int (nI 0)), some (.int j), some (.int n), some (.ref 52), some (.ref 48)]) (st' := []) (σ' := σ) (pc2 := 99) (l2 := [some (.ref 0), some (.int (nI 2)), some (.int i), some (.int (nI 0)), some (.int j), some (.int n), some (.ref 52), some (.ref 48)]) (st2 := []) (σ2 := σ) (fun f => rfl) (by decide) ?_
    refine pi_ca 4 (m' := 39) (l' := [some (.ref 48), some (.int j), some (.int n)]) (σ' := σ) (pc2 := 96) (l2 := [some (.ref 0), some (.int (nI 2)), some (.int i), some (.int (nI 0)), some (.int j), some (.int n), some (.ref 52), some (.ref 48)]) (t := []) (fun f => rfl) (pi_C_hasRun0 hR.k ht1 j n) ?_
    rintro _ _ (⟨b2, rfl, rfl⟩ | ⟨b2, rfl, rfl⟩)
    · refine pi_cf 1 (c := nI 1 = 0) (pc' := 105) (l' := [some (.ref 0), some (.int (nI 2)), some (.int i), some (.int (nI 0)), some (.int j), some (.int n), some (.ref 52), some (.ref 48)]) (st' := []) (σ' := σ) (pc2 := 99) (l2 := [some (.ref 0), some (.int (nI 2)), some (.int i), some (.int (nI 0)), some (.int j), some (.int n), some (.ref 52), some (.ref 48)]) (st2 := []) (σ2 := σ) (fun f => rfl) (by decide) ?_
      exact (hb (z_cp_hr hsi.1 hti.1 b1 b2)).elim
    · refine pi_ct 1 (c := nI 0 = 0) (pc' := 99) (l' := [some (.ref 0), some (.int (nI 2)), some (.int i), some (.int (nI 0)), some (.int j), some (.int n), some (.ref 52), some (.ref 48)]) (st' := []) (σ' := σ) (pc2 := 105) (l2 := [some (.ref 0), some (.int (nI 2)), some (.int i), some (.int (nI 0)), some (.int j), some (.int n), some (.ref 52), some (.ref 48)]) (st2 := []) (σ2 := σ) (fun f => rfl) (by decide) ?_
      refine pi_ca 3 (m' := 96) (l' := [some (.ref 0), some (.int (nI 2))]) (σ' := σ) (pc2 := 104) (l2 := [some (.ref 0), some (.int (nI 2)), some (.int i), some (.int (nI 0)), some (.int j), some (.int n), some (.ref 52), some (.ref 48)]) (t := []) (fun f => rfl) (pi_C_found (nI 2)) ?_
      rintro _ t1 ⟨rfl, et1, kt1, rt1⟩
      refine pi_rt 1 (v := some (.int ((-10) - (nI 2)))) (σ' := t1) (fun f => rfl) ?_
      have hfr : pi_fr [0] t1 σ := pi_fr_tr rt1 (by decide) (pi_fr_rf)
      exact ⟨rfl, hR.fnd (et1) hfr, pi_fr_tr hfr (by decide) pi_fr_rf⟩
  · refine pi_ct 1 (c := nI 0 = 0) (pc' := 99) (l' := [some (.ref 0), some (.int (nI 2)), some (.int i), some (.int (nI 0)), some (.int j), some (.int n), some (.ref 52), some (.ref 48)]) (st' := []) (σ' := σ) (pc2 := 87) (l2 := [some (.ref 0), some (.int (nI 2)), some (.int i), some (.int (nI 0)), some (.int j), some (.int n), some (.ref 52), some (.ref 48)]) (st2 := []) (σ2 := σ) (fun f => rfl) (by decide) ?_
    refine pi_ca 3 (m' := 96) (l' := [some (.ref 0), some (.int (nI 2))]) (σ' := σ) (pc2 := 104) (l2 := [some (.ref 0), some (.int (nI 2)), some (.int i), some (.int (nI 0)), some (.int j), some (.int n), some (.ref 52), some (.ref 48)]) (t := []) (fun f => rfl) (pi_C_found (nI 2)) ?_
    rintro _ t2 ⟨rfl, et2, kt2, rt2⟩
    refine pi_rt 1 (v := some (.int ((-10) - (nI 2)))) (σ' := t2) (fun f => rfl) ?_
    have hfr : pi_fr [0] t2 σ := pi_fr_tr rt2 (by decide) (pi_fr_rf)
    exact ⟨rfl, hR.fnd (et2) hfr, pi_fr_tr hfr (by decide) pi_fr_rf⟩
set_option maxRecDepth 20000 in
theorem pi_X_copy20 {xs : Nat → Int32} {L d : Nat} {W : zW} {σ : pi_S} (hR : z_CR W σ) {i j n : Nat} (hs1 : ¬ W.th 2 = 0) (ht1 : ¬ W.th 0 = 0) (h4 : W.fo 2 = W.fo 0) (hi : i + n ≤ W.si 2) (hj : j + n ≤ W.si 0)  : pi_wp xs L (d + 9) 90 0 [some (.ref 0), some (.int (nI 2)), some (.int (nI i)), some (.int (nI 0)), some (.int (nI j)), some (.int (nI n)), none, none] [] σ (fun v s => v = some (.int (nI 1)) ∧ z_CR (W.sI 9 (pi_lp (fun q f => upd f (48 * 0 + j + q) (W.it (48 * 2 + i + q))) n W.it)) s ∧ pi_fr z_CC s σ) := by
  have hk := hR.k.p.wk
  have hnd8 := hk.wd.nd8
  have hns12 := hk.wd.ns12
  have hn60 := hk.nine
  have hnf := hk.nf
  have hnw := hk.nw
  have hnc := hk.nc
  have hn08 := hk.wd.n0
  have hn140 := hk.wd.n1
  have hsi := hk.si 2 (by omega)
  have hti := hk.si 0 (by omega)
  refine pi_ca 3 (m' := 94) (l' := [some (.int (nI 2)), some (.int (nI 4))]) (σ' := σ) (pc2 := 5) (l2 := [some (.ref 0), some (.int (nI 2)), some (.int (nI i)), some (.int (nI 0)), some (.int (nI j)), some (.int (nI n)), none, none]) (t := []) (fun f => rfl) (pi_below1 _ _ (z_BL (by omega) (by omega))) ?_
  rintro _ _ ⟨rfl, rfl⟩
  refine pi_cf 1 (c := nI 1 = 0) (pc' := 8) (l' := [some (.ref 0), some (.int (nI 2)), some (.int (nI i)), some (.int (nI 0)), some (.int (nI j)), some (.int (nI n)), none, none]) (st' := []) (σ' := σ) (pc2 := 16) (l2 := [some (.ref 0), some (.int (nI 2)), some (.int (nI i)), some (.int (nI 0)), some (.int (nI j)), some (.int (nI n)), none, none]) (st2 := []) (σ2 := σ) (fun f => rfl) (by decide) ?_
  refine pi_ca 3 (m' := 94) (l' := [some (.int (nI 0)), some (.int (nI 4))]) (σ' := σ) (pc2 := 13) (l2 := [some (.ref 0), some (.int (nI 2)), some (.int (nI i)), some (.int (nI 0)), some (.int (nI j)), some (.int (nI n)), none, none]) (t := []) (fun f => rfl) (pi_below1 _ _ (z_BL (by omega) (by omega))) ?_
  rintro _ _ ⟨rfl, rfl⟩
  refine pi_cf 1 (c := nI 1 = 0) (pc' := 19) (l' := [some (.ref 0), some (.int (nI 2)), some (.int (nI i)), some (.int (nI 0)), some (.int (nI j)), some (.int (nI n)), none, none]) (st' := []) (σ' := σ) (pc2 := 16) (l2 := [some (.ref 0), some (.int (nI 2)), some (.int (nI i)), some (.int (nI 0)), some (.int (nI j)), some (.int (nI n)), none, none]) (st2 := []) (σ2 := σ) (fun f => rfl) (by decide) ?_
  refine pi_aq 4 (u := 2) (n := 4) (a := 47) (c := 52) (pc' := 25) (l' := [some (.ref 0), some (.int (nI 2)), some (.int (nI i)), some (.int (nI 0)), some (.int (nI j)), some (.int (nI n)), none, none]) (t := []) (σ' := σ) (fun f => rfl) (by omega) (by omega) rfl ?_
  refine pi_aq 5 (u := 0) (n := 4) (a := 47) (c := 48) (pc' := 33) (l' := [some (.ref 0), some (.int (nI 2)), some (.int (nI i)), some (.int (nI 0)), some (.int (nI j)), some (.int (nI n)), some (.ref 52), none]) (t := []) (σ' := σ) (fun f => rfl) (by omega) (by omega) rfl ?_
  refine pi_ca 3 (m' := 36) (l' := [some (.ref 52)]) (σ' := σ) (pc2 := 40) (l2 := [some (.ref 0), some (.int (nI 2)), some (.int (nI i)), some (.int (nI 0)), some (.int (nI j)), some (.int (nI n)), some (.ref 52), some (.ref 48)]) (t := []) (fun f => rfl) (pi_C_lost2_f hR.k hs1) ?_
  rintro _ _ ⟨rfl, rfl⟩
  refine pi_ct 1 (c := nI 0 = 0) (pc' := 43) (l' := [some (.ref 0), some (.int (nI 2)), some (.int (nI i)), some (.int (nI 0)), some (.int (nI j)), some (.int (nI n)), some (.ref 52), some (.ref 48)]) (st' := []) (σ' := σ) (pc2 := 51) (l2 := [some (.ref 0), some (.int (nI 2)), some (.int (nI i)), some (.int (nI 0)), some (.int (nI j)), some (.int (nI n)), some (.ref 52), some (.ref 48)]) (st2 := []) (σ2 := σ) (fun f => rfl) (by decide) ?_
  refine pi_ca 2 (m' := 36) (l' := [some (.ref 48)]) (σ' := σ) (pc2 := 48) (l2 := [some (.ref 0), some (.int (nI 2)), some (.int (nI i)), some (.int (nI 0)), some (.int (nI j)), some (.int (nI n)), some (.ref 52), some (.ref 48)]) (t := []) (fun f => rfl) (pi_C_lost0_f hR.k ht1) ?_
  rintro _ _ ⟨rfl, rfl⟩
  refine pi_ct 1 (c := nI 0 = 0) (pc' := 57) (l' := [some (.ref 0), some (.int (nI 2)), some (.int (nI i)), some (.int (nI 0)), some (.int (nI j)), some (.int (nI n)), some (.ref 52), some (.ref 48)]) (st' := []) (σ' := σ) (pc2 := 51) (l2 := [some (.ref 0), some (.int (nI 2)), some (.int (nI i)), some (.int (nI 0)), some (.int (nI j)), some (.int (nI n)), some (.ref 52), some (.ref 48)]) (st2 := []) (σ2 := σ) (fun f => rfl) (by decide) ?_
  refine pi_go 2 (pc' := 62) (l' := [some (.ref 0), some (.int (nI 2)), some (.int (nI i)), some (.int (nI 0)), some (.int (nI j)), some (.int (nI n)), some (.ref 52), some (.ref 48)]) (st' := [.int (σ 52 1)]) (σ' := σ) (fun f => rfl) ?_
  refine pi_tp (y := nI (W.fo 2)) (hR.k.p.sf2) ?_
  refine pi_go 2 (pc' := 67) (l' := [some (.ref 0), some (.int (nI 2)), some (.int (nI i)), some (.int (nI 0)), some (.int (nI j)), some (.int (nI n)), some (.ref 52), some (.ref 48)]) (st' := [.int (σ 48 1), .int (nI (W.fo 2))]) (σ' := σ) (fun f => rfl) ?_
  refine pi_tp (y := nI (W.fo 0)) (hR.k.p.sf0) ?_
  refine pi_ct 1 (c := nI (W.fo 2) = nI (W.fo 0)) (pc' := 76) (l' := [some (.ref 0), some (.int (nI 2)), some (.int (nI i)), some (.int (nI 0)), some (.int (nI j)), some (.int (nI n)), some (.ref 52), some (.ref 48)]) (st' := []) (σ' := σ) (pc2 := 70) (l2 := [some (.ref 0), some (.int (nI 2)), some (.int (nI i)), some (.int (nI 0)), some (.int (nI j)), some (.int (nI n)), some (.ref 52), some (.ref 48)]) (st2 := []) (σ2 := σ) (fun f => rfl) (congrArg nI h4) ?_
  refine pi_ca 4 (m' := 39) (l' := [some (.ref 52), some (.int (nI i)), some (.int (nI n))]) (σ' := σ) (pc2 := 84) (l2 := [some (.ref 0), some (.int (nI 2)), some (.int (nI i)), some (.int (nI 0)), some (.int (nI j)), some (.int (nI n)), some (.ref 52), some (.ref 48)]) (t := []) (fun f => rfl) (pi_C_hasRun2T hR.k hs1 ⟨i, n, rfl, rfl, hi⟩) ?_
  rintro _ _ ⟨rfl, rfl⟩
  refine pi_cf 1 (c := nI 1 = 0) (pc' := 87) (l' := [some (.ref 0), some (.int (nI 2)), some (.int (nI i)), some (.int (nI 0)), some (.int (nI j)), some (.int (nI n)), some (.ref 52), some (.ref 48)]) (st' := []) (σ' := σ) (pc2 := 99) (l2 := [some (.ref 0), some (.int (nI 2)), some (.int (nI i)), some (.int (nI 0)), some (.int (nI j)), some (.int (nI n)), some (.ref 52), some (.ref 48)]) (st2 := []) (σ2 := σ) (fun f => rfl) (by decide) ?_
  refine pi_ca 4 (m' := 39) (l' := [some (.ref 48), some (.int (nI j)), some (.int (nI n))]) (σ' := σ) (pc2 := 96) (l2 := [some (.ref 0), some (.int (nI 2)), some (.int (nI i)), some (.int (nI 0)), some (.int (nI j)), some (.int (nI n)), some (.ref 52), some (.ref 48)]) (t := []) (fun f => rfl) (pi_C_hasRun0T hR.k ht1 ⟨j, n, rfl, rfl, hj⟩) ?_
  rintro _ _ ⟨rfl, rfl⟩
  refine pi_cf 1 (c := nI 1 = 0) (pc' := 105) (l' := [some (.ref 0), some (.int (nI 2)), some (.int (nI i)), some (.int (nI 0)), some (.int (nI j)), some (.int (nI n)), some (.ref 52), some (.ref 48)]) (st' := []) (σ' := σ) (pc2 := 99) (l2 := [some (.ref 0), some (.int (nI 2)), some (.int (nI i)), some (.int (nI 0)), some (.int (nI j)), some (.int (nI n)), some (.ref 52), some (.ref 48)]) (st2 := []) (σ2 := σ) (fun f => rfl) (by decide) ?_
  refine pi_go 7 (pc' := 120) (l' := [some (.ref 0), some (.int (nI 2)), some (.int (nI i)), some (.int (nI 0)), some (.int (nI j)), some (.int (nI n)), some (.ref 52), some (.ref 48)]) (st' := [.int (nI n), .int (nI j), .ref 49, .int (nI i), .ref 53]) (σ' := σ) (fun f => rfl) ?_
  refine pi_gd 1 (c := ¬ nI i < 0 ∧ ¬ nI j < 0 ∧ ¬ nI n < 0 ∧ (nI i).toNatClampNeg + (nI n).toNatClampNeg ≤ 48 ∧ (nI j).toNatClampNeg + (nI n).toNatClampNeg ≤ 48) (pc' := 123) (l' := [some (.ref 0), some (.int (nI 2)), some (.int (nI i)), some (.int (nI 0)), some (.int (nI j)), some (.int (nI n)), some (.ref 52), some (.ref 48)]) (st' := []) (σ' := pi_cpy σ 53 49 (nI i).toNatClampNeg (nI j).toNatClampNeg (nI n).toNatClampNeg) (fun f => rfl) ⟨z_ltz (by omega), z_ltz (by omega), z_ltz (by omega), by rw [nI_clamp (by omega), nI_clamp (by omega)]; omega, by rw [nI_clamp (by omega), nI_clamp (by omega)]; omega⟩ ?_
  rw [show (nI i).toNatClampNeg = i from nI_clamp (by omega), show (nI j).toNatClampNeg = j from nI_clamp (by omega), show (nI n).toNatClampNeg = n from nI_clamp (by omega)]
  generalize es1 : pi_cpy σ 53 49 i j n = s1
  have rs1 := pi_cpy_fr es1
  refine pi_rt 2 (v := some (.int (nI 1))) (σ' := s1) (fun f => rfl) ?_
  have hfr : pi_fr [49] s1 σ := pi_fr_tr rs1 (by decide) (pi_fr_rf)
  exact ⟨rfl, hR.it0 (fun q hq => (congrFun (pi_cpy_at es1) q).trans (z_cp_row hR.k.p.si2 hR.k.p.si0 (by omega) (by omega) q hq)) (z_cp_o (by omega)) hfr, pi_fr_tr hfr (by decide) pi_fr_rf⟩
set_option maxRecDepth 20000 in
theorem pi_X_copy21_null1 {xs : Nat → Int32} {L d : Nat} {W : zW} {σ : pi_S} (hR : z_CR W σ) {i j n : Int32} (hs0 : W.th 2 = 0)  : pi_wp xs L (d + 9) 90 0 [some (.ref 0), some (.int (nI 2)), some (.int i), some (.int (nI 1)), some (.int j), some (.int n), none, none] [] σ (fun v s => v = some (.int ((-10) - (nI 1))) ∧ z_CR (W.sS 0 (nI 1)) s ∧ pi_fr z_CC s σ) := by
  have hk := hR.k.p.wk
  have hnd8 := hk.wd.nd8
  have hns12 := hk.wd.ns12
  have hn60 := hk.nine
  have hnf := hk.nf
  have hnw := hk.nw
  have hnc := hk.nc
  have hn08 := hk.wd.n0
  have hn140 := hk.wd.n1
  have hsi := hk.si 2 (by omega)
  have hti := hk.si 1 (by omega)
  refine pi_ca 3 (m' := 94) (l' := [some (.int (nI 2)), some (.int (nI 4))]) (σ' := σ) (pc2 := 5) (l2 := [some (.ref 0), some (.int (nI 2)), some (.int i), some (.int (nI 1)), some (.int j), some (.int n), none, none]) (t := []) (fun f => rfl) (pi_below1 _ _ (z_BL (by omega) (by omega))) ?_
  rintro _ _ ⟨rfl, rfl⟩
  refine pi_cf 1 (c := nI 1 = 0) (pc' := 8) (l' := [some (.ref 0), some (.int (nI 2)), some (.int i), some (.int (nI 1)), some (.int j), some (.int n), none, none]) (st' := []) (σ' := σ) (pc2 := 16) (l2 := [some (.ref 0), some (.int (nI 2)), some (.int i), some (.int (nI 1)), some (.int j), some (.int n), none, none]) (st2 := []) (σ2 := σ) (fun f => rfl) (by decide) ?_
  refine pi_ca 3 (m' := 94) (l' := [some (.int (nI 1)), some (.int (nI 4))]) (σ' := σ) (pc2 := 13) (l2 := [some (.ref 0), some (.int (nI 2)), some (.int i), some (.int (nI 1)), some (.int j), some (.int n), none, none]) (t := []) (fun f => rfl) (pi_below1 _ _ (z_BL (by omega) (by omega))) ?_
  rintro _ _ ⟨rfl, rfl⟩
  refine pi_cf 1 (c := nI 1 = 0) (pc' := 19) (l' := [some (.ref 0), some (.int (nI 2)), some (.int i), some (.int (nI 1)), some (.int j), some (.int n), none, none]) (st' := []) (σ' := σ) (pc2 := 16) (l2 := [some (.ref 0), some (.int (nI 2)), some (.int i), some (.int (nI 1)), some (.int j), some (.int n), none, none]) (st2 := []) (σ2 := σ) (fun f => rfl) (by decide) ?_
  refine pi_aq 4 (u := 2) (n := 4) (a := 47) (c := 52) (pc' := 25) (l' := [some (.ref 0), some (.int (nI 2)), some (.int i), some (.int (nI 1)), some (.int j), some (.int n), none, none]) (t := []) (σ' := σ) (fun f => rfl) (by omega) (by omega) rfl ?_
  refine pi_aq 5 (u := 1) (n := 4) (a := 47) (c := 50) (pc' := 33) (l' := [some (.ref 0), some (.int (nI 2)), some (.int i), some (.int (nI 1)), some (.int j), some (.int n), some (.ref 52), none]) (t := []) (σ' := σ) (fun f => rfl) (by omega) (by omega) rfl ?_
  refine pi_ca 3 (m' := 36) (l' := [some (.ref 52)]) (σ' := σ) (pc2 := 40) (l2 := [some (.ref 0), some (.int (nI 2)), some (.int i), some (.int (nI 1)), some (.int j), some (.int n), some (.ref 52), some (.ref 50)]) (t := []) (fun f => rfl) (pi_C_lost2_t hR.k hs0) ?_
  rintro _ _ ⟨rfl, rfl⟩
  refine pi_cf 1 (c := nI 1 = 0) (pc' := 51) (l' := [some (.ref 0), some (.int (nI 2)), some (.int i), some (.int (nI 1)), some (.int j), some (.int n), some (.ref 52), some (.ref 50)]) (st' := []) (σ' := σ) (pc2 := 43) (l2 := [some (.ref 0), some (.int (nI 2)), some (.int i), some (.int (nI 1)), some (.int j), some (.int n), some (.ref 52), some (.ref 50)]) (st2 := []) (σ2 := σ) (fun f => rfl) (by decide) ?_
  refine pi_ca 3 (m' := 96) (l' := [some (.ref 0), some (.int (nI 1))]) (σ' := σ) (pc2 := 56) (l2 := [some (.ref 0), some (.int (nI 2)), some (.int i), some (.int (nI 1)), some (.int j), some (.int n), some (.ref 52), some (.ref 50)]) (t := []) (fun f => rfl) (pi_C_found (nI 1)) ?_
  rintro _ t1 ⟨rfl, et1, kt1, rt1⟩
  refine pi_rt 1 (v := some (.int ((-10) - (nI 1)))) (σ' := t1) (fun f => rfl) ?_
  have hfr : pi_fr [0] t1 σ := pi_fr_tr rt1 (by decide) (pi_fr_rf)
  exact ⟨rfl, hR.fnd (et1) hfr, pi_fr_tr hfr (by decide) pi_fr_rf⟩
set_option maxRecDepth 20000 in
theorem pi_X_copy21_null2 {xs : Nat → Int32} {L d : Nat} {W : zW} {σ : pi_S} (hR : z_CR W σ) {i j n : Int32} (hs1 : ¬ W.th 2 = 0) (ht0 : W.th 1 = 0)  : pi_wp xs L (d + 9) 90 0 [some (.ref 0), some (.int (nI 2)), some (.int i), some (.int (nI 1)), some (.int j), some (.int n), none, none] [] σ (fun v s => v = some (.int ((-10) - (nI 1))) ∧ z_CR (W.sS 0 (nI 1)) s ∧ pi_fr z_CC s σ) := by
  have hk := hR.k.p.wk
  have hnd8 := hk.wd.nd8
  have hns12 := hk.wd.ns12
  have hn60 := hk.nine
  have hnf := hk.nf
  have hnw := hk.nw
  have hnc := hk.nc
  have hn08 := hk.wd.n0
  have hn140 := hk.wd.n1
  have hsi := hk.si 2 (by omega)
  have hti := hk.si 1 (by omega)
  refine pi_ca 3 (m' := 94) (l' := [some (.int (nI 2)), some (.int (nI 4))]) (σ' := σ) (pc2 := 5) (l2 := [some (.ref 0), some (.int (nI 2)), some (.int i), some (.int (nI 1)), some (.int j), some (.int n), none, none]) (t := []) (fun f => rfl) (pi_below1 _ _ (z_BL (by omega) (by omega))) ?_
  rintro _ _ ⟨rfl, rfl⟩
  refine pi_cf 1 (c := nI 1 = 0) (pc' := 8) (l' := [some (.ref 0), some (.int (nI 2)), some (.int i), some (.int (nI 1)), some (.int j), some (.int n), none, none]) (st' := []) (σ' := σ) (pc2 := 16) (l2 := [some (.ref 0), some (.int (nI 2)), some (.int i), some (.int (nI 1)), some (.int j), some (.int n), none, none]) (st2 := []) (σ2 := σ) (fun f => rfl) (by decide) ?_
  refine pi_ca 3 (m' := 94) (l' := [some (.int (nI 1)), some (.int (nI 4))]) (σ' := σ) (pc2 := 13) (l2 := [some (.ref 0), some (.int (nI 2)), some (.int i), some (.int (nI 1)), some (.int j), some (.int n), none, none]) (t := []) (fun f => rfl) (pi_below1 _ _ (z_BL (by omega) (by omega))) ?_
  rintro _ _ ⟨rfl, rfl⟩
  refine pi_cf 1 (c := nI 1 = 0) (pc' := 19) (l' := [some (.ref 0), some (.int (nI 2)), some (.int i), some (.int (nI 1)), some (.int j), some (.int n), none, none]) (st' := []) (σ' := σ) (pc2 := 16) (l2 := [some (.ref 0), some (.int (nI 2)), some (.int i), some (.int (nI 1)), some (.int j), some (.int n), none, none]) (st2 := []) (σ2 := σ) (fun f => rfl) (by decide) ?_
  refine pi_aq 4 (u := 2) (n := 4) (a := 47) (c := 52) (pc' := 25) (l' := [some (.ref 0), some (.int (nI 2)), some (.int i), some (.int (nI 1)), some (.int j), some (.int n), none, none]) (t := []) (σ' := σ) (fun f => rfl) (by omega) (by omega) rfl ?_
  refine pi_aq 5 (u := 1) (n := 4) (a := 47) (c := 50) (pc' := 33) (l' := [some (.ref 0), some (.int (nI 2)), some (.int i), some (.int (nI 1)), some (.int j), some (.int n), some (.ref 52), none]) (t := []) (σ' := σ) (fun f => rfl) (by omega) (by omega) rfl ?_
  refine pi_ca 3 (m' := 36) (l' := [some (.ref 52)]) (σ' := σ) (pc2 := 40) (l2 := [some (.ref 0), some (.int (nI 2)), some (.int i), some (.int (nI 1)), some (.int j), some (.int n), some (.ref 52), some (.ref 50)]) (t := []) (fun f => rfl) (pi_C_lost2_f hR.k hs1) ?_
  rintro _ _ ⟨rfl, rfl⟩
  refine pi_ct 1 (c := nI 0 = 0) (pc' := 43) (l' := [some (.ref 0), some (.int (nI 2)), some (.int i), some (.int (nI 1)), some (.int j), some (.int n), some (.ref 52), some (.ref 50)]) (st' := []) (σ' := σ) (pc2 := 51) (l2 := [some (.ref 0), some (.int (nI 2)), some (.int i), some (.int (nI 1)), some (.int j), some (.int n), some (.ref 52), some (.ref 50)]) (st2 := []) (σ2 := σ) (fun f => rfl) (by decide) ?_
  refine pi_ca 2 (m' := 36) (l' := [some (.ref 50)]) (σ' := σ) (pc2 := 48) (l2 := [some (.ref 0), some (.int (nI 2)), some (.int i), some (.int (nI 1)), some (.int j), some (.int n), some (.ref 52), some (.ref 50)]) (t := []) (fun f => rfl) (pi_C_lost1_t hR.k ht0) ?_
  rintro _ _ ⟨rfl, rfl⟩
  refine pi_cf 1 (c := nI 1 = 0) (pc' := 51) (l' := [some (.ref 0), some (.int (nI 2)), some (.int i), some (.int (nI 1)), some (.int j), some (.int n), some (.ref 52), some (.ref 50)]) (st' := []) (σ' := σ) (pc2 := 57) (l2 := [some (.ref 0), some (.int (nI 2)), some (.int i), some (.int (nI 1)), some (.int j), some (.int n), some (.ref 52), some (.ref 50)]) (st2 := []) (σ2 := σ) (fun f => rfl) (by decide) ?_
  refine pi_ca 3 (m' := 96) (l' := [some (.ref 0), some (.int (nI 1))]) (σ' := σ) (pc2 := 56) (l2 := [some (.ref 0), some (.int (nI 2)), some (.int i), some (.int (nI 1)), some (.int j), some (.int n), some (.ref 52), some (.ref 50)]) (t := []) (fun f => rfl) (pi_C_found (nI 1)) ?_
  rintro _ t1 ⟨rfl, et1, kt1, rt1⟩
  refine pi_rt 1 (v := some (.int ((-10) - (nI 1)))) (σ' := t1) (fun f => rfl) ?_
  have hfr : pi_fr [0] t1 σ := pi_fr_tr rt1 (by decide) (pi_fr_rf)
  exact ⟨rfl, hR.fnd (et1) hfr, pi_fr_tr hfr (by decide) pi_fr_rf⟩
set_option maxRecDepth 20000 in
theorem pi_X_copy21_store {xs : Nat → Int32} {L d : Nat} {W : zW} {σ : pi_S} (hR : z_CR W σ) {i j n : Int32} (hs1 : ¬ W.th 2 = 0) (ht1 : ¬ W.th 1 = 0) (h4 : ¬ W.fo 2 = W.fo 1)  : pi_wp xs L (d + 9) 90 0 [some (.ref 0), some (.int (nI 2)), some (.int i), some (.int (nI 1)), some (.int j), some (.int n), none, none] [] σ (fun v s => v = some (.int ((-10) - (nI 4))) ∧ z_CR (W.sS 0 (nI 4)) s ∧ pi_fr z_CC s σ) := by
  have hk := hR.k.p.wk
  have hnd8 := hk.wd.nd8
  have hns12 := hk.wd.ns12
  have hn60 := hk.nine
  have hnf := hk.nf
  have hnw := hk.nw
  have hnc := hk.nc
  have hn08 := hk.wd.n0
  have hn140 := hk.wd.n1
  have hsi := hk.si 2 (by omega)
  have hti := hk.si 1 (by omega)
  refine pi_ca 3 (m' := 94) (l' := [some (.int (nI 2)), some (.int (nI 4))]) (σ' := σ) (pc2 := 5) (l2 := [some (.ref 0), some (.int (nI 2)), some (.int i), some (.int (nI 1)), some (.int j), some (.int n), none, none]) (t := []) (fun f => rfl) (pi_below1 _ _ (z_BL (by omega) (by omega))) ?_
  rintro _ _ ⟨rfl, rfl⟩
  refine pi_cf 1 (c := nI 1 = 0) (pc' := 8) (l' := [some (.ref 0), some (.int (nI 2)), some (.int i), some (.int (nI 1)), some (.int j), some (.int n), none, none]) (st' := []) (σ' := σ) (pc2 := 16) (l2 := [some (.ref 0), some (.int (nI 2)), some (.int i), some (.int (nI 1)), some (.int j), some (.int n), none, none]) (st2 := []) (σ2 := σ) (fun f => rfl) (by decide) ?_
  refine pi_ca 3 (m' := 94) (l' := [some (.int (nI 1)), some (.int (nI 4))]) (σ' := σ) (pc2 := 13) (l2 := [some (.ref 0), some (.int (nI 2)), some (.int i), some (.int (nI 1)), some (.int j), some (.int n), none, none]) (t := []) (fun f => rfl) (pi_below1 _ _ (z_BL (by omega) (by omega))) ?_
  rintro _ _ ⟨rfl, rfl⟩
  refine pi_cf 1 (c := nI 1 = 0) (pc' := 19) (l' := [some (.ref 0), some (.int (nI 2)), some (.int i), some (.int (nI 1)), some (.int j), some (.int n), none, none]) (st' := []) (σ' := σ) (pc2 := 16) (l2 := [some (.ref 0), some (.int (nI 2)), some (.int i), some (.int (nI 1)), some (.int j), some (.int n), none, none]) (st2 := []) (σ2 := σ) (fun f => rfl) (by decide) ?_
  refine pi_aq 4 (u := 2) (n := 4) (a := 47) (c := 52) (pc' := 25) (l' := [some (.ref 0), some (.int (nI 2)), some (.int i), some (.int (nI 1)), some (.int j), some (.int n), none, none]) (t := []) (σ' := σ) (fun f => rfl) (by omega) (by omega) rfl ?_
  refine pi_aq 5 (u := 1) (n := 4) (a := 47) (c := 50) (pc' := 33) (l' := [some (.ref 0), some (.int (nI 2)), some (.int i), some (.int (nI 1)), some (.int j), some (.int n), some (.ref 52), none]) (t := []) (σ' := σ) (fun f => rfl) (by omega) (by omega) rfl ?_
  refine pi_ca 3 (m' := 36) (l' := [some (.ref 52)]) (σ' := σ) (pc2 := 40) (l2 := [some (.ref 0), some (.int (nI 2)), some (.int i), some (.int (nI 1)), some (.int j), some (.int n), some (.ref 52), some (.ref 50)]) (t := []) (fun f => rfl) (pi_C_lost2_f hR.k hs1) ?_
  rintro _ _ ⟨rfl, rfl⟩
  refine pi_ct 1 (c := nI 0 = 0) (pc' := 43) (l' := [some (.ref 0), some (.int (nI 2)), some (.int i), some (.int (nI 1)), some (.int j), some (.int n), some (.ref 52), some (.ref 50)]) (st' := []) (σ' := σ) (pc2 := 51) (l2 := [some (.ref 0), some (.int (nI 2)), some (.int i), some (.int (nI 1)), some (.int j), some (.int n), some (.ref 52), some (.ref 50)]) (st2 := []) (σ2 := σ) (fun f => rfl) (by decide) ?_
  refine pi_ca 2 (m' := 36) (l' := [some (.ref 50)]) (σ' := σ) (pc2 := 48) (l2 := [some (.ref 0), some (.int (nI 2)), some (.int i), some (.int (nI 1)), some (.int j), some (.int n), some (.ref 52), some (.ref 50)]) (t := []) (fun f => rfl) (pi_C_lost1_f hR.k ht1) ?_
  rintro _ _ ⟨rfl, rfl⟩
  refine pi_ct 1 (c := nI 0 = 0) (pc' := 57) (l' := [some (.ref 0), some (.int (nI 2)), some (.int i), some (.int (nI 1)), some (.int j), some (.int n), some (.ref 52), some (.ref 50)]) (st' := []) (σ' := σ) (pc2 := 51) (l2 := [some (.ref 0), some (.int (nI 2)), some (.int i), some (.int (nI 1)), some (.int j), some (.int n), some (.ref 52), some (.ref 50)]) (st2 := []) (σ2 := σ) (fun f => rfl) (by decide) ?_
  refine pi_go 2 (pc' := 62) (l' := [some (.ref 0), some (.int (nI 2)), some (.int i), some (.int (nI 1)), some (.int j), some (.int n), some (.ref 52), some (.ref 50)]) (st' := [.int (σ 52 1)]) (σ' := σ) (fun f => rfl) ?_
  refine pi_tp (y := nI (W.fo 2)) (hR.k.p.sf2) ?_
  refine pi_go 2 (pc' := 67) (l' := [some (.ref 0), some (.int (nI 2)), some (.int i), some (.int (nI 1)), some (.int j), some (.int n), some (.ref 52), some (.ref 50)]) (st' := [.int (σ 50 1), .int (nI (W.fo 2))]) (σ' := σ) (fun f => rfl) ?_
  refine pi_tp (y := nI (W.fo 1)) (hR.k.p.sf1) ?_
  refine pi_cf 1 (c := nI (W.fo 2) = nI (W.fo 1)) (pc' := 70) (l' := [some (.ref 0), some (.int (nI 2)), some (.int i), some (.int (nI 1)), some (.int j), some (.int n), some (.ref 52), some (.ref 50)]) (st' := []) (σ' := σ) (pc2 := 76) (l2 := [some (.ref 0), some (.int (nI 2)), some (.int i), some (.int (nI 1)), some (.int j), some (.int n), some (.ref 52), some (.ref 50)]) (st2 := []) (σ2 := σ) (fun f => rfl) (fun q => h4 ((nI_eq (by omega) (by omega)).mp q)) ?_
  refine pi_ca 3 (m' := 96) (l' := [some (.ref 0), some (.int (nI 4))]) (σ' := σ) (pc2 := 75) (l2 := [some (.ref 0), some (.int (nI 2)), some (.int i), some (.int (nI 1)), some (.int j), some (.int n), some (.ref 52), some (.ref 50)]) (t := []) (fun f => rfl) (pi_C_found (nI 4)) ?_
  rintro _ t1 ⟨rfl, et1, kt1, rt1⟩
  refine pi_rt 1 (v := some (.int ((-10) - (nI 4)))) (σ' := t1) (fun f => rfl) ?_
  have hfr : pi_fr [0] t1 σ := pi_fr_tr rt1 (by decide) (pi_fr_rf)
  exact ⟨rfl, hR.fnd (et1) hfr, pi_fr_tr hfr (by decide) pi_fr_rf⟩
set_option maxRecDepth 20000 in
theorem pi_X_copy21_index {xs : Nat → Int32} {L d : Nat} {W : zW} {σ : pi_S} (hR : z_CR W σ) {i j n : Int32} (hs1 : ¬ W.th 2 = 0) (ht1 : ¬ W.th 1 = 0) (h4 : W.fo 2 = W.fo 1) (hb : ¬ z_cp W 2 1 i j n)  : pi_wp xs L (d + 9) 90 0 [some (.ref 0), some (.int (nI 2)), some (.int i), some (.int (nI 1)), some (.int j), some (.int n), none, none] [] σ (fun v s => v = some (.int ((-10) - (nI 2))) ∧ z_CR (W.sS 0 (nI 2)) s ∧ pi_fr z_CC s σ) := by
  have hk := hR.k.p.wk
  have hnd8 := hk.wd.nd8
  have hns12 := hk.wd.ns12
  have hn60 := hk.nine
  have hnf := hk.nf
  have hnw := hk.nw
  have hnc := hk.nc
  have hn08 := hk.wd.n0
  have hn140 := hk.wd.n1
  have hsi := hk.si 2 (by omega)
  have hti := hk.si 1 (by omega)
  refine pi_ca 3 (m' := 94) (l' := [some (.int (nI 2)), some (.int (nI 4))]) (σ' := σ) (pc2 := 5) (l2 := [some (.ref 0), some (.int (nI 2)), some (.int i), some (.int (nI 1)), some (.int j), some (.int n), none, none]) (t := []) (fun f => rfl) (pi_below1 _ _ (z_BL (by omega) (by omega))) ?_
  rintro _ _ ⟨rfl, rfl⟩
  refine pi_cf 1 (c := nI 1 = 0) (pc' := 8) (l' := [some (.ref 0), some (.int (nI 2)), some (.int i), some (.int (nI 1)), some (.int j), some (.int n), none, none]) (st' := []) (σ' := σ) (pc2 := 16) (l2 := [some (.ref 0), some (.int (nI 2)), some (.int i), some (.int (nI 1)), some (.int j), some (.int n), none, none]) (st2 := []) (σ2 := σ) (fun f => rfl) (by decide) ?_
  refine pi_ca 3 (m' := 94) (l' := [some (.int (nI 1)), some (.int (nI 4))]) (σ' := σ) (pc2 := 13) (l2 := [some (.ref 0), some (.int (nI 2)), some (.int i), some (.int (nI 1)), some (.int j), some (.int n), none, none]) (t := []) (fun f => rfl) (pi_below1 _ _ (z_BL (by omega) (by omega))) ?_
  rintro _ _ ⟨rfl, rfl⟩
  refine pi_cf 1 (c := nI 1 = 0) (pc' := 19) (l' := [some (.ref 0), some (.int (nI 2)), some (.int i), some (.int (nI 1)), some (.int j), some (.int n), none, none]) (st' := []) (σ' := σ) (pc2 := 16) (l2 := [some (.ref 0), some (.int (nI 2)), some (.int i), some (.int (nI 1)), some (.int j), some (.int n), none, none]) (st2 := []) (σ2 := σ) (fun f => rfl) (by decide) ?_
  refine pi_aq 4 (u := 2) (n := 4) (a := 47) (c := 52) (pc' := 25) (l' := [some (.ref 0), some (.int (nI 2)), some (.int i), some (.int (nI 1)), some (.int j), some (.int n), none, none]) (t := []) (σ' := σ) (fun f => rfl) (by omega) (by omega) rfl ?_
  refine pi_aq 5 (u := 1) (n := 4) (a := 47) (c := 50) (pc' := 33) (l' := [some (.ref 0), some (.int (nI 2)), some (.int i), some (.int (nI 1)), some (.int j), some (.int n), some (.ref 52), none]) (t := []) (σ' := σ) (fun f => rfl) (by omega) (by omega) rfl ?_
  refine pi_ca 3 (m' := 36) (l' := [some (.ref 52)]) (σ' := σ) (pc2 := 40) (l2 := [some (.ref 0), some (.int (nI 2)), some (.int i), some (.int (nI 1)), some (.int j), some (.int n), some (.ref 52), some (.ref 50)]) (t := []) (fun f => rfl) (pi_C_lost2_f hR.k hs1) ?_
  rintro _ _ ⟨rfl, rfl⟩
  refine pi_ct 1 (c := nI 0 = 0) (pc' := 43) (l' := [some (.ref 0), some (.int (nI 2)), some (.int i), some (.int (nI 1)), some (.int j), some (.int n), some (.ref 52), some (.ref 50)]) (st' := []) (σ' := σ) (pc2 := 51) (l2 := [some (.ref 0), some (.int (nI 2)), some (.int i), some (.int (nI 1)), some (.int j), some (.int n), some (.ref 52), some (.ref 50)]) (st2 := []) (σ2 := σ) (fun f => rfl) (by decide) ?_
  refine pi_ca 2 (m' := 36) (l' := [some (.ref 50)]) (σ' := σ) (pc2 := 48) (l2 := [some (.ref 0), some (.int (nI 2)), some (.int i), some (.int (nI 1)), some (.int j), some (.int n), some (.ref 52), some (.ref 50)]) (t := []) (fun f => rfl) (pi_C_lost1_f hR.k ht1) ?_
  rintro _ _ ⟨rfl, rfl⟩
  refine pi_ct 1 (c := nI 0 = 0) (pc' := 57) (l' := [some (.ref 0), some (.int (nI 2)), some (.int i), some (.int (nI 1)), some (.int j), some (.int n), some (.ref 52), some (.ref 50)]) (st' := []) (σ' := σ) (pc2 := 51) (l2 := [some (.ref 0), some (.int (nI 2)), some (.int i), some (.int (nI 1)), some (.int j), some (.int n), some (.ref 52), some (.ref 50)]) (st2 := []) (σ2 := σ) (fun f => rfl) (by decide) ?_
  refine pi_go 2 (pc' := 62) (l' := [some (.ref 0), some (.int (nI 2)), some (.int i), some (.int (nI 1)), some (.int j), some (.int n), some (.ref 52), some (.ref 50)]) (st' := [.int (σ 52 1)]) (σ' := σ) (fun f => rfl) ?_
  refine pi_tp (y := nI (W.fo 2)) (hR.k.p.sf2) ?_
  refine pi_go 2 (pc' := 67) (l' := [some (.ref 0), some (.int (nI 2)), some (.int i), some (.int (nI 1)), some (.int j), some (.int n), some (.ref 52), some (.ref 50)]) (st' := [.int (σ 50 1), .int (nI (W.fo 2))]) (σ' := σ) (fun f => rfl) ?_
  refine pi_tp (y := nI (W.fo 1)) (hR.k.p.sf1) ?_
  refine pi_ct 1 (c := nI (W.fo 2) = nI (W.fo 1)) (pc' := 76) (l' := [some (.ref 0), some (.int (nI 2)), some (.int i), some (.int (nI 1)), some (.int j), some (.int n), some (.ref 52), some (.ref 50)]) (st' := []) (σ' := σ) (pc2 := 70) (l2 := [some (.ref 0), some (.int (nI 2)), some (.int i), some (.int (nI 1)), some (.int j), some (.int n), some (.ref 52), some (.ref 50)]) (st2 := []) (σ2 := σ) (fun f => rfl) (congrArg nI h4) ?_
  refine pi_ca 4 (m' := 39) (l' := [some (.ref 52), some (.int i), some (.int n)]) (σ' := σ) (pc2 := 84) (l2 := [some (.ref 0), some (.int (nI 2)), some (.int i), some (.int (nI 1)), some (.int j), some (.int n), some (.ref 52), some (.ref 50)]) (t := []) (fun f => rfl) (pi_C_hasRun2 hR.k hs1 i n) ?_
  rintro _ _ (⟨b1, rfl, rfl⟩ | ⟨b1, rfl, rfl⟩)
  · refine pi_cf 1 (c := nI 1 = 0) (pc' := 87) (l' := [some (.ref 0), some (.int (nI 2)), some (.int i), some (.int (nI 1)), some (.int j), some (.int n), some (.ref 52), some (.ref 50)]) (st' := []) (σ' := σ) (pc2 := 99) (l2 := [some (.ref 0), some (.int (nI 2)), some (.int i), some (.int (nI 1)), some (.int j), some (.int n), some (.ref 52), some (.ref 50)]) (st2 := []) (σ2 := σ) (fun f => rfl) (by decide) ?_
    refine pi_ca 4 (m' := 39) (l' := [some (.ref 50), some (.int j), some (.int n)]) (σ' := σ) (pc2 := 96) (l2 := [some (.ref 0), some (.int (nI 2)), some (.int i), some (.int (nI 1)), some (.int j), some (.int n), some (.ref 52), some (.ref 50)]) (t := []) (fun f => rfl) (pi_C_hasRun1 hR.k ht1 j n) ?_
    rintro _ _ (⟨b2, rfl, rfl⟩ | ⟨b2, rfl, rfl⟩)
    · refine pi_cf 1 (c := nI 1 = 0) (pc' := 105) (l' := [some (.ref 0), some (.int (nI 2)), some (.int i), some (.int (nI 1)), some (.int j), some (.int n), some (.ref 52), some (.ref 50)]) (st' := []) (σ' := σ) (pc2 := 99) (l2 := [some (.ref 0), some (.int (nI 2)), some (.int i), some (.int (nI 1)), some (.int j), some (.int n), some (.ref 52), some (.ref 50)]) (st2 := []) (σ2 := σ) (fun f => rfl) (by decide) ?_
      exact (hb (z_cp_hr hsi.1 hti.1 b1 b2)).elim
    · refine pi_ct 1 (c := nI 0 = 0) (pc' := 99) (l' := [some (.ref 0), some (.int (nI 2)), some (.int i), some (.int (nI 1)), some (.int j), some (.int n), some (.ref 52), some (.ref 50)]) (st' := []) (σ' := σ) (pc2 := 105) (l2 := [some (.ref 0), some (.int (nI 2)), some (.int i), some (.int (nI 1)), some (.int j), some (.int n), some (.ref 52), some (.ref 50)]) (st2 := []) (σ2 := σ) (fun f => rfl) (by decide) ?_
      refine pi_ca 3 (m' := 96) (l' := [some (.ref 0), some (.int (nI 2))]) (σ' := σ) (pc2 := 104) (l2 := [some (.ref 0), some (.int (nI 2)), some (.int i), some (.int (nI 1)), some (.int j), some (.int n), some (.ref 52), some (.ref 50)]) (t := []) (fun f => rfl) (pi_C_found (nI 2)) ?_
      rintro _ t1 ⟨rfl, et1, kt1, rt1⟩
      refine pi_rt 1 (v := some (.int ((-10) - (nI 2)))) (σ' := t1) (fun f => rfl) ?_
      have hfr : pi_fr [0] t1 σ := pi_fr_tr rt1 (by decide) (pi_fr_rf)
      exact ⟨rfl, hR.fnd (et1) hfr, pi_fr_tr hfr (by decide) pi_fr_rf⟩
  · refine pi_ct 1 (c := nI 0 = 0) (pc' := 99) (l' := [some (.ref 0), some (.int (nI 2)), some (.int i), some (.int (nI 1)), some (.int j), some (.int n), some (.ref 52), some (.ref 50)]) (st' := []) (σ' := σ) (pc2 := 87) (l2 := [some (.ref 0), some (.int (nI 2)), some (.int i), some (.int (nI 1)), some (.int j), some (.int n), some (.ref 52), some (.ref 50)]) (st2 := []) (σ2 := σ) (fun f => rfl) (by decide) ?_
    refine pi_ca 3 (m' := 96) (l' := [some (.ref 0), some (.int (nI 2))]) (σ' := σ) (pc2 := 104) (l2 := [some (.ref 0), some (.int (nI 2)), some (.int i), some (.int (nI 1)), some (.int j), some (.int n), some (.ref 52), some (.ref 50)]) (t := []) (fun f => rfl) (pi_C_found (nI 2)) ?_
    rintro _ t2 ⟨rfl, et2, kt2, rt2⟩
    refine pi_rt 1 (v := some (.int ((-10) - (nI 2)))) (σ' := t2) (fun f => rfl) ?_
    have hfr : pi_fr [0] t2 σ := pi_fr_tr rt2 (by decide) (pi_fr_rf)
    exact ⟨rfl, hR.fnd (et2) hfr, pi_fr_tr hfr (by decide) pi_fr_rf⟩
set_option maxRecDepth 20000 in
theorem pi_X_copy21 {xs : Nat → Int32} {L d : Nat} {W : zW} {σ : pi_S} (hR : z_CR W σ) {i j n : Nat} (hs1 : ¬ W.th 2 = 0) (ht1 : ¬ W.th 1 = 0) (h4 : W.fo 2 = W.fo 1) (hi : i + n ≤ W.si 2) (hj : j + n ≤ W.si 1)  : pi_wp xs L (d + 9) 90 0 [some (.ref 0), some (.int (nI 2)), some (.int (nI i)), some (.int (nI 1)), some (.int (nI j)), some (.int (nI n)), none, none] [] σ (fun v s => v = some (.int (nI 1)) ∧ z_CR (W.sI 9 (pi_lp (fun q f => upd f (48 * 1 + j + q) (W.it (48 * 2 + i + q))) n W.it)) s ∧ pi_fr z_CC s σ) := by
  have hk := hR.k.p.wk
  have hnd8 := hk.wd.nd8
  have hns12 := hk.wd.ns12
  have hn60 := hk.nine
  have hnf := hk.nf
  have hnw := hk.nw
  have hnc := hk.nc
  have hn08 := hk.wd.n0
  have hn140 := hk.wd.n1
  have hsi := hk.si 2 (by omega)
  have hti := hk.si 1 (by omega)
  refine pi_ca 3 (m' := 94) (l' := [some (.int (nI 2)), some (.int (nI 4))]) (σ' := σ) (pc2 := 5) (l2 := [some (.ref 0), some (.int (nI 2)), some (.int (nI i)), some (.int (nI 1)), some (.int (nI j)), some (.int (nI n)), none, none]) (t := []) (fun f => rfl) (pi_below1 _ _ (z_BL (by omega) (by omega))) ?_
  rintro _ _ ⟨rfl, rfl⟩
  refine pi_cf 1 (c := nI 1 = 0) (pc' := 8) (l' := [some (.ref 0), some (.int (nI 2)), some (.int (nI i)), some (.int (nI 1)), some (.int (nI j)), some (.int (nI n)), none, none]) (st' := []) (σ' := σ) (pc2 := 16) (l2 := [some (.ref 0), some (.int (nI 2)), some (.int (nI i)), some (.int (nI 1)), some (.int (nI j)), some (.int (nI n)), none, none]) (st2 := []) (σ2 := σ) (fun f => rfl) (by decide) ?_
  refine pi_ca 3 (m' := 94) (l' := [some (.int (nI 1)), some (.int (nI 4))]) (σ' := σ) (pc2 := 13) (l2 := [some (.ref 0), some (.int (nI 2)), some (.int (nI i)), some (.int (nI 1)), some (.int (nI j)), some (.int (nI n)), none, none]) (t := []) (fun f => rfl) (pi_below1 _ _ (z_BL (by omega) (by omega))) ?_
  rintro _ _ ⟨rfl, rfl⟩
  refine pi_cf 1 (c := nI 1 = 0) (pc' := 19) (l' := [some (.ref 0), some (.int (nI 2)), some (.int (nI i)), some (.int (nI 1)), some (.int (nI j)), some (.int (nI n)), none, none]) (st' := []) (σ' := σ) (pc2 := 16) (l2 := [some (.ref 0), some (.int (nI 2)), some (.int (nI i)), some (.int (nI 1)), some (.int (nI j)), some (.int (nI n)), none, none]) (st2 := []) (σ2 := σ) (fun f => rfl) (by decide) ?_
  refine pi_aq 4 (u := 2) (n := 4) (a := 47) (c := 52) (pc' := 25) (l' := [some (.ref 0), some (.int (nI 2)), some (.int (nI i)), some (.int (nI 1)), some (.int (nI j)), some (.int (nI n)), none, none]) (t := []) (σ' := σ) (fun f => rfl) (by omega) (by omega) rfl ?_
  refine pi_aq 5 (u := 1) (n := 4) (a := 47) (c := 50) (pc' := 33) (l' := [some (.ref 0), some (.int (nI 2)), some (.int (nI i)), some (.int (nI 1)), some (.int (nI j)), some (.int (nI n)), some (.ref 52), none]) (t := []) (σ' := σ) (fun f => rfl) (by omega) (by omega) rfl ?_
  refine pi_ca 3 (m' := 36) (l' := [some (.ref 52)]) (σ' := σ) (pc2 := 40) (l2 := [some (.ref 0), some (.int (nI 2)), some (.int (nI i)), some (.int (nI 1)), some (.int (nI j)), some (.int (nI n)), some (.ref 52), some (.ref 50)]) (t := []) (fun f => rfl) (pi_C_lost2_f hR.k hs1) ?_
  rintro _ _ ⟨rfl, rfl⟩
  refine pi_ct 1 (c := nI 0 = 0) (pc' := 43) (l' := [some (.ref 0), some (.int (nI 2)), some (.int (nI i)), some (.int (nI 1)), some (.int (nI j)), some (.int (nI n)), some (.ref 52), some (.ref 50)]) (st' := []) (σ' := σ) (pc2 := 51) (l2 := [some (.ref 0), some (.int (nI 2)), some (.int (nI i)), some (.int (nI 1)), some (.int (nI j)), some (.int (nI n)), some (.ref 52), some (.ref 50)]) (st2 := []) (σ2 := σ) (fun f => rfl) (by decide) ?_
  refine pi_ca 2 (m' := 36) (l' := [some (.ref 50)]) (σ' := σ) (pc2 := 48) (l2 := [some (.ref 0), some (.int (nI 2)), some (.int (nI i)), some (.int (nI 1)), some (.int (nI j)), some (.int (nI n)), some (.ref 52), some (.ref 50)]) (t := []) (fun f => rfl) (pi_C_lost1_f hR.k ht1) ?_
  rintro _ _ ⟨rfl, rfl⟩
  refine pi_ct 1 (c := nI 0 = 0) (pc' := 57) (l' := [some (.ref 0), some (.int (nI 2)), some (.int (nI i)), some (.int (nI 1)), some (.int (nI j)), some (.int (nI n)), some (.ref 52), some (.ref 50)]) (st' := []) (σ' := σ) (pc2 := 51) (l2 := [some (.ref 0), some (.int (nI 2)), some (.int (nI i)), some (.int (nI 1)), some (.int (nI j)), some (.int (nI n)), some (.ref 52), some (.ref 50)]) (st2 := []) (σ2 := σ) (fun f => rfl) (by decide) ?_
  refine pi_go 2 (pc' := 62) (l' := [some (.ref 0), some (.int (nI 2)), some (.int (nI i)), some (.int (nI 1)), some (.int (nI j)), some (.int (nI n)), some (.ref 52), some (.ref 50)]) (st' := [.int (σ 52 1)]) (σ' := σ) (fun f => rfl) ?_
  refine pi_tp (y := nI (W.fo 2)) (hR.k.p.sf2) ?_
  refine pi_go 2 (pc' := 67) (l' := [some (.ref 0), some (.int (nI 2)), some (.int (nI i)), some (.int (nI 1)), some (.int (nI j)), some (.int (nI n)), some (.ref 52), some (.ref 50)]) (st' := [.int (σ 50 1), .int (nI (W.fo 2))]) (σ' := σ) (fun f => rfl) ?_
  refine pi_tp (y := nI (W.fo 1)) (hR.k.p.sf1) ?_
  refine pi_ct 1 (c := nI (W.fo 2) = nI (W.fo 1)) (pc' := 76) (l' := [some (.ref 0), some (.int (nI 2)), some (.int (nI i)), some (.int (nI 1)), some (.int (nI j)), some (.int (nI n)), some (.ref 52), some (.ref 50)]) (st' := []) (σ' := σ) (pc2 := 70) (l2 := [some (.ref 0), some (.int (nI 2)), some (.int (nI i)), some (.int (nI 1)), some (.int (nI j)), some (.int (nI n)), some (.ref 52), some (.ref 50)]) (st2 := []) (σ2 := σ) (fun f => rfl) (congrArg nI h4) ?_
  refine pi_ca 4 (m' := 39) (l' := [some (.ref 52), some (.int (nI i)), some (.int (nI n))]) (σ' := σ) (pc2 := 84) (l2 := [some (.ref 0), some (.int (nI 2)), some (.int (nI i)), some (.int (nI 1)), some (.int (nI j)), some (.int (nI n)), some (.ref 52), some (.ref 50)]) (t := []) (fun f => rfl) (pi_C_hasRun2T hR.k hs1 ⟨i, n, rfl, rfl, hi⟩) ?_
  rintro _ _ ⟨rfl, rfl⟩
  refine pi_cf 1 (c := nI 1 = 0) (pc' := 87) (l' := [some (.ref 0), some (.int (nI 2)), some (.int (nI i)), some (.int (nI 1)), some (.int (nI j)), some (.int (nI n)), some (.ref 52), some (.ref 50)]) (st' := []) (σ' := σ) (pc2 := 99) (l2 := [some (.ref 0), some (.int (nI 2)), some (.int (nI i)), some (.int (nI 1)), some (.int (nI j)), some (.int (nI n)), some (.ref 52), some (.ref 50)]) (st2 := []) (σ2 := σ) (fun f => rfl) (by decide) ?_
  refine pi_ca 4 (m' := 39) (l' := [some (.ref 50), some (.int (nI j)), some (.int (nI n))]) (σ' := σ) (pc2 := 96) (l2 := [some (.ref 0), some (.int (nI 2)), some (.int (nI i)), some (.int (nI 1)), some (.int (nI j)), some (.int (nI n)), some (.ref 52), some (.ref 50)]) (t := []) (fun f => rfl) (pi_C_hasRun1T hR.k ht1 ⟨j, n, rfl, rfl, hj⟩) ?_
  rintro _ _ ⟨rfl, rfl⟩
  refine pi_cf 1 (c := nI 1 = 0) (pc' := 105) (l' := [some (.ref 0), some (.int (nI 2)), some (.int (nI i)), some (.int (nI 1)), some (.int (nI j)), some (.int (nI n)), some (.ref 52), some (.ref 50)]) (st' := []) (σ' := σ) (pc2 := 99) (l2 := [some (.ref 0), some (.int (nI 2)), some (.int (nI i)), some (.int (nI 1)), some (.int (nI j)), some (.int (nI n)), some (.ref 52), some (.ref 50)]) (st2 := []) (σ2 := σ) (fun f => rfl) (by decide) ?_
  refine pi_go 7 (pc' := 120) (l' := [some (.ref 0), some (.int (nI 2)), some (.int (nI i)), some (.int (nI 1)), some (.int (nI j)), some (.int (nI n)), some (.ref 52), some (.ref 50)]) (st' := [.int (nI n), .int (nI j), .ref 51, .int (nI i), .ref 53]) (σ' := σ) (fun f => rfl) ?_
  refine pi_gd 1 (c := ¬ nI i < 0 ∧ ¬ nI j < 0 ∧ ¬ nI n < 0 ∧ (nI i).toNatClampNeg + (nI n).toNatClampNeg ≤ 48 ∧ (nI j).toNatClampNeg + (nI n).toNatClampNeg ≤ 48) (pc' := 123) (l' := [some (.ref 0), some (.int (nI 2)), some (.int (nI i)), some (.int (nI 1)), some (.int (nI j)), some (.int (nI n)), some (.ref 52), some (.ref 50)]) (st' := []) (σ' := pi_cpy σ 53 51 (nI i).toNatClampNeg (nI j).toNatClampNeg (nI n).toNatClampNeg) (fun f => rfl) ⟨z_ltz (by omega), z_ltz (by omega), z_ltz (by omega), by rw [nI_clamp (by omega), nI_clamp (by omega)]; omega, by rw [nI_clamp (by omega), nI_clamp (by omega)]; omega⟩ ?_
  rw [show (nI i).toNatClampNeg = i from nI_clamp (by omega), show (nI j).toNatClampNeg = j from nI_clamp (by omega), show (nI n).toNatClampNeg = n from nI_clamp (by omega)]
  generalize es1 : pi_cpy σ 53 51 i j n = s1
  have rs1 := pi_cpy_fr es1
  refine pi_rt 2 (v := some (.int (nI 1))) (σ' := s1) (fun f => rfl) ?_
  have hfr : pi_fr [51] s1 σ := pi_fr_tr rs1 (by decide) (pi_fr_rf)
  exact ⟨rfl, hR.it1 (fun q hq => (congrFun (pi_cpy_at es1) q).trans (z_cp_row hR.k.p.si2 hR.k.p.si1 (by omega) (by omega) q hq)) (z_cp_o (by omega)) hfr, pi_fr_tr hfr (by decide) pi_fr_rf⟩
set_option maxRecDepth 20000 in
theorem pi_X_copy22_null1 {xs : Nat → Int32} {L d : Nat} {W : zW} {σ : pi_S} (hR : z_CR W σ) {i j n : Int32} (hs0 : W.th 2 = 0)  : pi_wp xs L (d + 9) 90 0 [some (.ref 0), some (.int (nI 2)), some (.int i), some (.int (nI 2)), some (.int j), some (.int n), none, none] [] σ (fun v s => v = some (.int ((-10) - (nI 1))) ∧ z_CR (W.sS 0 (nI 1)) s ∧ pi_fr z_CC s σ) := by
  have hk := hR.k.p.wk
  have hnd8 := hk.wd.nd8
  have hns12 := hk.wd.ns12
  have hn60 := hk.nine
  have hnf := hk.nf
  have hnw := hk.nw
  have hnc := hk.nc
  have hn08 := hk.wd.n0
  have hn140 := hk.wd.n1
  have hsi := hk.si 2 (by omega)
  have hti := hk.si 2 (by omega)
  refine pi_ca 3 (m' := 94) (l' := [some (.int (nI 2)), some (.int (nI 4))]) (σ' := σ) (pc2 := 5) (l2 := [some (.ref 0), some (.int (nI 2)), some (.int i), some (.int (nI 2)), some (.int j), some (.int n), none, none]) (t := []) (fun f => rfl) (pi_below1 _ _ (z_BL (by omega) (by omega))) ?_
  rintro _ _ ⟨rfl, rfl⟩
  refine pi_cf 1 (c := nI 1 = 0) (pc' := 8) (l' := [some (.ref 0), some (.int (nI 2)), some (.int i), some (.int (nI 2)), some (.int j), some (.int n), none, none]) (st' := []) (σ' := σ) (pc2 := 16) (l2 := [some (.ref 0), some (.int (nI 2)), some (.int i), some (.int (nI 2)), some (.int j), some (.int n), none, none]) (st2 := []) (σ2 := σ) (fun f => rfl) (by decide) ?_
  refine pi_ca 3 (m' := 94) (l' := [some (.int (nI 2)), some (.int (nI 4))]) (σ' := σ) (pc2 := 13) (l2 := [some (.ref 0), some (.int (nI 2)), some (.int i), some (.int (nI 2)), some (.int j), some (.int n), none, none]) (t := []) (fun f => rfl) (pi_below1 _ _ (z_BL (by omega) (by omega))) ?_
  rintro _ _ ⟨rfl, rfl⟩
  refine pi_cf 1 (c := nI 1 = 0) (pc' := 19) (l' := [some (.ref 0), some (.int (nI 2)), some (.int i), some (.int (nI 2)), some (.int j), some (.int n), none, none]) (st' := []) (σ' := σ) (pc2 := 16) (l2 := [some (.ref 0), some (.int (nI 2)), some (.int i), some (.int (nI 2)), some (.int j), some (.int n), none, none]) (st2 := []) (σ2 := σ) (fun f => rfl) (by decide) ?_
  refine pi_aq 4 (u := 2) (n := 4) (a := 47) (c := 52) (pc' := 25) (l' := [some (.ref 0), some (.int (nI 2)), some (.int i), some (.int (nI 2)), some (.int j), some (.int n), none, none]) (t := []) (σ' := σ) (fun f => rfl) (by omega) (by omega) rfl ?_
  refine pi_aq 5 (u := 2) (n := 4) (a := 47) (c := 52) (pc' := 33) (l' := [some (.ref 0), some (.int (nI 2)), some (.int i), some (.int (nI 2)), some (.int j), some (.int n), some (.ref 52), none]) (t := []) (σ' := σ) (fun f => rfl) (by omega) (by omega) rfl ?_
  refine pi_ca 3 (m' := 36) (l' := [some (.ref 52)]) (σ' := σ) (pc2 := 40) (l2 := [some (.ref 0), some (.int (nI 2)), some (.int i), some (.int (nI 2)), some (.int j), some (.int n), some (.ref 52), some (.ref 52)]) (t := []) (fun f => rfl) (pi_C_lost2_t hR.k hs0) ?_
  rintro _ _ ⟨rfl, rfl⟩
  refine pi_cf 1 (c := nI 1 = 0) (pc' := 51) (l' := [some (.ref 0), some (.int (nI 2)), some (.int i), some (.int (nI 2)), some (.int j), some (.int n), some (.ref 52), some (.ref 52)]) (st' := []) (σ' := σ) (pc2 := 43) (l2 := [some (.ref 0), some (.int (nI 2)), some (.int i), some (.int (nI 2)), some (.int j), some (.int n), some (.ref 52), some (.ref 52)]) (st2 := []) (σ2 := σ) (fun f => rfl) (by decide) ?_
  refine pi_ca 3 (m' := 96) (l' := [some (.ref 0), some (.int (nI 1))]) (σ' := σ) (pc2 := 56) (l2 := [some (.ref 0), some (.int (nI 2)), some (.int i), some (.int (nI 2)), some (.int j), some (.int n), some (.ref 52), some (.ref 52)]) (t := []) (fun f => rfl) (pi_C_found (nI 1)) ?_
  rintro _ t1 ⟨rfl, et1, kt1, rt1⟩
  refine pi_rt 1 (v := some (.int ((-10) - (nI 1)))) (σ' := t1) (fun f => rfl) ?_
  have hfr : pi_fr [0] t1 σ := pi_fr_tr rt1 (by decide) (pi_fr_rf)
  exact ⟨rfl, hR.fnd (et1) hfr, pi_fr_tr hfr (by decide) pi_fr_rf⟩
set_option maxRecDepth 20000 in
theorem pi_X_copy22_index {xs : Nat → Int32} {L d : Nat} {W : zW} {σ : pi_S} (hR : z_CR W σ) {i j n : Int32} (hs1 : ¬ W.th 2 = 0) (ht1 : ¬ W.th 2 = 0) (h4 : W.fo 2 = W.fo 2) (hb : ¬ z_cp W 2 2 i j n)  : pi_wp xs L (d + 9) 90 0 [some (.ref 0), some (.int (nI 2)), some (.int i), some (.int (nI 2)), some (.int j), some (.int n), none, none] [] σ (fun v s => v = some (.int ((-10) - (nI 2))) ∧ z_CR (W.sS 0 (nI 2)) s ∧ pi_fr z_CC s σ) := by
  have hk := hR.k.p.wk
  have hnd8 := hk.wd.nd8
  have hns12 := hk.wd.ns12
  have hn60 := hk.nine
  have hnf := hk.nf
  have hnw := hk.nw
  have hnc := hk.nc
  have hn08 := hk.wd.n0
  have hn140 := hk.wd.n1
  have hsi := hk.si 2 (by omega)
  have hti := hk.si 2 (by omega)
  refine pi_ca 3 (m' := 94) (l' := [some (.int (nI 2)), some (.int (nI 4))]) (σ' := σ) (pc2 := 5) (l2 := [some (.ref 0), some (.int (nI 2)), some (.int i), some (.int (nI 2)), some (.int j), some (.int n), none, none]) (t := []) (fun f => rfl) (pi_below1 _ _ (z_BL (by omega) (by omega))) ?_
  rintro _ _ ⟨rfl, rfl⟩
  refine pi_cf 1 (c := nI 1 = 0) (pc' := 8) (l' := [some (.ref 0), some (.int (nI 2)), some (.int i), some (.int (nI 2)), some (.int j), some (.int n), none, none]) (st' := []) (σ' := σ) (pc2 := 16) (l2 := [some (.ref 0), some (.int (nI 2)), some (.int i), some (.int (nI 2)), some (.int j), some (.int n), none, none]) (st2 := []) (σ2 := σ) (fun f => rfl) (by decide) ?_
  refine pi_ca 3 (m' := 94) (l' := [some (.int (nI 2)), some (.int (nI 4))]) (σ' := σ) (pc2 := 13) (l2 := [some (.ref 0), some (.int (nI 2)), some (.int i), some (.int (nI 2)), some (.int j), some (.int n), none, none]) (t := []) (fun f => rfl) (pi_below1 _ _ (z_BL (by omega) (by omega))) ?_
  rintro _ _ ⟨rfl, rfl⟩
  refine pi_cf 1 (c := nI 1 = 0) (pc' := 19) (l' := [some (.ref 0), some (.int (nI 2)), some (.int i), some (.int (nI 2)), some (.int j), some (.int n), none, none]) (st' := []) (σ' := σ) (pc2 := 16) (l2 := [some (.ref 0), some (.int (nI 2)), some (.int i), some (.int (nI 2)), some (.int j), some (.int n), none, none]) (st2 := []) (σ2 := σ) (fun f => rfl) (by decide) ?_
  refine pi_aq 4 (u := 2) (n := 4) (a := 47) (c := 52) (pc' := 25) (l' := [some (.ref 0), some (.int (nI 2)), some (.int i), some (.int (nI 2)), some (.int j), some (.int n), none, none]) (t := []) (σ' := σ) (fun f => rfl) (by omega) (by omega) rfl ?_
  refine pi_aq 5 (u := 2) (n := 4) (a := 47) (c := 52) (pc' := 33) (l' := [some (.ref 0), some (.int (nI 2)), some (.int i), some (.int (nI 2)), some (.int j), some (.int n), some (.ref 52), none]) (t := []) (σ' := σ) (fun f => rfl) (by omega) (by omega) rfl ?_
  refine pi_ca 3 (m' := 36) (l' := [some (.ref 52)]) (σ' := σ) (pc2 := 40) (l2 := [some (.ref 0), some (.int (nI 2)), some (.int i), some (.int (nI 2)), some (.int j), some (.int n), some (.ref 52), some (.ref 52)]) (t := []) (fun f => rfl) (pi_C_lost2_f hR.k hs1) ?_
  rintro _ _ ⟨rfl, rfl⟩
  refine pi_ct 1 (c := nI 0 = 0) (pc' := 43) (l' := [some (.ref 0), some (.int (nI 2)), some (.int i), some (.int (nI 2)), some (.int j), some (.int n), some (.ref 52), some (.ref 52)]) (st' := []) (σ' := σ) (pc2 := 51) (l2 := [some (.ref 0), some (.int (nI 2)), some (.int i), some (.int (nI 2)), some (.int j), some (.int n), some (.ref 52), some (.ref 52)]) (st2 := []) (σ2 := σ) (fun f => rfl) (by decide) ?_
  refine pi_ca 2 (m' := 36) (l' := [some (.ref 52)]) (σ' := σ) (pc2 := 48) (l2 := [some (.ref 0), some (.int (nI 2)), some (.int i), some (.int (nI 2)), some (.int j), some (.int n), some (.ref 52), some (.ref 52)]) (t := []) (fun f => rfl) (pi_C_lost2_f hR.k hs1) ?_
  rintro _ _ ⟨rfl, rfl⟩
  refine pi_ct 1 (c := nI 0 = 0) (pc' := 57) (l' := [some (.ref 0), some (.int (nI 2)), some (.int i), some (.int (nI 2)), some (.int j), some (.int n), some (.ref 52), some (.ref 52)]) (st' := []) (σ' := σ) (pc2 := 51) (l2 := [some (.ref 0), some (.int (nI 2)), some (.int i), some (.int (nI 2)), some (.int j), some (.int n), some (.ref 52), some (.ref 52)]) (st2 := []) (σ2 := σ) (fun f => rfl) (by decide) ?_
  refine pi_go 2 (pc' := 62) (l' := [some (.ref 0), some (.int (nI 2)), some (.int i), some (.int (nI 2)), some (.int j), some (.int n), some (.ref 52), some (.ref 52)]) (st' := [.int (σ 52 1)]) (σ' := σ) (fun f => rfl) ?_
  refine pi_tp (y := nI (W.fo 2)) (hR.k.p.sf2) ?_
  refine pi_go 2 (pc' := 67) (l' := [some (.ref 0), some (.int (nI 2)), some (.int i), some (.int (nI 2)), some (.int j), some (.int n), some (.ref 52), some (.ref 52)]) (st' := [.int (σ 52 1), .int (nI (W.fo 2))]) (σ' := σ) (fun f => rfl) ?_
  refine pi_tp (y := nI (W.fo 2)) (hR.k.p.sf2) ?_
  refine pi_ct 1 (c := nI (W.fo 2) = nI (W.fo 2)) (pc' := 76) (l' := [some (.ref 0), some (.int (nI 2)), some (.int i), some (.int (nI 2)), some (.int j), some (.int n), some (.ref 52), some (.ref 52)]) (st' := []) (σ' := σ) (pc2 := 70) (l2 := [some (.ref 0), some (.int (nI 2)), some (.int i), some (.int (nI 2)), some (.int j), some (.int n), some (.ref 52), some (.ref 52)]) (st2 := []) (σ2 := σ) (fun f => rfl) ((show nI (W.fo 2) = nI (W.fo 2) ↔ _ from nI_eq (by omega) (by omega)).mpr (by omega)) ?_
  refine pi_ca 4 (m' := 39) (l' := [some (.ref 52), some (.int i), some (.int n)]) (σ' := σ) (pc2 := 84) (l2 := [some (.ref 0), some (.int (nI 2)), some (.int i), some (.int (nI 2)), some (.int j), some (.int n), some (.ref 52), some (.ref 52)]) (t := []) (fun f => rfl) (pi_C_hasRun2 hR.k hs1 i n) ?_
  rintro _ _ (⟨b1, rfl, rfl⟩ | ⟨b1, rfl, rfl⟩)
  · refine pi_cf 1 (c := nI 1 = 0) (pc' := 87) (l' := [some (.ref 0), some (.int (nI 2)), some (.int i), some (.int (nI 2)), some (.int j), some (.int n), some (.ref 52), some (.ref 52)]) (st' := []) (σ' := σ) (pc2 := 99) (l2 := [some (.ref 0), some (.int (nI 2)), some (.int i), some (.int (nI 2)), some (.int j), some (.int n), some (.ref 52), some (.ref 52)]) (st2 := []) (σ2 := σ) (fun f => rfl) (by decide) ?_
    refine pi_ca 4 (m' := 39) (l' := [some (.ref 52), some (.int j), some (.int n)]) (σ' := σ) (pc2 := 96) (l2 := [some (.ref 0), some (.int (nI 2)), some (.int i), some (.int (nI 2)), some (.int j), some (.int n), some (.ref 52), some (.ref 52)]) (t := []) (fun f => rfl) (pi_C_hasRun2 hR.k hs1 j n) ?_
    rintro _ _ (⟨b2, rfl, rfl⟩ | ⟨b2, rfl, rfl⟩)
    · refine pi_cf 1 (c := nI 1 = 0) (pc' := 105) (l' := [some (.ref 0), some (.int (nI 2)), some (.int i), some (.int (nI 2)), some (.int j), some (.int n), some (.ref 52), some (.ref 52)]) (st' := []) (σ' := σ) (pc2 := 99) (l2 := [some (.ref 0), some (.int (nI 2)), some (.int i), some (.int (nI 2)), some (.int j), some (.int n), some (.ref 52), some (.ref 52)]) (st2 := []) (σ2 := σ) (fun f => rfl) (by decide) ?_
      exact (hb (z_cp_hr hsi.1 hti.1 b1 b2)).elim
    · refine pi_ct 1 (c := nI 0 = 0) (pc' := 99) (l' := [some (.ref 0), some (.int (nI 2)), some (.int i), some (.int (nI 2)), some (.int j), some (.int n), some (.ref 52), some (.ref 52)]) (st' := []) (σ' := σ) (pc2 := 105) (l2 := [some (.ref 0), some (.int (nI 2)), some (.int i), some (.int (nI 2)), some (.int j), some (.int n), some (.ref 52), some (.ref 52)]) (st2 := []) (σ2 := σ) (fun f => rfl) (by decide) ?_
      refine pi_ca 3 (m' := 96) (l' := [some (.ref 0), some (.int (nI 2))]) (σ' := σ) (pc2 := 104) (l2 := [some (.ref 0), some (.int (nI 2)), some (.int i), some (.int (nI 2)), some (.int j), some (.int n), some (.ref 52), some (.ref 52)]) (t := []) (fun f => rfl) (pi_C_found (nI 2)) ?_
      rintro _ t1 ⟨rfl, et1, kt1, rt1⟩
      refine pi_rt 1 (v := some (.int ((-10) - (nI 2)))) (σ' := t1) (fun f => rfl) ?_
      have hfr : pi_fr [0] t1 σ := pi_fr_tr rt1 (by decide) (pi_fr_rf)
      exact ⟨rfl, hR.fnd (et1) hfr, pi_fr_tr hfr (by decide) pi_fr_rf⟩
  · refine pi_ct 1 (c := nI 0 = 0) (pc' := 99) (l' := [some (.ref 0), some (.int (nI 2)), some (.int i), some (.int (nI 2)), some (.int j), some (.int n), some (.ref 52), some (.ref 52)]) (st' := []) (σ' := σ) (pc2 := 87) (l2 := [some (.ref 0), some (.int (nI 2)), some (.int i), some (.int (nI 2)), some (.int j), some (.int n), some (.ref 52), some (.ref 52)]) (st2 := []) (σ2 := σ) (fun f => rfl) (by decide) ?_
    refine pi_ca 3 (m' := 96) (l' := [some (.ref 0), some (.int (nI 2))]) (σ' := σ) (pc2 := 104) (l2 := [some (.ref 0), some (.int (nI 2)), some (.int i), some (.int (nI 2)), some (.int j), some (.int n), some (.ref 52), some (.ref 52)]) (t := []) (fun f => rfl) (pi_C_found (nI 2)) ?_
    rintro _ t2 ⟨rfl, et2, kt2, rt2⟩
    refine pi_rt 1 (v := some (.int ((-10) - (nI 2)))) (σ' := t2) (fun f => rfl) ?_
    have hfr : pi_fr [0] t2 σ := pi_fr_tr rt2 (by decide) (pi_fr_rf)
    exact ⟨rfl, hR.fnd (et2) hfr, pi_fr_tr hfr (by decide) pi_fr_rf⟩
set_option maxRecDepth 20000 in
theorem pi_X_copy22 {xs : Nat → Int32} {L d : Nat} {W : zW} {σ : pi_S} (hR : z_CR W σ) {i j n : Nat} (hs1 : ¬ W.th 2 = 0) (ht1 : ¬ W.th 2 = 0) (h4 : W.fo 2 = W.fo 2) (hi : i + n ≤ W.si 2) (hj : j + n ≤ W.si 2)  : pi_wp xs L (d + 9) 90 0 [some (.ref 0), some (.int (nI 2)), some (.int (nI i)), some (.int (nI 2)), some (.int (nI j)), some (.int (nI n)), none, none] [] σ (fun v s => v = some (.int (nI 1)) ∧ z_CR (W.sI 9 (pi_lp (fun q f => upd f (48 * 2 + j + q) (W.it (48 * 2 + i + q))) n W.it)) s ∧ pi_fr z_CC s σ) := by
  have hk := hR.k.p.wk
  have hnd8 := hk.wd.nd8
  have hns12 := hk.wd.ns12
  have hn60 := hk.nine
  have hnf := hk.nf
  have hnw := hk.nw
  have hnc := hk.nc
  have hn08 := hk.wd.n0
  have hn140 := hk.wd.n1
  have hsi := hk.si 2 (by omega)
  have hti := hk.si 2 (by omega)
  refine pi_ca 3 (m' := 94) (l' := [some (.int (nI 2)), some (.int (nI 4))]) (σ' := σ) (pc2 := 5) (l2 := [some (.ref 0), some (.int (nI 2)), some (.int (nI i)), some (.int (nI 2)), some (.int (nI j)), some (.int (nI n)), none, none]) (t := []) (fun f => rfl) (pi_below1 _ _ (z_BL (by omega) (by omega))) ?_
  rintro _ _ ⟨rfl, rfl⟩
  refine pi_cf 1 (c := nI 1 = 0) (pc' := 8) (l' := [some (.ref 0), some (.int (nI 2)), some (.int (nI i)), some (.int (nI 2)), some (.int (nI j)), some (.int (nI n)), none, none]) (st' := []) (σ' := σ) (pc2 := 16) (l2 := [some (.ref 0), some (.int (nI 2)), some (.int (nI i)), some (.int (nI 2)), some (.int (nI j)), some (.int (nI n)), none, none]) (st2 := []) (σ2 := σ) (fun f => rfl) (by decide) ?_
  refine pi_ca 3 (m' := 94) (l' := [some (.int (nI 2)), some (.int (nI 4))]) (σ' := σ) (pc2 := 13) (l2 := [some (.ref 0), some (.int (nI 2)), some (.int (nI i)), some (.int (nI 2)), some (.int (nI j)), some (.int (nI n)), none, none]) (t := []) (fun f => rfl) (pi_below1 _ _ (z_BL (by omega) (by omega))) ?_
  rintro _ _ ⟨rfl, rfl⟩
  refine pi_cf 1 (c := nI 1 = 0) (pc' := 19) (l' := [some (.ref 0), some (.int (nI 2)), some (.int (nI i)), some (.int (nI 2)), some (.int (nI j)), some (.int (nI n)), none, none]) (st' := []) (σ' := σ) (pc2 := 16) (l2 := [some (.ref 0), some (.int (nI 2)), some (.int (nI i)), some (.int (nI 2)), some (.int (nI j)), some (.int (nI n)), none, none]) (st2 := []) (σ2 := σ) (fun f => rfl) (by decide) ?_
  refine pi_aq 4 (u := 2) (n := 4) (a := 47) (c := 52) (pc' := 25) (l' := [some (.ref 0), some (.int (nI 2)), some (.int (nI i)), some (.int (nI 2)), some (.int (nI j)), some (.int (nI n)), none, none]) (t := []) (σ' := σ) (fun f => rfl) (by omega) (by omega) rfl ?_
  refine pi_aq 5 (u := 2) (n := 4) (a := 47) (c := 52) (pc' := 33) (l' := [some (.ref 0), some (.int (nI 2)), some (.int (nI i)), some (.int (nI 2)), some (.int (nI j)), some (.int (nI n)), some (.ref 52), none]) (t := []) (σ' := σ) (fun f => rfl) (by omega) (by omega) rfl ?_
  refine pi_ca 3 (m' := 36) (l' := [some (.ref 52)]) (σ' := σ) (pc2 := 40) (l2 := [some (.ref 0), some (.int (nI 2)), some (.int (nI i)), some (.int (nI 2)), some (.int (nI j)), some (.int (nI n)), some (.ref 52), some (.ref 52)]) (t := []) (fun f => rfl) (pi_C_lost2_f hR.k hs1) ?_
  rintro _ _ ⟨rfl, rfl⟩
  refine pi_ct 1 (c := nI 0 = 0) (pc' := 43) (l' := [some (.ref 0), some (.int (nI 2)), some (.int (nI i)), some (.int (nI 2)), some (.int (nI j)), some (.int (nI n)), some (.ref 52), some (.ref 52)]) (st' := []) (σ' := σ) (pc2 := 51) (l2 := [some (.ref 0), some (.int (nI 2)), some (.int (nI i)), some (.int (nI 2)), some (.int (nI j)), some (.int (nI n)), some (.ref 52), some (.ref 52)]) (st2 := []) (σ2 := σ) (fun f => rfl) (by decide) ?_
  refine pi_ca 2 (m' := 36) (l' := [some (.ref 52)]) (σ' := σ) (pc2 := 48) (l2 := [some (.ref 0), some (.int (nI 2)), some (.int (nI i)), some (.int (nI 2)), some (.int (nI j)), some (.int (nI n)), some (.ref 52), some (.ref 52)]) (t := []) (fun f => rfl) (pi_C_lost2_f hR.k hs1) ?_
  rintro _ _ ⟨rfl, rfl⟩
  refine pi_ct 1 (c := nI 0 = 0) (pc' := 57) (l' := [some (.ref 0), some (.int (nI 2)), some (.int (nI i)), some (.int (nI 2)), some (.int (nI j)), some (.int (nI n)), some (.ref 52), some (.ref 52)]) (st' := []) (σ' := σ) (pc2 := 51) (l2 := [some (.ref 0), some (.int (nI 2)), some (.int (nI i)), some (.int (nI 2)), some (.int (nI j)), some (.int (nI n)), some (.ref 52), some (.ref 52)]) (st2 := []) (σ2 := σ) (fun f => rfl) (by decide) ?_
  refine pi_go 2 (pc' := 62) (l' := [some (.ref 0), some (.int (nI 2)), some (.int (nI i)), some (.int (nI 2)), some (.int (nI j)), some (.int (nI n)), some (.ref 52), some (.ref 52)]) (st' := [.int (σ 52 1)]) (σ' := σ) (fun f => rfl) ?_
  refine pi_tp (y := nI (W.fo 2)) (hR.k.p.sf2) ?_
  refine pi_go 2 (pc' := 67) (l' := [some (.ref 0), some (.int (nI 2)), some (.int (nI i)), some (.int (nI 2)), some (.int (nI j)), some (.int (nI n)), some (.ref 52), some (.ref 52)]) (st' := [.int (σ 52 1), .int (nI (W.fo 2))]) (σ' := σ) (fun f => rfl) ?_
  refine pi_tp (y := nI (W.fo 2)) (hR.k.p.sf2) ?_
  refine pi_ct 1 (c := nI (W.fo 2) = nI (W.fo 2)) (pc' := 76) (l' := [some (.ref 0), some (.int (nI 2)), some (.int (nI i)), some (.int (nI 2)), some (.int (nI j)), some (.int (nI n)), some (.ref 52), some (.ref 52)]) (st' := []) (σ' := σ) (pc2 := 70) (l2 := [some (.ref 0), some (.int (nI 2)), some (.int (nI i)), some (.int (nI 2)), some (.int (nI j)), some (.int (nI n)), some (.ref 52), some (.ref 52)]) (st2 := []) (σ2 := σ) (fun f => rfl) ((show nI (W.fo 2) = nI (W.fo 2) ↔ _ from nI_eq (by omega) (by omega)).mpr (by omega)) ?_
  refine pi_ca 4 (m' := 39) (l' := [some (.ref 52), some (.int (nI i)), some (.int (nI n))]) (σ' := σ) (pc2 := 84) (l2 := [some (.ref 0), some (.int (nI 2)), some (.int (nI i)), some (.int (nI 2)), some (.int (nI j)), some (.int (nI n)), some (.ref 52), some (.ref 52)]) (t := []) (fun f => rfl) (pi_C_hasRun2T hR.k hs1 ⟨i, n, rfl, rfl, hi⟩) ?_
  rintro _ _ ⟨rfl, rfl⟩
  refine pi_cf 1 (c := nI 1 = 0) (pc' := 87) (l' := [some (.ref 0), some (.int (nI 2)), some (.int (nI i)), some (.int (nI 2)), some (.int (nI j)), some (.int (nI n)), some (.ref 52), some (.ref 52)]) (st' := []) (σ' := σ) (pc2 := 99) (l2 := [some (.ref 0), some (.int (nI 2)), some (.int (nI i)), some (.int (nI 2)), some (.int (nI j)), some (.int (nI n)), some (.ref 52), some (.ref 52)]) (st2 := []) (σ2 := σ) (fun f => rfl) (by decide) ?_
  refine pi_ca 4 (m' := 39) (l' := [some (.ref 52), some (.int (nI j)), some (.int (nI n))]) (σ' := σ) (pc2 := 96) (l2 := [some (.ref 0), some (.int (nI 2)), some (.int (nI i)), some (.int (nI 2)), some (.int (nI j)), some (.int (nI n)), some (.ref 52), some (.ref 52)]) (t := []) (fun f => rfl) (pi_C_hasRun2T hR.k hs1 ⟨j, n, rfl, rfl, hj⟩) ?_
  rintro _ _ ⟨rfl, rfl⟩
  refine pi_cf 1 (c := nI 1 = 0) (pc' := 105) (l' := [some (.ref 0), some (.int (nI 2)), some (.int (nI i)), some (.int (nI 2)), some (.int (nI j)), some (.int (nI n)), some (.ref 52), some (.ref 52)]) (st' := []) (σ' := σ) (pc2 := 99) (l2 := [some (.ref 0), some (.int (nI 2)), some (.int (nI i)), some (.int (nI 2)), some (.int (nI j)), some (.int (nI n)), some (.ref 52), some (.ref 52)]) (st2 := []) (σ2 := σ) (fun f => rfl) (by decide) ?_
  refine pi_go 7 (pc' := 120) (l' := [some (.ref 0), some (.int (nI 2)), some (.int (nI i)), some (.int (nI 2)), some (.int (nI j)), some (.int (nI n)), some (.ref 52), some (.ref 52)]) (st' := [.int (nI n), .int (nI j), .ref 53, .int (nI i), .ref 53]) (σ' := σ) (fun f => rfl) ?_
  refine pi_gd 1 (c := ¬ nI i < 0 ∧ ¬ nI j < 0 ∧ ¬ nI n < 0 ∧ (nI i).toNatClampNeg + (nI n).toNatClampNeg ≤ 48 ∧ (nI j).toNatClampNeg + (nI n).toNatClampNeg ≤ 48) (pc' := 123) (l' := [some (.ref 0), some (.int (nI 2)), some (.int (nI i)), some (.int (nI 2)), some (.int (nI j)), some (.int (nI n)), some (.ref 52), some (.ref 52)]) (st' := []) (σ' := pi_cpy σ 53 53 (nI i).toNatClampNeg (nI j).toNatClampNeg (nI n).toNatClampNeg) (fun f => rfl) ⟨z_ltz (by omega), z_ltz (by omega), z_ltz (by omega), by rw [nI_clamp (by omega), nI_clamp (by omega)]; omega, by rw [nI_clamp (by omega), nI_clamp (by omega)]; omega⟩ ?_
  rw [show (nI i).toNatClampNeg = i from nI_clamp (by omega), show (nI j).toNatClampNeg = j from nI_clamp (by omega), show (nI n).toNatClampNeg = n from nI_clamp (by omega)]
  generalize es1 : pi_cpy σ 53 53 i j n = s1
  have rs1 := pi_cpy_fr es1
  refine pi_rt 2 (v := some (.int (nI 1))) (σ' := s1) (fun f => rfl) ?_
  have hfr : pi_fr [53] s1 σ := pi_fr_tr rs1 (by decide) (pi_fr_rf)
  exact ⟨rfl, hR.it2 (fun q hq => (congrFun (pi_cpy_at es1) q).trans (z_cp_row hR.k.p.si2 hR.k.p.si2 (by omega) (by omega) q hq)) (z_cp_o (by omega)) hfr, pi_fr_tr hfr (by decide) pi_fr_rf⟩
set_option maxRecDepth 20000 in
theorem pi_X_copy23_null1 {xs : Nat → Int32} {L d : Nat} {W : zW} {σ : pi_S} (hR : z_CR W σ) {i j n : Int32} (hs0 : W.th 2 = 0)  : pi_wp xs L (d + 9) 90 0 [some (.ref 0), some (.int (nI 2)), some (.int i), some (.int (nI 3)), some (.int j), some (.int n), none, none] [] σ (fun v s => v = some (.int ((-10) - (nI 1))) ∧ z_CR (W.sS 0 (nI 1)) s ∧ pi_fr z_CC s σ) := by
  have hk := hR.k.p.wk
  have hnd8 := hk.wd.nd8
  have hns12 := hk.wd.ns12
  have hn60 := hk.nine
  have hnf := hk.nf
  have hnw := hk.nw
  have hnc := hk.nc
  have hn08 := hk.wd.n0
  have hn140 := hk.wd.n1
  have hsi := hk.si 2 (by omega)
  have hti := hk.si 3 (by omega)
  refine pi_ca 3 (m' := 94) (l' := [some (.int (nI 2)), some (.int (nI 4))]) (σ' := σ) (pc2 := 5) (l2 := [some (.ref 0), some (.int (nI 2)), some (.int i), some (.int (nI 3)), some (.int j), some (.int n), none, none]) (t := []) (fun f => rfl) (pi_below1 _ _ (z_BL (by omega) (by omega))) ?_
  rintro _ _ ⟨rfl, rfl⟩
  refine pi_cf 1 (c := nI 1 = 0) (pc' := 8) (l' := [some (.ref 0), some (.int (nI 2)), some (.int i), some (.int (nI 3)), some (.int j), some (.int n), none, none]) (st' := []) (σ' := σ) (pc2 := 16) (l2 := [some (.ref 0), some (.int (nI 2)), some (.int i), some (.int (nI 3)), some (.int j), some (.int n), none, none]) (st2 := []) (σ2 := σ) (fun f => rfl) (by decide) ?_
  refine pi_ca 3 (m' := 94) (l' := [some (.int (nI 3)), some (.int (nI 4))]) (σ' := σ) (pc2 := 13) (l2 := [some (.ref 0), some (.int (nI 2)), some (.int i), some (.int (nI 3)), some (.int j), some (.int n), none, none]) (t := []) (fun f => rfl) (pi_below1 _ _ (z_BL (by omega) (by omega))) ?_
  rintro _ _ ⟨rfl, rfl⟩
  refine pi_cf 1 (c := nI 1 = 0) (pc' := 19) (l' := [some (.ref 0), some (.int (nI 2)), some (.int i), some (.int (nI 3)), some (.int j), some (.int n), none, none]) (st' := []) (σ' := σ) (pc2 := 16) (l2 := [some (.ref 0), some (.int (nI 2)), some (.int i), some (.int (nI 3)), some (.int j), some (.int n), none, none]) (st2 := []) (σ2 := σ) (fun f => rfl) (by decide) ?_
  refine pi_aq 4 (u := 2) (n := 4) (a := 47) (c := 52) (pc' := 25) (l' := [some (.ref 0), some (.int (nI 2)), some (.int i), some (.int (nI 3)), some (.int j), some (.int n), none, none]) (t := []) (σ' := σ) (fun f => rfl) (by omega) (by omega) rfl ?_
  refine pi_aq 5 (u := 3) (n := 4) (a := 47) (c := 54) (pc' := 33) (l' := [some (.ref 0), some (.int (nI 2)), some (.int i), some (.int (nI 3)), some (.int j), some (.int n), some (.ref 52), none]) (t := []) (σ' := σ) (fun f => rfl) (by omega) (by omega) rfl ?_
  refine pi_ca 3 (m' := 36) (l' := [some (.ref 52)]) (σ' := σ) (pc2 := 40) (l2 := [some (.ref 0), some (.int (nI 2)), some (.int i), some (.int (nI 3)), some (.int j), some (.int n), some (.ref 52), some (.ref 54)]) (t := []) (fun f => rfl) (pi_C_lost2_t hR.k hs0) ?_
  rintro _ _ ⟨rfl, rfl⟩
  refine pi_cf 1 (c := nI 1 = 0) (pc' := 51) (l' := [some (.ref 0), some (.int (nI 2)), some (.int i), some (.int (nI 3)), some (.int j), some (.int n), some (.ref 52), some (.ref 54)]) (st' := []) (σ' := σ) (pc2 := 43) (l2 := [some (.ref 0), some (.int (nI 2)), some (.int i), some (.int (nI 3)), some (.int j), some (.int n), some (.ref 52), some (.ref 54)]) (st2 := []) (σ2 := σ) (fun f => rfl) (by decide) ?_
  refine pi_ca 3 (m' := 96) (l' := [some (.ref 0), some (.int (nI 1))]) (σ' := σ) (pc2 := 56) (l2 := [some (.ref 0), some (.int (nI 2)), some (.int i), some (.int (nI 3)), some (.int j), some (.int n), some (.ref 52), some (.ref 54)]) (t := []) (fun f => rfl) (pi_C_found (nI 1)) ?_
  rintro _ t1 ⟨rfl, et1, kt1, rt1⟩
  refine pi_rt 1 (v := some (.int ((-10) - (nI 1)))) (σ' := t1) (fun f => rfl) ?_
  have hfr : pi_fr [0] t1 σ := pi_fr_tr rt1 (by decide) (pi_fr_rf)
  exact ⟨rfl, hR.fnd (et1) hfr, pi_fr_tr hfr (by decide) pi_fr_rf⟩
set_option maxRecDepth 20000 in
theorem pi_X_copy23_null2 {xs : Nat → Int32} {L d : Nat} {W : zW} {σ : pi_S} (hR : z_CR W σ) {i j n : Int32} (hs1 : ¬ W.th 2 = 0) (ht0 : W.th 3 = 0)  : pi_wp xs L (d + 9) 90 0 [some (.ref 0), some (.int (nI 2)), some (.int i), some (.int (nI 3)), some (.int j), some (.int n), none, none] [] σ (fun v s => v = some (.int ((-10) - (nI 1))) ∧ z_CR (W.sS 0 (nI 1)) s ∧ pi_fr z_CC s σ) := by
  have hk := hR.k.p.wk
  have hnd8 := hk.wd.nd8
  have hns12 := hk.wd.ns12
  have hn60 := hk.nine
  have hnf := hk.nf
  have hnw := hk.nw
  have hnc := hk.nc
  have hn08 := hk.wd.n0
  have hn140 := hk.wd.n1
  have hsi := hk.si 2 (by omega)
  have hti := hk.si 3 (by omega)
  refine pi_ca 3 (m' := 94) (l' := [some (.int (nI 2)), some (.int (nI 4))]) (σ' := σ) (pc2 := 5) (l2 := [some (.ref 0), some (.int (nI 2)), some (.int i), some (.int (nI 3)), some (.int j), some (.int n), none, none]) (t := []) (fun f => rfl) (pi_below1 _ _ (z_BL (by omega) (by omega))) ?_
  rintro _ _ ⟨rfl, rfl⟩
  refine pi_cf 1 (c := nI 1 = 0) (pc' := 8) (l' := [some (.ref 0), some (.int (nI 2)), some (.int i), some (.int (nI 3)), some (.int j), some (.int n), none, none]) (st' := []) (σ' := σ) (pc2 := 16) (l2 := [some (.ref 0), some (.int (nI 2)), some (.int i), some (.int (nI 3)), some (.int j), some (.int n), none, none]) (st2 := []) (σ2 := σ) (fun f => rfl) (by decide) ?_
  refine pi_ca 3 (m' := 94) (l' := [some (.int (nI 3)), some (.int (nI 4))]) (σ' := σ) (pc2 := 13) (l2 := [some (.ref 0), some (.int (nI 2)), some (.int i), some (.int (nI 3)), some (.int j), some (.int n), none, none]) (t := []) (fun f => rfl) (pi_below1 _ _ (z_BL (by omega) (by omega))) ?_
  rintro _ _ ⟨rfl, rfl⟩
  refine pi_cf 1 (c := nI 1 = 0) (pc' := 19) (l' := [some (.ref 0), some (.int (nI 2)), some (.int i), some (.int (nI 3)), some (.int j), some (.int n), none, none]) (st' := []) (σ' := σ) (pc2 := 16) (l2 := [some (.ref 0), some (.int (nI 2)), some (.int i), some (.int (nI 3)), some (.int j), some (.int n), none, none]) (st2 := []) (σ2 := σ) (fun f => rfl) (by decide) ?_
  refine pi_aq 4 (u := 2) (n := 4) (a := 47) (c := 52) (pc' := 25) (l' := [some (.ref 0), some (.int (nI 2)), some (.int i), some (.int (nI 3)), some (.int j), some (.int n), none, none]) (t := []) (σ' := σ) (fun f => rfl) (by omega) (by omega) rfl ?_
  refine pi_aq 5 (u := 3) (n := 4) (a := 47) (c := 54) (pc' := 33) (l' := [some (.ref 0), some (.int (nI 2)), some (.int i), some (.int (nI 3)), some (.int j), some (.int n), some (.ref 52), none]) (t := []) (σ' := σ) (fun f => rfl) (by omega) (by omega) rfl ?_
  refine pi_ca 3 (m' := 36) (l' := [some (.ref 52)]) (σ' := σ) (pc2 := 40) (l2 := [some (.ref 0), some (.int (nI 2)), some (.int i), some (.int (nI 3)), some (.int j), some (.int n), some (.ref 52), some (.ref 54)]) (t := []) (fun f => rfl) (pi_C_lost2_f hR.k hs1) ?_
  rintro _ _ ⟨rfl, rfl⟩
  refine pi_ct 1 (c := nI 0 = 0) (pc' := 43) (l' := [some (.ref 0), some (.int (nI 2)), some (.int i), some (.int (nI 3)), some (.int j), some (.int n), some (.ref 52), some (.ref 54)]) (st' := []) (σ' := σ) (pc2 := 51) (l2 := [some (.ref 0), some (.int (nI 2)), some (.int i), some (.int (nI 3)), some (.int j), some (.int n), some (.ref 52), some (.ref 54)]) (st2 := []) (σ2 := σ) (fun f => rfl) (by decide) ?_
  refine pi_ca 2 (m' := 36) (l' := [some (.ref 54)]) (σ' := σ) (pc2 := 48) (l2 := [some (.ref 0), some (.int (nI 2)), some (.int i), some (.int (nI 3)), some (.int j), some (.int n), some (.ref 52), some (.ref 54)]) (t := []) (fun f => rfl) (pi_C_lost3_t hR.k ht0) ?_
  rintro _ _ ⟨rfl, rfl⟩
  refine pi_cf 1 (c := nI 1 = 0) (pc' := 51) (l' := [some (.ref 0), some (.int (nI 2)), some (.int i), some (.int (nI 3)), some (.int j), some (.int n), some (.ref 52), some (.ref 54)]) (st' := []) (σ' := σ) (pc2 := 57) (l2 := [some (.ref 0), some (.int (nI 2)), some (.int i), some (.int (nI 3)), some (.int j), some (.int n), some (.ref 52), some (.ref 54)]) (st2 := []) (σ2 := σ) (fun f => rfl) (by decide) ?_
  refine pi_ca 3 (m' := 96) (l' := [some (.ref 0), some (.int (nI 1))]) (σ' := σ) (pc2 := 56) (l2 := [some (.ref 0), some (.int (nI 2)), some (.int i), some (.int (nI 3)), some (.int j), some (.int n), some (.ref 52), some (.ref 54)]) (t := []) (fun f => rfl) (pi_C_found (nI 1)) ?_
  rintro _ t1 ⟨rfl, et1, kt1, rt1⟩
  refine pi_rt 1 (v := some (.int ((-10) - (nI 1)))) (σ' := t1) (fun f => rfl) ?_
  have hfr : pi_fr [0] t1 σ := pi_fr_tr rt1 (by decide) (pi_fr_rf)
  exact ⟨rfl, hR.fnd (et1) hfr, pi_fr_tr hfr (by decide) pi_fr_rf⟩
set_option maxRecDepth 20000 in
theorem pi_X_copy23_store {xs : Nat → Int32} {L d : Nat} {W : zW} {σ : pi_S} (hR : z_CR W σ) {i j n : Int32} (hs1 : ¬ W.th 2 = 0) (ht1 : ¬ W.th 3 = 0) (h4 : ¬ W.fo 2 = W.fo 3)  : pi_wp xs L (d + 9) 90 0 [some (.ref 0), some (.int (nI 2)), some (.int i), some (.int (nI 3)), some (.int j), some (.int n), none, none] [] σ (fun v s => v = some (.int ((-10) - (nI 4))) ∧ z_CR (W.sS 0 (nI 4)) s ∧ pi_fr z_CC s σ) := by
  have hk := hR.k.p.wk
  have hnd8 := hk.wd.nd8
  have hns12 := hk.wd.ns12
  have hn60 := hk.nine
  have hnf := hk.nf
  have hnw := hk.nw
  have hnc := hk.nc
  have hn08 := hk.wd.n0
  have hn140 := hk.wd.n1
  have hsi := hk.si 2 (by omega)
  have hti := hk.si 3 (by omega)
  refine pi_ca 3 (m' := 94) (l' := [some (.int (nI 2)), some (.int (nI 4))]) (σ' := σ) (pc2 := 5) (l2 := [some (.ref 0), some (.int (nI 2)), some (.int i), some (.int (nI 3)), some (.int j), some (.int n), none, none]) (t := []) (fun f => rfl) (pi_below1 _ _ (z_BL (by omega) (by omega))) ?_
  rintro _ _ ⟨rfl, rfl⟩
  refine pi_cf 1 (c := nI 1 = 0) (pc' := 8) (l' := [some (.ref 0), some (.int (nI 2)), some (.int i), some (.int (nI 3)), some (.int j), some (.int n), none, none]) (st' := []) (σ' := σ) (pc2 := 16) (l2 := [some (.ref 0), some (.int (nI 2)), some (.int i), some (.int (nI 3)), some (.int j), some (.int n), none, none]) (st2 := []) (σ2 := σ) (fun f => rfl) (by decide) ?_
  refine pi_ca 3 (m' := 94) (l' := [some (.int (nI 3)), some (.int (nI 4))]) (σ' := σ) (pc2 := 13) (l2 := [some (.ref 0), some (.int (nI 2)), some (.int i), some (.int (nI 3)), some (.int j), some (.int n), none, none]) (t := []) (fun f => rfl) (pi_below1 _ _ (z_BL (by omega) (by omega))) ?_
  rintro _ _ ⟨rfl, rfl⟩
  refine pi_cf 1 (c := nI 1 = 0) (pc' := 19) (l' := [some (.ref 0), some (.int (nI 2)), some (.int i), some (.int (nI 3)), some (.int j), some (.int n), none, none]) (st' := []) (σ' := σ) (pc2 := 16) (l2 := [some (.ref 0), some (.int (nI 2)), some (.int i), some (.int (nI 3)), some (.int j), some (.int n), none, none]) (st2 := []) (σ2 := σ) (fun f => rfl) (by decide) ?_
  refine pi_aq 4 (u := 2) (n := 4) (a := 47) (c := 52) (pc' := 25) (l' := [some (.ref 0), some (.int (nI 2)), some (.int i), some (.int (nI 3)), some (.int j), some (.int n), none, none]) (t := []) (σ' := σ) (fun f => rfl) (by omega) (by omega) rfl ?_
  refine pi_aq 5 (u := 3) (n := 4) (a := 47) (c := 54) (pc' := 33) (l' := [some (.ref 0), some (.int (nI 2)), some (.int i), some (.int (nI 3)), some (.int j), some (.int n), some (.ref 52), none]) (t := []) (σ' := σ) (fun f => rfl) (by omega) (by omega) rfl ?_
  refine pi_ca 3 (m' := 36) (l' := [some (.ref 52)]) (σ' := σ) (pc2 := 40) (l2 := [some (.ref 0), some (.int (nI 2)), some (.int i), some (.int (nI 3)), some (.int j), some (.int n), some (.ref 52), some (.ref 54)]) (t := []) (fun f => rfl) (pi_C_lost2_f hR.k hs1) ?_
  rintro _ _ ⟨rfl, rfl⟩
  refine pi_ct 1 (c := nI 0 = 0) (pc' := 43) (l' := [some (.ref 0), some (.int (nI 2)), some (.int i), some (.int (nI 3)), some (.int j), some (.int n), some (.ref 52), some (.ref 54)]) (st' := []) (σ' := σ) (pc2 := 51) (l2 := [some (.ref 0), some (.int (nI 2)), some (.int i), some (.int (nI 3)), some (.int j), some (.int n), some (.ref 52), some (.ref 54)]) (st2 := []) (σ2 := σ) (fun f => rfl) (by decide) ?_
  refine pi_ca 2 (m' := 36) (l' := [some (.ref 54)]) (σ' := σ) (pc2 := 48) (l2 := [some (.ref 0), some (.int (nI 2)), some (.int i), some (.int (nI 3)), some (.int j), some (.int n), some (.ref 52), some (.ref 54)]) (t := []) (fun f => rfl) (pi_C_lost3_f hR.k ht1) ?_
  rintro _ _ ⟨rfl, rfl⟩
  refine pi_ct 1 (c := nI 0 = 0) (pc' := 57) (l' := [some (.ref 0), some (.int (nI 2)), some (.int i), some (.int (nI 3)), some (.int j), some (.int n), some (.ref 52), some (.ref 54)]) (st' := []) (σ' := σ) (pc2 := 51) (l2 := [some (.ref 0), some (.int (nI 2)), some (.int i), some (.int (nI 3)), some (.int j), some (.int n), some (.ref 52), some (.ref 54)]) (st2 := []) (σ2 := σ) (fun f => rfl) (by decide) ?_
  refine pi_go 2 (pc' := 62) (l' := [some (.ref 0), some (.int (nI 2)), some (.int i), some (.int (nI 3)), some (.int j), some (.int n), some (.ref 52), some (.ref 54)]) (st' := [.int (σ 52 1)]) (σ' := σ) (fun f => rfl) ?_
  refine pi_tp (y := nI (W.fo 2)) (hR.k.p.sf2) ?_
  refine pi_go 2 (pc' := 67) (l' := [some (.ref 0), some (.int (nI 2)), some (.int i), some (.int (nI 3)), some (.int j), some (.int n), some (.ref 52), some (.ref 54)]) (st' := [.int (σ 54 1), .int (nI (W.fo 2))]) (σ' := σ) (fun f => rfl) ?_
  refine pi_tp (y := nI (W.fo 3)) (hR.k.p.sf3) ?_
  refine pi_cf 1 (c := nI (W.fo 2) = nI (W.fo 3)) (pc' := 70) (l' := [some (.ref 0), some (.int (nI 2)), some (.int i), some (.int (nI 3)), some (.int j), some (.int n), some (.ref 52), some (.ref 54)]) (st' := []) (σ' := σ) (pc2 := 76) (l2 := [some (.ref 0), some (.int (nI 2)), some (.int i), some (.int (nI 3)), some (.int j), some (.int n), some (.ref 52), some (.ref 54)]) (st2 := []) (σ2 := σ) (fun f => rfl) (fun q => h4 ((nI_eq (by omega) (by omega)).mp q)) ?_
  refine pi_ca 3 (m' := 96) (l' := [some (.ref 0), some (.int (nI 4))]) (σ' := σ) (pc2 := 75) (l2 := [some (.ref 0), some (.int (nI 2)), some (.int i), some (.int (nI 3)), some (.int j), some (.int n), some (.ref 52), some (.ref 54)]) (t := []) (fun f => rfl) (pi_C_found (nI 4)) ?_
  rintro _ t1 ⟨rfl, et1, kt1, rt1⟩
  refine pi_rt 1 (v := some (.int ((-10) - (nI 4)))) (σ' := t1) (fun f => rfl) ?_
  have hfr : pi_fr [0] t1 σ := pi_fr_tr rt1 (by decide) (pi_fr_rf)
  exact ⟨rfl, hR.fnd (et1) hfr, pi_fr_tr hfr (by decide) pi_fr_rf⟩
set_option maxRecDepth 20000 in
theorem pi_X_copy23_index {xs : Nat → Int32} {L d : Nat} {W : zW} {σ : pi_S} (hR : z_CR W σ) {i j n : Int32} (hs1 : ¬ W.th 2 = 0) (ht1 : ¬ W.th 3 = 0) (h4 : W.fo 2 = W.fo 3) (hb : ¬ z_cp W 2 3 i j n)  : pi_wp xs L (d + 9) 90 0 [some (.ref 0), some (.int (nI 2)), some (.int i), some (.int (nI 3)), some (.int j), some (.int n), none, none] [] σ (fun v s => v = some (.int ((-10) - (nI 2))) ∧ z_CR (W.sS 0 (nI 2)) s ∧ pi_fr z_CC s σ) := by
  have hk := hR.k.p.wk
  have hnd8 := hk.wd.nd8
  have hns12 := hk.wd.ns12
  have hn60 := hk.nine
  have hnf := hk.nf
  have hnw := hk.nw
  have hnc := hk.nc
  have hn08 := hk.wd.n0
  have hn140 := hk.wd.n1
  have hsi := hk.si 2 (by omega)
  have hti := hk.si 3 (by omega)
  refine pi_ca 3 (m' := 94) (l' := [some (.int (nI 2)), some (.int (nI 4))]) (σ' := σ) (pc2 := 5) (l2 := [some (.ref 0), some (.int (nI 2)), some (.int i), some (.int (nI 3)), some (.int j), some (.int n), none, none]) (t := []) (fun f => rfl) (pi_below1 _ _ (z_BL (by omega) (by omega))) ?_
  rintro _ _ ⟨rfl, rfl⟩
  refine pi_cf 1 (c := nI 1 = 0) (pc' := 8) (l' := [some (.ref 0), some (.int (nI 2)), some (.int i), some (.int (nI 3)), some (.int j), some (.int n), none, none]) (st' := []) (σ' := σ) (pc2 := 16) (l2 := [some (.ref 0), some (.int (nI 2)), some (.int i), some (.int (nI 3)), some (.int j), some (.int n), none, none]) (st2 := []) (σ2 := σ) (fun f => rfl) (by decide) ?_
  refine pi_ca 3 (m' := 94) (l' := [some (.int (nI 3)), some (.int (nI 4))]) (σ' := σ) (pc2 := 13) (l2 := [some (.ref 0), some (.int (nI 2)), some (.int i), some (.int (nI 3)), some (.int j), some (.int n), none, none]) (t := []) (fun f => rfl) (pi_below1 _ _ (z_BL (by omega) (by omega))) ?_
  rintro _ _ ⟨rfl, rfl⟩
  refine pi_cf 1 (c := nI 1 = 0) (pc' := 19) (l' := [some (.ref 0), some (.int (nI 2)), some (.int i), some (.int (nI 3)), some (.int j), some (.int n), none, none]) (st' := []) (σ' := σ) (pc2 := 16) (l2 := [some (.ref 0), some (.int (nI 2)), some (.int i), some (.int (nI 3)), some (.int j), some (.int n), none, none]) (st2 := []) (σ2 := σ) (fun f => rfl) (by decide) ?_
  refine pi_aq 4 (u := 2) (n := 4) (a := 47) (c := 52) (pc' := 25) (l' := [some (.ref 0), some (.int (nI 2)), some (.int i), some (.int (nI 3)), some (.int j), some (.int n), none, none]) (t := []) (σ' := σ) (fun f => rfl) (by omega) (by omega) rfl ?_
  refine pi_aq 5 (u := 3) (n := 4) (a := 47) (c := 54) (pc' := 33) (l' := [some (.ref 0), some (.int (nI 2)), some (.int i), some (.int (nI 3)), some (.int j), some (.int n), some (.ref 52), none]) (t := []) (σ' := σ) (fun f => rfl) (by omega) (by omega) rfl ?_
  refine pi_ca 3 (m' := 36) (l' := [some (.ref 52)]) (σ' := σ) (pc2 := 40) (l2 := [some (.ref 0), some (.int (nI 2)), some (.int i), some (.int (nI 3)), some (.int j), some (.int n), some (.ref 52), some (.ref 54)]) (t := []) (fun f => rfl) (pi_C_lost2_f hR.k hs1) ?_
  rintro _ _ ⟨rfl, rfl⟩
  refine pi_ct 1 (c := nI 0 = 0) (pc' := 43) (l' := [some (.ref 0), some (.int (nI 2)), some (.int i), some (.int (nI 3)), some (.int j), some (.int n), some (.ref 52), some (.ref 54)]) (st' := []) (σ' := σ) (pc2 := 51) (l2 := [some (.ref 0), some (.int (nI 2)), some (.int i), some (.int (nI 3)), some (.int j), some (.int n), some (.ref 52), some (.ref 54)]) (st2 := []) (σ2 := σ) (fun f => rfl) (by decide) ?_
  refine pi_ca 2 (m' := 36) (l' := [some (.ref 54)]) (σ' := σ) (pc2 := 48) (l2 := [some (.ref 0), some (.int (nI 2)), some (.int i), some (.int (nI 3)), some (.int j), some (.int n), some (.ref 52), some (.ref 54)]) (t := []) (fun f => rfl) (pi_C_lost3_f hR.k ht1) ?_
  rintro _ _ ⟨rfl, rfl⟩
  refine pi_ct 1 (c := nI 0 = 0) (pc' := 57) (l' := [some (.ref 0), some (.int (nI 2)), some (.int i), some (.int (nI 3)), some (.int j), some (.int n), some (.ref 52), some (.ref 54)]) (st' := []) (σ' := σ) (pc2 := 51) (l2 := [some (.ref 0), some (.int (nI 2)), some (.int i), some (.int (nI 3)), some (.int j), some (.int n), some (.ref 52), some (.ref 54)]) (st2 := []) (σ2 := σ) (fun f => rfl) (by decide) ?_
  refine pi_go 2 (pc' := 62) (l' := [some (.ref 0), some (.int (nI 2)), some (.int i), some (.int (nI 3)), some (.int j), some (.int n), some (.ref 52), some (.ref 54)]) (st' := [.int (σ 52 1)]) (σ' := σ) (fun f => rfl) ?_
  refine pi_tp (y := nI (W.fo 2)) (hR.k.p.sf2) ?_
  refine pi_go 2 (pc' := 67) (l' := [some (.ref 0), some (.int (nI 2)), some (.int i), some (.int (nI 3)), some (.int j), some (.int n), some (.ref 52), some (.ref 54)]) (st' := [.int (σ 54 1), .int (nI (W.fo 2))]) (σ' := σ) (fun f => rfl) ?_
  refine pi_tp (y := nI (W.fo 3)) (hR.k.p.sf3) ?_
  refine pi_ct 1 (c := nI (W.fo 2) = nI (W.fo 3)) (pc' := 76) (l' := [some (.ref 0), some (.int (nI 2)), some (.int i), some (.int (nI 3)), some (.int j), some (.int n), some (.ref 52), some (.ref 54)]) (st' := []) (σ' := σ) (pc2 := 70) (l2 := [some (.ref 0), some (.int (nI 2)), some (.int i), some (.int (nI 3)), some (.int j), some (.int n), some (.ref 52), some (.ref 54)]) (st2 := []) (σ2 := σ) (fun f => rfl) (congrArg nI h4) ?_
  refine pi_ca 4 (m' := 39) (l' := [some (.ref 52), some (.int i), some (.int n)]) (σ' := σ) (pc2 := 84) (l2 := [some (.ref 0), some (.int (nI 2)), some (.int i), some (.int (nI 3)), some (.int j), some (.int n), some (.ref 52), some (.ref 54)]) (t := []) (fun f => rfl) (pi_C_hasRun2 hR.k hs1 i n) ?_
  rintro _ _ (⟨b1, rfl, rfl⟩ | ⟨b1, rfl, rfl⟩)
  · refine pi_cf 1 (c := nI 1 = 0) (pc' := 87) (l' := [some (.ref 0), some (.int (nI 2)), some (.int i), some (.int (nI 3)), some (.int j), some (.int n), some (.ref 52), some (.ref 54)]) (st' := []) (σ' := σ) (pc2 := 99) (l2 := [some (.ref 0), some (.int (nI 2)), some (.int i), some (.int (nI 3)), some (.int j), some (.int n), some (.ref 52), some (.ref 54)]) (st2 := []) (σ2 := σ) (fun f => rfl) (by decide) ?_
    refine pi_ca 4 (m' := 39) (l' := [some (.ref 54), some (.int j), some (.int n)]) (σ' := σ) (pc2 := 96) (l2 := [some (.ref 0), some (.int (nI 2)), some (.int i), some (.int (nI 3)), some (.int j), some (.int n), some (.ref 52), some (.ref 54)]) (t := []) (fun f => rfl) (pi_C_hasRun3 hR.k ht1 j n) ?_
    rintro _ _ (⟨b2, rfl, rfl⟩ | ⟨b2, rfl, rfl⟩)
    · refine pi_cf 1 (c := nI 1 = 0) (pc' := 105) (l' := [some (.ref 0), some (.int (nI 2)), some (.int i), some (.int (nI 3)), some (.int j), some (.int n), some (.ref 52), some (.ref 54)]) (st' := []) (σ' := σ) (pc2 := 99) (l2 := [some (.ref 0), some (.int (nI 2)), some (.int i), some (.int (nI 3)), some (.int j), some (.int n), some (.ref 52), some (.ref 54)]) (st2 := []) (σ2 := σ) (fun f => rfl) (by decide) ?_
      exact (hb (z_cp_hr hsi.1 hti.1 b1 b2)).elim
    · refine pi_ct 1 (c := nI 0 = 0) (pc' := 99) (l' := [some (.ref 0), some (.int (nI 2)), some (.int i), some (.int (nI 3)), some (.int j), some (.int n), some (.ref 52), some (.ref 54)]) (st' := []) (σ' := σ) (pc2 := 105) (l2 := [some (.ref 0), some (.int (nI 2)), some (.int i), some (.int (nI 3)), some (.int j), some (.int n), some (.ref 52), some (.ref 54)]) (st2 := []) (σ2 := σ) (fun f => rfl) (by decide) ?_
      refine pi_ca 3 (m' := 96) (l' := [some (.ref 0), some (.int (nI 2))]) (σ' := σ) (pc2 := 104) (l2 := [some (.ref 0), some (.int (nI 2)), some (.int i), some (.int (nI 3)), some (.int j), some (.int n), some (.ref 52), some (.ref 54)]) (t := []) (fun f => rfl) (pi_C_found (nI 2)) ?_
      rintro _ t1 ⟨rfl, et1, kt1, rt1⟩
      refine pi_rt 1 (v := some (.int ((-10) - (nI 2)))) (σ' := t1) (fun f => rfl) ?_
      have hfr : pi_fr [0] t1 σ := pi_fr_tr rt1 (by decide) (pi_fr_rf)
      exact ⟨rfl, hR.fnd (et1) hfr, pi_fr_tr hfr (by decide) pi_fr_rf⟩
  · refine pi_ct 1 (c := nI 0 = 0) (pc' := 99) (l' := [some (.ref 0), some (.int (nI 2)), some (.int i), some (.int (nI 3)), some (.int j), some (.int n), some (.ref 52), some (.ref 54)]) (st' := []) (σ' := σ) (pc2 := 87) (l2 := [some (.ref 0), some (.int (nI 2)), some (.int i), some (.int (nI 3)), some (.int j), some (.int n), some (.ref 52), some (.ref 54)]) (st2 := []) (σ2 := σ) (fun f => rfl) (by decide) ?_
    refine pi_ca 3 (m' := 96) (l' := [some (.ref 0), some (.int (nI 2))]) (σ' := σ) (pc2 := 104) (l2 := [some (.ref 0), some (.int (nI 2)), some (.int i), some (.int (nI 3)), some (.int j), some (.int n), some (.ref 52), some (.ref 54)]) (t := []) (fun f => rfl) (pi_C_found (nI 2)) ?_
    rintro _ t2 ⟨rfl, et2, kt2, rt2⟩
    refine pi_rt 1 (v := some (.int ((-10) - (nI 2)))) (σ' := t2) (fun f => rfl) ?_
    have hfr : pi_fr [0] t2 σ := pi_fr_tr rt2 (by decide) (pi_fr_rf)
    exact ⟨rfl, hR.fnd (et2) hfr, pi_fr_tr hfr (by decide) pi_fr_rf⟩
set_option maxRecDepth 20000 in
theorem pi_X_copy23 {xs : Nat → Int32} {L d : Nat} {W : zW} {σ : pi_S} (hR : z_CR W σ) {i j n : Nat} (hs1 : ¬ W.th 2 = 0) (ht1 : ¬ W.th 3 = 0) (h4 : W.fo 2 = W.fo 3) (hi : i + n ≤ W.si 2) (hj : j + n ≤ W.si 3)  : pi_wp xs L (d + 9) 90 0 [some (.ref 0), some (.int (nI 2)), some (.int (nI i)), some (.int (nI 3)), some (.int (nI j)), some (.int (nI n)), none, none] [] σ (fun v s => v = some (.int (nI 1)) ∧ z_CR (W.sI 9 (pi_lp (fun q f => upd f (48 * 3 + j + q) (W.it (48 * 2 + i + q))) n W.it)) s ∧ pi_fr z_CC s σ) := by
  have hk := hR.k.p.wk
  have hnd8 := hk.wd.nd8
  have hns12 := hk.wd.ns12
  have hn60 := hk.nine
  have hnf := hk.nf
  have hnw := hk.nw
  have hnc := hk.nc
  have hn08 := hk.wd.n0
  have hn140 := hk.wd.n1
  have hsi := hk.si 2 (by omega)
  have hti := hk.si 3 (by omega)
  refine pi_ca 3 (m' := 94) (l' := [some (.int (nI 2)), some (.int (nI 4))]) (σ' := σ) (pc2 := 5) (l2 := [some (.ref 0), some (.int (nI 2)), some (.int (nI i)), some (.int (nI 3)), some (.int (nI j)), some (.int (nI n)), none, none]) (t := []) (fun f => rfl) (pi_below1 _ _ (z_BL (by omega) (by omega))) ?_
  rintro _ _ ⟨rfl, rfl⟩
  refine pi_cf 1 (c := nI 1 = 0) (pc' := 8) (l' := [some (.ref 0), some (.int (nI 2)), some (.int (nI i)), some (.int (nI 3)), some (.int (nI j)), some (.int (nI n)), none, none]) (st' := []) (σ' := σ) (pc2 := 16) (l2 := [some (.ref 0), some (.int (nI 2)), some (.int (nI i)), some (.int (nI 3)), some (.int (nI j)), some (.int (nI n)), none, none]) (st2 := []) (σ2 := σ) (fun f => rfl) (by decide) ?_
  refine pi_ca 3 (m' := 94) (l' := [some (.int (nI 3)), some (.int (nI 4))]) (σ' := σ) (pc2 := 13) (l2 := [some (.ref 0), some (.int (nI 2)), some (.int (nI i)), some (.int (nI 3)), some (.int (nI j)), some (.int (nI n)), none, none]) (t := []) (fun f => rfl) (pi_below1 _ _ (z_BL (by omega) (by omega))) ?_
  rintro _ _ ⟨rfl, rfl⟩
  refine pi_cf 1 (c := nI 1 = 0) (pc' := 19) (l' := [some (.ref 0), some (.int (nI 2)), some (.int (nI i)), some (.int (nI 3)), some (.int (nI j)), some (.int (nI n)), none, none]) (st' := []) (σ' := σ) (pc2 := 16) (l2 := [some (.ref 0), some (.int (nI 2)), some (.int (nI i)), some (.int (nI 3)), some (.int (nI j)), some (.int (nI n)), none, none]) (st2 := []) (σ2 := σ) (fun f => rfl) (by decide) ?_
  refine pi_aq 4 (u := 2) (n := 4) (a := 47) (c := 52) (pc' := 25) (l' := [some (.ref 0), some (.int (nI 2)), some (.int (nI i)), some (.int (nI 3)), some (.int (nI j)), some (.int (nI n)), none, none]) (t := []) (σ' := σ) (fun f => rfl) (by omega) (by omega) rfl ?_
  refine pi_aq 5 (u := 3) (n := 4) (a := 47) (c := 54) (pc' := 33) (l' := [some (.ref 0), some (.int (nI 2)), some (.int (nI i)), some (.int (nI 3)), some (.int (nI j)), some (.int (nI n)), some (.ref 52), none]) (t := []) (σ' := σ) (fun f => rfl) (by omega) (by omega) rfl ?_
  refine pi_ca 3 (m' := 36) (l' := [some (.ref 52)]) (σ' := σ) (pc2 := 40) (l2 := [some (.ref 0), some (.int (nI 2)), some (.int (nI i)), some (.int (nI 3)), some (.int (nI j)), some (.int (nI n)), some (.ref 52), some (.ref 54)]) (t := []) (fun f => rfl) (pi_C_lost2_f hR.k hs1) ?_
  rintro _ _ ⟨rfl, rfl⟩
  refine pi_ct 1 (c := nI 0 = 0) (pc' := 43) (l' := [some (.ref 0), some (.int (nI 2)), some (.int (nI i)), some (.int (nI 3)), some (.int (nI j)), some (.int (nI n)), some (.ref 52), some (.ref 54)]) (st' := []) (σ' := σ) (pc2 := 51) (l2 := [some (.ref 0), some (.int (nI 2)), some (.int (nI i)), some (.int (nI 3)), some (.int (nI j)), some (.int (nI n)), some (.ref 52), some (.ref 54)]) (st2 := []) (σ2 := σ) (fun f => rfl) (by decide) ?_
  refine pi_ca 2 (m' := 36) (l' := [some (.ref 54)]) (σ' := σ) (pc2 := 48) (l2 := [some (.ref 0), some (.int (nI 2)), some (.int (nI i)), some (.int (nI 3)), some (.int (nI j)), some (.int (nI n)), some (.ref 52), some (.ref 54)]) (t := []) (fun f => rfl) (pi_C_lost3_f hR.k ht1) ?_
  rintro _ _ ⟨rfl, rfl⟩
  refine pi_ct 1 (c := nI 0 = 0) (pc' := 57) (l' := [some (.ref 0), some (.int (nI 2)), some (.int (nI i)), some (.int (nI 3)), some (.int (nI j)), some (.int (nI n)), some (.ref 52), some (.ref 54)]) (st' := []) (σ' := σ) (pc2 := 51) (l2 := [some (.ref 0), some (.int (nI 2)), some (.int (nI i)), some (.int (nI 3)), some (.int (nI j)), some (.int (nI n)), some (.ref 52), some (.ref 54)]) (st2 := []) (σ2 := σ) (fun f => rfl) (by decide) ?_
  refine pi_go 2 (pc' := 62) (l' := [some (.ref 0), some (.int (nI 2)), some (.int (nI i)), some (.int (nI 3)), some (.int (nI j)), some (.int (nI n)), some (.ref 52), some (.ref 54)]) (st' := [.int (σ 52 1)]) (σ' := σ) (fun f => rfl) ?_
  refine pi_tp (y := nI (W.fo 2)) (hR.k.p.sf2) ?_
  refine pi_go 2 (pc' := 67) (l' := [some (.ref 0), some (.int (nI 2)), some (.int (nI i)), some (.int (nI 3)), some (.int (nI j)), some (.int (nI n)), some (.ref 52), some (.ref 54)]) (st' := [.int (σ 54 1), .int (nI (W.fo 2))]) (σ' := σ) (fun f => rfl) ?_
  refine pi_tp (y := nI (W.fo 3)) (hR.k.p.sf3) ?_
  refine pi_ct 1 (c := nI (W.fo 2) = nI (W.fo 3)) (pc' := 76) (l' := [some (.ref 0), some (.int (nI 2)), some (.int (nI i)), some (.int (nI 3)), some (.int (nI j)), some (.int (nI n)), some (.ref 52), some (.ref 54)]) (st' := []) (σ' := σ) (pc2 := 70) (l2 := [some (.ref 0), some (.int (nI 2)), some (.int (nI i)), some (.int (nI 3)), some (.int (nI j)), some (.int (nI n)), some (.ref 52), some (.ref 54)]) (st2 := []) (σ2 := σ) (fun f => rfl) (congrArg nI h4) ?_
  refine pi_ca 4 (m' := 39) (l' := [some (.ref 52), some (.int (nI i)), some (.int (nI n))]) (σ' := σ) (pc2 := 84) (l2 := [some (.ref 0), some (.int (nI 2)), some (.int (nI i)), some (.int (nI 3)), some (.int (nI j)), some (.int (nI n)), some (.ref 52), some (.ref 54)]) (t := []) (fun f => rfl) (pi_C_hasRun2T hR.k hs1 ⟨i, n, rfl, rfl, hi⟩) ?_
  rintro _ _ ⟨rfl, rfl⟩
  refine pi_cf 1 (c := nI 1 = 0) (pc' := 87) (l' := [some (.ref 0), some (.int (nI 2)), some (.int (nI i)), some (.int (nI 3)), some (.int (nI j)), some (.int (nI n)), some (.ref 52), some (.ref 54)]) (st' := []) (σ' := σ) (pc2 := 99) (l2 := [some (.ref 0), some (.int (nI 2)), some (.int (nI i)), some (.int (nI 3)), some (.int (nI j)), some (.int (nI n)), some (.ref 52), some (.ref 54)]) (st2 := []) (σ2 := σ) (fun f => rfl) (by decide) ?_
  refine pi_ca 4 (m' := 39) (l' := [some (.ref 54), some (.int (nI j)), some (.int (nI n))]) (σ' := σ) (pc2 := 96) (l2 := [some (.ref 0), some (.int (nI 2)), some (.int (nI i)), some (.int (nI 3)), some (.int (nI j)), some (.int (nI n)), some (.ref 52), some (.ref 54)]) (t := []) (fun f => rfl) (pi_C_hasRun3T hR.k ht1 ⟨j, n, rfl, rfl, hj⟩) ?_
  rintro _ _ ⟨rfl, rfl⟩
  refine pi_cf 1 (c := nI 1 = 0) (pc' := 105) (l' := [some (.ref 0), some (.int (nI 2)), some (.int (nI i)), some (.int (nI 3)), some (.int (nI j)), some (.int (nI n)), some (.ref 52), some (.ref 54)]) (st' := []) (σ' := σ) (pc2 := 99) (l2 := [some (.ref 0), some (.int (nI 2)), some (.int (nI i)), some (.int (nI 3)), some (.int (nI j)), some (.int (nI n)), some (.ref 52), some (.ref 54)]) (st2 := []) (σ2 := σ) (fun f => rfl) (by decide) ?_
  refine pi_go 7 (pc' := 120) (l' := [some (.ref 0), some (.int (nI 2)), some (.int (nI i)), some (.int (nI 3)), some (.int (nI j)), some (.int (nI n)), some (.ref 52), some (.ref 54)]) (st' := [.int (nI n), .int (nI j), .ref 55, .int (nI i), .ref 53]) (σ' := σ) (fun f => rfl) ?_
  refine pi_gd 1 (c := ¬ nI i < 0 ∧ ¬ nI j < 0 ∧ ¬ nI n < 0 ∧ (nI i).toNatClampNeg + (nI n).toNatClampNeg ≤ 48 ∧ (nI j).toNatClampNeg + (nI n).toNatClampNeg ≤ 48) (pc' := 123) (l' := [some (.ref 0), some (.int (nI 2)), some (.int (nI i)), some (.int (nI 3)), some (.int (nI j)), some (.int (nI n)), some (.ref 52), some (.ref 54)]) (st' := []) (σ' := pi_cpy σ 53 55 (nI i).toNatClampNeg (nI j).toNatClampNeg (nI n).toNatClampNeg) (fun f => rfl) ⟨z_ltz (by omega), z_ltz (by omega), z_ltz (by omega), by rw [nI_clamp (by omega), nI_clamp (by omega)]; omega, by rw [nI_clamp (by omega), nI_clamp (by omega)]; omega⟩ ?_
  rw [show (nI i).toNatClampNeg = i from nI_clamp (by omega), show (nI j).toNatClampNeg = j from nI_clamp (by omega), show (nI n).toNatClampNeg = n from nI_clamp (by omega)]
  generalize es1 : pi_cpy σ 53 55 i j n = s1
  have rs1 := pi_cpy_fr es1
  refine pi_rt 2 (v := some (.int (nI 1))) (σ' := s1) (fun f => rfl) ?_
  have hfr : pi_fr [55] s1 σ := pi_fr_tr rs1 (by decide) (pi_fr_rf)
  exact ⟨rfl, hR.it3 (fun q hq => (congrFun (pi_cpy_at es1) q).trans (z_cp_row hR.k.p.si2 hR.k.p.si3 (by omega) (by omega) q hq)) (z_cp_o (by omega)) hfr, pi_fr_tr hfr (by decide) pi_fr_rf⟩
set_option maxRecDepth 20000 in
theorem pi_X_copy30_null1 {xs : Nat → Int32} {L d : Nat} {W : zW} {σ : pi_S} (hR : z_CR W σ) {i j n : Int32} (hs0 : W.th 3 = 0)  : pi_wp xs L (d + 9) 90 0 [some (.ref 0), some (.int (nI 3)), some (.int i), some (.int (nI 0)), some (.int j), some (.int n), none, none] [] σ (fun v s => v = some (.int ((-10) - (nI 1))) ∧ z_CR (W.sS 0 (nI 1)) s ∧ pi_fr z_CC s σ) := by
  have hk := hR.k.p.wk
  have hnd8 := hk.wd.nd8
  have hns12 := hk.wd.ns12
  have hn60 := hk.nine
  have hnf := hk.nf
  have hnw := hk.nw
  have hnc := hk.nc
  have hn08 := hk.wd.n0
  have hn140 := hk.wd.n1
  have hsi := hk.si 3 (by omega)
  have hti := hk.si 0 (by omega)
  refine pi_ca 3 (m' := 94) (l' := [some (.int (nI 3)), some (.int (nI 4))]) (σ' := σ) (pc2 := 5) (l2 := [some (.ref 0), some (.int (nI 3)), some (.int i), some (.int (nI 0)), some (.int j), some (.int n), none, none]) (t := []) (fun f => rfl) (pi_below1 _ _ (z_BL (by omega) (by omega))) ?_
  rintro _ _ ⟨rfl, rfl⟩
  refine pi_cf 1 (c := nI 1 = 0) (pc' := 8) (l' := [some (.ref 0), some (.int (nI 3)), some (.int i), some (.int (nI 0)), some (.int j), some (.int n), none, none]) (st' := []) (σ' := σ) (pc2 := 16) (l2 := [some (.ref 0), some (.int (nI 3)), some (.int i), some (.int (nI 0)), some (.int j), some (.int n), none, none]) (st2 := []) (σ2 := σ) (fun f => rfl) (by decide) ?_
  refine pi_ca 3 (m' := 94) (l' := [some (.int (nI 0)), some (.int (nI 4))]) (σ' := σ) (pc2 := 13) (l2 := [some (.ref 0), some (.int (nI 3)), some (.int i), some (.int (nI 0)), some (.int j), some (.int n), none, none]) (t := []) (fun f => rfl) (pi_below1 _ _ (z_BL (by omega) (by omega))) ?_
  rintro _ _ ⟨rfl, rfl⟩
  refine pi_cf 1 (c := nI 1 = 0) (pc' := 19) (l' := [some (.ref 0), some (.int (nI 3)), some (.int i), some (.int (nI 0)), some (.int j), some (.int n), none, none]) (st' := []) (σ' := σ) (pc2 := 16) (l2 := [some (.ref 0), some (.int (nI 3)), some (.int i), some (.int (nI 0)), some (.int j), some (.int n), none, none]) (st2 := []) (σ2 := σ) (fun f => rfl) (by decide) ?_
  refine pi_aq 4 (u := 3) (n := 4) (a := 47) (c := 54) (pc' := 25) (l' := [some (.ref 0), some (.int (nI 3)), some (.int i), some (.int (nI 0)), some (.int j), some (.int n), none, none]) (t := []) (σ' := σ) (fun f => rfl) (by omega) (by omega) rfl ?_
  refine pi_aq 5 (u := 0) (n := 4) (a := 47) (c := 48) (pc' := 33) (l' := [some (.ref 0), some (.int (nI 3)), some (.int i), some (.int (nI 0)), some (.int j), some (.int n), some (.ref 54), none]) (t := []) (σ' := σ) (fun f => rfl) (by omega) (by omega) rfl ?_
  refine pi_ca 3 (m' := 36) (l' := [some (.ref 54)]) (σ' := σ) (pc2 := 40) (l2 := [some (.ref 0), some (.int (nI 3)), some (.int i), some (.int (nI 0)), some (.int j), some (.int n), some (.ref 54), some (.ref 48)]) (t := []) (fun f => rfl) (pi_C_lost3_t hR.k hs0) ?_
  rintro _ _ ⟨rfl, rfl⟩
  refine pi_cf 1 (c := nI 1 = 0) (pc' := 51) (l' := [some (.ref 0), some (.int (nI 3)), some (.int i), some (.int (nI 0)), some (.int j), some (.int n), some (.ref 54), some (.ref 48)]) (st' := []) (σ' := σ) (pc2 := 43) (l2 := [some (.ref 0), some (.int (nI 3)), some (.int i), some (.int (nI 0)), some (.int j), some (.int n), some (.ref 54), some (.ref 48)]) (st2 := []) (σ2 := σ) (fun f => rfl) (by decide) ?_
  refine pi_ca 3 (m' := 96) (l' := [some (.ref 0), some (.int (nI 1))]) (σ' := σ) (pc2 := 56) (l2 := [some (.ref 0), some (.int (nI 3)), some (.int i), some (.int (nI 0)), some (.int j), some (.int n), some (.ref 54), some (.ref 48)]) (t := []) (fun f => rfl) (pi_C_found (nI 1)) ?_
  rintro _ t1 ⟨rfl, et1, kt1, rt1⟩
  refine pi_rt 1 (v := some (.int ((-10) - (nI 1)))) (σ' := t1) (fun f => rfl) ?_
  have hfr : pi_fr [0] t1 σ := pi_fr_tr rt1 (by decide) (pi_fr_rf)
  exact ⟨rfl, hR.fnd (et1) hfr, pi_fr_tr hfr (by decide) pi_fr_rf⟩
set_option maxRecDepth 20000 in
theorem pi_X_copy30_null2 {xs : Nat → Int32} {L d : Nat} {W : zW} {σ : pi_S} (hR : z_CR W σ) {i j n : Int32} (hs1 : ¬ W.th 3 = 0) (ht0 : W.th 0 = 0)  : pi_wp xs L (d + 9) 90 0 [some (.ref 0), some (.int (nI 3)), some (.int i), some (.int (nI 0)), some (.int j), some (.int n), none, none] [] σ (fun v s => v = some (.int ((-10) - (nI 1))) ∧ z_CR (W.sS 0 (nI 1)) s ∧ pi_fr z_CC s σ) := by
  have hk := hR.k.p.wk
  have hnd8 := hk.wd.nd8
  have hns12 := hk.wd.ns12
  have hn60 := hk.nine
  have hnf := hk.nf
  have hnw := hk.nw
  have hnc := hk.nc
  have hn08 := hk.wd.n0
  have hn140 := hk.wd.n1
  have hsi := hk.si 3 (by omega)
  have hti := hk.si 0 (by omega)
  refine pi_ca 3 (m' := 94) (l' := [some (.int (nI 3)), some (.int (nI 4))]) (σ' := σ) (pc2 := 5) (l2 := [some (.ref 0), some (.int (nI 3)), some (.int i), some (.int (nI 0)), some (.int j), some (.int n), none, none]) (t := []) (fun f => rfl) (pi_below1 _ _ (z_BL (by omega) (by omega))) ?_
  rintro _ _ ⟨rfl, rfl⟩
  refine pi_cf 1 (c := nI 1 = 0) (pc' := 8) (l' := [some (.ref 0), some (.int (nI 3)), some (.int i), some (.int (nI 0)), some (.int j), some (.int n), none, none]) (st' := []) (σ' := σ) (pc2 := 16) (l2 := [some (.ref 0), some (.int (nI 3)), some (.int i), some (.int (nI 0)), some (.int j), some (.int n), none, none]) (st2 := []) (σ2 := σ) (fun f => rfl) (by decide) ?_
  refine pi_ca 3 (m' := 94) (l' := [some (.int (nI 0)), some (.int (nI 4))]) (σ' := σ) (pc2 := 13) (l2 := [some (.ref 0), some (.int (nI 3)), some (.int i), some (.int (nI 0)), some (.int j), some (.int n), none, none]) (t := []) (fun f => rfl) (pi_below1 _ _ (z_BL (by omega) (by omega))) ?_
  rintro _ _ ⟨rfl, rfl⟩
  refine pi_cf 1 (c := nI 1 = 0) (pc' := 19) (l' := [some (.ref 0), some (.int (nI 3)), some (.int i), some (.int (nI 0)), some (.int j), some (.int n), none, none]) (st' := []) (σ' := σ) (pc2 := 16) (l2 := [some (.ref 0), some (.int (nI 3)), some (.int i), some (.int (nI 0)), some (.int j), some (.int n), none, none]) (st2 := []) (σ2 := σ) (fun f => rfl) (by decide) ?_
  refine pi_aq 4 (u := 3) (n := 4) (a := 47) (c := 54) (pc' := 25) (l' := [some (.ref 0), some (.int (nI 3)), some (.int i), some (.int (nI 0)), some (.int j), some (.int n), none, none]) (t := []) (σ' := σ) (fun f => rfl) (by omega) (by omega) rfl ?_
  refine pi_aq 5 (u := 0) (n := 4) (a := 47) (c := 48) (pc' := 33) (l' := [some (.ref 0), some (.int (nI 3)), some (.int i), some (.int (nI 0)), some (.int j), some (.int n), some (.ref 54), none]) (t := []) (σ' := σ) (fun f => rfl) (by omega) (by omega) rfl ?_
  refine pi_ca 3 (m' := 36) (l' := [some (.ref 54)]) (σ' := σ) (pc2 := 40) (l2 := [some (.ref 0), some (.int (nI 3)), some (.int i), some (.int (nI 0)), some (.int j), some (.int n), some (.ref 54), some (.ref 48)]) (t := []) (fun f => rfl) (pi_C_lost3_f hR.k hs1) ?_
  rintro _ _ ⟨rfl, rfl⟩
  refine pi_ct 1 (c := nI 0 = 0) (pc' := 43) (l' := [some (.ref 0), some (.int (nI 3)), some (.int i), some (.int (nI 0)), some (.int j), some (.int n), some (.ref 54), some (.ref 48)]) (st' := []) (σ' := σ) (pc2 := 51) (l2 := [some (.ref 0), some (.int (nI 3)), some (.int i), some (.int (nI 0)), some (.int j), some (.int n), some (.ref 54), some (.ref 48)]) (st2 := []) (σ2 := σ) (fun f => rfl) (by decide) ?_
  refine pi_ca 2 (m' := 36) (l' := [some (.ref 48)]) (σ' := σ) (pc2 := 48) (l2 := [some (.ref 0), some (.int (nI 3)), some (.int i), some (.int (nI 0)), some (.int j), some (.int n), some (.ref 54), some (.ref 48)]) (t := []) (fun f => rfl) (pi_C_lost0_t hR.k ht0) ?_
  rintro _ _ ⟨rfl, rfl⟩
  refine pi_cf 1 (c := nI 1 = 0) (pc' := 51) (l' := [some (.ref 0), some (.int (nI 3)), some (.int i), some (.int (nI 0)), some (.int j), some (.int n), some (.ref 54), some (.ref 48)]) (st' := []) (σ' := σ) (pc2 := 57) (l2 := [some (.ref 0), some (.int (nI 3)), some (.int i), some (.int (nI 0)), some (.int j), some (.int n), some (.ref 54), some (.ref 48)]) (st2 := []) (σ2 := σ) (fun f => rfl) (by decide) ?_
  refine pi_ca 3 (m' := 96) (l' := [some (.ref 0), some (.int (nI 1))]) (σ' := σ) (pc2 := 56) (l2 := [some (.ref 0), some (.int (nI 3)), some (.int i), some (.int (nI 0)), some (.int j), some (.int n), some (.ref 54), some (.ref 48)]) (t := []) (fun f => rfl) (pi_C_found (nI 1)) ?_
  rintro _ t1 ⟨rfl, et1, kt1, rt1⟩
  refine pi_rt 1 (v := some (.int ((-10) - (nI 1)))) (σ' := t1) (fun f => rfl) ?_
  have hfr : pi_fr [0] t1 σ := pi_fr_tr rt1 (by decide) (pi_fr_rf)
  exact ⟨rfl, hR.fnd (et1) hfr, pi_fr_tr hfr (by decide) pi_fr_rf⟩
set_option maxRecDepth 20000 in
theorem pi_X_copy30_store {xs : Nat → Int32} {L d : Nat} {W : zW} {σ : pi_S} (hR : z_CR W σ) {i j n : Int32} (hs1 : ¬ W.th 3 = 0) (ht1 : ¬ W.th 0 = 0) (h4 : ¬ W.fo 3 = W.fo 0)  : pi_wp xs L (d + 9) 90 0 [some (.ref 0), some (.int (nI 3)), some (.int i), some (.int (nI 0)), some (.int j), some (.int n), none, none] [] σ (fun v s => v = some (.int ((-10) - (nI 4))) ∧ z_CR (W.sS 0 (nI 4)) s ∧ pi_fr z_CC s σ) := by
  have hk := hR.k.p.wk
  have hnd8 := hk.wd.nd8
  have hns12 := hk.wd.ns12
  have hn60 := hk.nine
  have hnf := hk.nf
  have hnw := hk.nw
  have hnc := hk.nc
  have hn08 := hk.wd.n0
  have hn140 := hk.wd.n1
  have hsi := hk.si 3 (by omega)
  have hti := hk.si 0 (by omega)
  refine pi_ca 3 (m' := 94) (l' := [some (.int (nI 3)), some (.int (nI 4))]) (σ' := σ) (pc2 := 5) (l2 := [some (.ref 0), some (.int (nI 3)), some (.int i), some (.int (nI 0)), some (.int j), some (.int n), none, none]) (t := []) (fun f => rfl) (pi_below1 _ _ (z_BL (by omega) (by omega))) ?_
  rintro _ _ ⟨rfl, rfl⟩
  refine pi_cf 1 (c := nI 1 = 0) (pc' := 8) (l' := [some (.ref 0), some (.int (nI 3)), some (.int i), some (.int (nI 0)), some (.int j), some (.int n), none, none]) (st' := []) (σ' := σ) (pc2 := 16) (l2 := [some (.ref 0), some (.int (nI 3)), some (.int i), some (.int (nI 0)), some (.int j), some (.int n), none, none]) (st2 := []) (σ2 := σ) (fun f => rfl) (by decide) ?_
  refine pi_ca 3 (m' := 94) (l' := [some (.int (nI 0)), some (.int (nI 4))]) (σ' := σ) (pc2 := 13) (l2 := [some (.ref 0), some (.int (nI 3)), some (.int i), some (.int (nI 0)), some (.int j), some (.int n), none, none]) (t := []) (fun f => rfl) (pi_below1 _ _ (z_BL (by omega) (by omega))) ?_
  rintro _ _ ⟨rfl, rfl⟩
  refine pi_cf 1 (c := nI 1 = 0) (pc' := 19) (l' := [some (.ref 0), some (.int (nI 3)), some (.int i), some (.int (nI 0)), some (.int j), some (.int n), none, none]) (st' := []) (σ' := σ) (pc2 := 16) (l2 := [some (.ref 0), some (.int (nI 3)), some (.int i), some (.int (nI 0)), some (.int j), some (.int n), none, none]) (st2 := []) (σ2 := σ) (fun f => rfl) (by decide) ?_
  refine pi_aq 4 (u := 3) (n := 4) (a := 47) (c := 54) (pc' := 25) (l' := [some (.ref 0), some (.int (nI 3)), some (.int i), some (.int (nI 0)), some (.int j), some (.int n), none, none]) (t := []) (σ' := σ) (fun f => rfl) (by omega) (by omega) rfl ?_
  refine pi_aq 5 (u := 0) (n := 4) (a := 47) (c := 48) (pc' := 33) (l' := [some (.ref 0), some (.int (nI 3)), some (.int i), some (.int (nI 0)), some (.int j), some (.int n), some (.ref 54), none]) (t := []) (σ' := σ) (fun f => rfl) (by omega) (by omega) rfl ?_
  refine pi_ca 3 (m' := 36) (l' := [some (.ref 54)]) (σ' := σ) (pc2 := 40) (l2 := [some (.ref 0), some (.int (nI 3)), some (.int i), some (.int (nI 0)), some (.int j), some (.int n), some (.ref 54), some (.ref 48)]) (t := []) (fun f => rfl) (pi_C_lost3_f hR.k hs1) ?_
  rintro _ _ ⟨rfl, rfl⟩
  refine pi_ct 1 (c := nI 0 = 0) (pc' := 43) (l' := [some (.ref 0), some (.int (nI 3)), some (.int i), some (.int (nI 0)), some (.int j), some (.int n), some (.ref 54), some (.ref 48)]) (st' := []) (σ' := σ) (pc2 := 51) (l2 := [some (.ref 0), some (.int (nI 3)), some (.int i), some (.int (nI 0)), some (.int j), some (.int n), some (.ref 54), some (.ref 48)]) (st2 := []) (σ2 := σ) (fun f => rfl) (by decide) ?_
  refine pi_ca 2 (m' := 36) (l' := [some (.ref 48)]) (σ' := σ) (pc2 := 48) (l2 := [some (.ref 0), some (.int (nI 3)), some (.int i), some (.int (nI 0)), some (.int j), some (.int n), some (.ref 54), some (.ref 48)]) (t := []) (fun f => rfl) (pi_C_lost0_f hR.k ht1) ?_
  rintro _ _ ⟨rfl, rfl⟩
  refine pi_ct 1 (c := nI 0 = 0) (pc' := 57) (l' := [some (.ref 0), some (.int (nI 3)), some (.int i), some (.int (nI 0)), some (.int j), some (.int n), some (.ref 54), some (.ref 48)]) (st' := []) (σ' := σ) (pc2 := 51) (l2 := [some (.ref 0), some (.int (nI 3)), some (.int i), some (.int (nI 0)), some (.int j), some (.int n), some (.ref 54), some (.ref 48)]) (st2 := []) (σ2 := σ) (fun f => rfl) (by decide) ?_
  refine pi_go 2 (pc' := 62) (l' := [some (.ref 0), some (.int (nI 3)), some (.int i), some (.int (nI 0)), some (.int j), some (.int n), some (.ref 54), some (.ref 48)]) (st' := [.int (σ 54 1)]) (σ' := σ) (fun f => rfl) ?_
  refine pi_tp (y := nI (W.fo 3)) (hR.k.p.sf3) ?_
  refine pi_go 2 (pc' := 67) (l' := [some (.ref 0), some (.int (nI 3)), some (.int i), some (.int (nI 0)), some (.int j), some (.int n), some (.ref 54), some (.ref 48)]) (st' := [.int (σ 48 1), .int (nI (W.fo 3))]) (σ' := σ) (fun f => rfl) ?_
  refine pi_tp (y := nI (W.fo 0)) (hR.k.p.sf0) ?_
  refine pi_cf 1 (c := nI (W.fo 3) = nI (W.fo 0)) (pc' := 70) (l' := [some (.ref 0), some (.int (nI 3)), some (.int i), some (.int (nI 0)), some (.int j), some (.int n), some (.ref 54), some (.ref 48)]) (st' := []) (σ' := σ) (pc2 := 76) (l2 := [some (.ref 0), some (.int (nI 3)), some (.int i), some (.int (nI 0)), some (.int j), some (.int n), some (.ref 54), some (.ref 48)]) (st2 := []) (σ2 := σ) (fun f => rfl) (fun q => h4 ((nI_eq (by omega) (by omega)).mp q)) ?_
  refine pi_ca 3 (m' := 96) (l' := [some (.ref 0), some (.int (nI 4))]) (σ' := σ) (pc2 := 75) (l2 := [some (.ref 0), some (.int (nI 3)), some (.int i), some (.int (nI 0)), some (.int j), some (.int n), some (.ref 54), some (.ref 48)]) (t := []) (fun f => rfl) (pi_C_found (nI 4)) ?_
  rintro _ t1 ⟨rfl, et1, kt1, rt1⟩
  refine pi_rt 1 (v := some (.int ((-10) - (nI 4)))) (σ' := t1) (fun f => rfl) ?_
  have hfr : pi_fr [0] t1 σ := pi_fr_tr rt1 (by decide) (pi_fr_rf)
  exact ⟨rfl, hR.fnd (et1) hfr, pi_fr_tr hfr (by decide) pi_fr_rf⟩
set_option maxRecDepth 20000 in
theorem pi_X_copy30_index {xs : Nat → Int32} {L d : Nat} {W : zW} {σ : pi_S} (hR : z_CR W σ) {i j n : Int32} (hs1 : ¬ W.th 3 = 0) (ht1 : ¬ W.th 0 = 0) (h4 : W.fo 3 = W.fo 0) (hb : ¬ z_cp W 3 0 i j n)  : pi_wp xs L (d + 9) 90 0 [some (.ref 0), some (.int (nI 3)), some (.int i), some (.int (nI 0)), some (.int j), some (.int n), none, none] [] σ (fun v s => v = some (.int ((-10) - (nI 2))) ∧ z_CR (W.sS 0 (nI 2)) s ∧ pi_fr z_CC s σ) := by
  have hk := hR.k.p.wk
  have hnd8 := hk.wd.nd8
  have hns12 := hk.wd.ns12
  have hn60 := hk.nine
  have hnf := hk.nf
  have hnw := hk.nw
  have hnc := hk.nc
  have hn08 := hk.wd.n0
  have hn140 := hk.wd.n1
  have hsi := hk.si 3 (by omega)
  have hti := hk.si 0 (by omega)
  refine pi_ca 3 (m' := 94) (l' := [some (.int (nI 3)), some (.int (nI 4))]) (σ' := σ) (pc2 := 5) (l2 := [some (.ref 0), some (.int (nI 3)), some (.int i), some (.int (nI 0)), some (.int j), some (.int n), none, none]) (t := []) (fun f => rfl) (pi_below1 _ _ (z_BL (by omega) (by omega))) ?_
  rintro _ _ ⟨rfl, rfl⟩
  refine pi_cf 1 (c := nI 1 = 0) (pc' := 8) (l' := [some (.ref 0), some (.int (nI 3)), some (.int i), some (.int (nI 0)), some (.int j), some (.int n), none, none]) (st' := []) (σ' := σ) (pc2 := 16) (l2 := [some (.ref 0), some (.int (nI 3)), some (.int i), some (.int (nI 0)), some (.int j), some (.int n), none, none]) (st2 := []) (σ2 := σ) (fun f => rfl) (by decide) ?_
  refine pi_ca 3 (m' := 94) (l' := [some (.int (nI 0)), some (.int (nI 4))]) (σ' := σ) (pc2 := 13) (l2 := [some (.ref 0), some (.int (nI 3)), some (.int i), some (.int (nI 0)), some (.int j), some (.int n), none, none]) (t := []) (fun f => rfl) (pi_below1 _ _ (z_BL (by omega) (by omega))) ?_
  rintro _ _ ⟨rfl, rfl⟩
  refine pi_cf 1 (c := nI 1 = 0) (pc' := 19) (l' := [some (.ref 0), some (.int (nI 3)), some (.int i), some (.int (nI 0)), some (.int j), some (.int n), none, none]) (st' := []) (σ' := σ) (pc2 := 16) (l2 := [some (.ref 0), some (.int (nI 3)), some (.int i), some (.int (nI 0)), some (.int j), some (.int n), none, none]) (st2 := []) (σ2 := σ) (fun f => rfl) (by decide) ?_
  refine pi_aq 4 (u := 3) (n := 4) (a := 47) (c := 54) (pc' := 25) (l' := [some (.ref 0), some (.int (nI 3)), some (.int i), some (.int (nI 0)), some (.int j), some (.int n), none, none]) (t := []) (σ' := σ) (fun f => rfl) (by omega) (by omega) rfl ?_
  refine pi_aq 5 (u := 0) (n := 4) (a := 47) (c := 48) (pc' := 33) (l' := [some (.ref 0), some (.int (nI 3)), some (.int i), some (.int (nI 0)), some (.int j), some (.int n), some (.ref 54), none]) (t := []) (σ' := σ) (fun f => rfl) (by omega) (by omega) rfl ?_
  refine pi_ca 3 (m' := 36) (l' := [some (.ref 54)]) (σ' := σ) (pc2 := 40) (l2 := [some (.ref 0), some (.int (nI 3)), some (.int i), some (.int (nI 0)), some (.int j), some (.int n), some (.ref 54), some (.ref 48)]) (t := []) (fun f => rfl) (pi_C_lost3_f hR.k hs1) ?_
  rintro _ _ ⟨rfl, rfl⟩
  refine pi_ct 1 (c := nI 0 = 0) (pc' := 43) (l' := [some (.ref 0), some (.int (nI 3)), some (.int i), some (.int (nI 0)), some (.int j), some (.int n), some (.ref 54), some (.ref 48)]) (st' := []) (σ' := σ) (pc2 := 51) (l2 := [some (.ref 0), some (.int (nI 3)), some (.int i), some (.int (nI 0)), some (.int j), some (.int n), some (.ref 54), some (.ref 48)]) (st2 := []) (σ2 := σ) (fun f => rfl) (by decide) ?_
  refine pi_ca 2 (m' := 36) (l' := [some (.ref 48)]) (σ' := σ) (pc2 := 48) (l2 := [some (.ref 0), some (.int (nI 3)), some (.int i), some (.int (nI 0)), some (.int j), some (.int n), some (.ref 54), some (.ref 48)]) (t := []) (fun f => rfl) (pi_C_lost0_f hR.k ht1) ?_
  rintro _ _ ⟨rfl, rfl⟩
  refine pi_ct 1 (c := nI 0 = 0) (pc' := 57) (l' := [some (.ref 0), some (.int (nI 3)), some (.int i), some (.int (nI 0)), some (.int j), some (.int n), some (.ref 54), some (.ref 48)]) (st' := []) (σ' := σ) (pc2 := 51) (l2 := [some (.ref 0), some (.int (nI 3)), some (.int i), some (.int (nI 0)), some (.int j), some (.int n), some (.ref 54), some (.ref 48)]) (st2 := []) (σ2 := σ) (fun f => rfl) (by decide) ?_
  refine pi_go 2 (pc' := 62) (l' := [some (.ref 0), some (.int (nI 3)), some (.int i), some (.int (nI 0)), some (.int j), some (.int n), some (.ref 54), some (.ref 48)]) (st' := [.int (σ 54 1)]) (σ' := σ) (fun f => rfl) ?_
  refine pi_tp (y := nI (W.fo 3)) (hR.k.p.sf3) ?_
  refine pi_go 2 (pc' := 67) (l' := [some (.ref 0), some (.int (nI 3)), some (.int i), some (.int (nI 0)), some (.int j), some (.int n), some (.ref 54), some (.ref 48)]) (st' := [.int (σ 48 1), .int (nI (W.fo 3))]) (σ' := σ) (fun f => rfl) ?_
  refine pi_tp (y := nI (W.fo 0)) (hR.k.p.sf0) ?_
  refine pi_ct 1 (c := nI (W.fo 3) = nI (W.fo 0)) (pc' := 76) (l' := [some (.ref 0), some (.int (nI 3)), some (.int i), some (.int (nI 0)), some (.int j), some (.int n), some (.ref 54), some (.ref 48)]) (st' := []) (σ' := σ) (pc2 := 70) (l2 := [some (.ref 0), some (.int (nI 3)), some (.int i), some (.int (nI 0)), some (.int j), some (.int n), some (.ref 54), some (.ref 48)]) (st2 := []) (σ2 := σ) (fun f => rfl) (congrArg nI h4) ?_
  refine pi_ca 4 (m' := 39) (l' := [some (.ref 54), some (.int i), some (.int n)]) (σ' := σ) (pc2 := 84) (l2 := [some (.ref 0), some (.int (nI 3)), some (.int i), some (.int (nI 0)), some (.int j), some (.int n), some (.ref 54), some (.ref 48)]) (t := []) (fun f => rfl) (pi_C_hasRun3 hR.k hs1 i n) ?_
  rintro _ _ (⟨b1, rfl, rfl⟩ | ⟨b1, rfl, rfl⟩)
  · refine pi_cf 1 (c := nI 1 = 0) (pc' := 87) (l' := [some (.ref 0), some (.int (nI 3)), some (.int i), some (.int (nI 0)), some (.int j), some (.int n), some (.ref 54), some (.ref 48)]) (st' := []) (σ' := σ) (pc2 := 99) (l2 := [some (.ref 0), some (.int (nI 3)), some (.int i), some (.int (nI 0)), some (.int j), some (.int n), some (.ref 54), some (.ref 48)]) (st2 := []) (σ2 := σ) (fun f => rfl) (by decide) ?_
    refine pi_ca 4 (m' := 39) (l' := [some (.ref 48), some (.int j), some (.int n)]) (σ' := σ) (pc2 := 96) (l2 := [some (.ref 0), some (.int (nI 3)), some (.int i), some (.int (nI 0)), some (.int j), some (.int n), some (.ref 54), some (.ref 48)]) (t := []) (fun f => rfl) (pi_C_hasRun0 hR.k ht1 j n) ?_
    rintro _ _ (⟨b2, rfl, rfl⟩ | ⟨b2, rfl, rfl⟩)
    · refine pi_cf 1 (c := nI 1 = 0) (pc' := 105) (l' := [some (.ref 0), some (.int (nI 3)), some (.int i), some (.int (nI 0)), some (.int j), some (.int n), some (.ref 54), some (.ref 48)]) (st' := []) (σ' := σ) (pc2 := 99) (l2 := [some (.ref 0), some (.int (nI 3)), some (.int i), some (.int (nI 0)), some (.int j), some (.int n), some (.ref 54), some (.ref 48)]) (st2 := []) (σ2 := σ) (fun f => rfl) (by decide) ?_
      exact (hb (z_cp_hr hsi.1 hti.1 b1 b2)).elim
    · refine pi_ct 1 (c := nI 0 = 0) (pc' := 99) (l' := [some (.ref 0), some (.int (nI 3)), some (.int i), some (.int (nI 0)), some (.int j), some (.int n), some (.ref 54), some (.ref 48)]) (st' := []) (σ' := σ) (pc2 := 105) (l2 := [some (.ref 0), some (.int (nI 3)), some (.int i), some (.int (nI 0)), some (.int j), some (.int n), some (.ref 54), some (.ref 48)]) (st2 := []) (σ2 := σ) (fun f => rfl) (by decide) ?_
      refine pi_ca 3 (m' := 96) (l' := [some (.ref 0), some (.int (nI 2))]) (σ' := σ) (pc2 := 104) (l2 := [some (.ref 0), some (.int (nI 3)), some (.int i), some (.int (nI 0)), some (.int j), some (.int n), some (.ref 54), some (.ref 48)]) (t := []) (fun f => rfl) (pi_C_found (nI 2)) ?_
      rintro _ t1 ⟨rfl, et1, kt1, rt1⟩
      refine pi_rt 1 (v := some (.int ((-10) - (nI 2)))) (σ' := t1) (fun f => rfl) ?_
      have hfr : pi_fr [0] t1 σ := pi_fr_tr rt1 (by decide) (pi_fr_rf)
      exact ⟨rfl, hR.fnd (et1) hfr, pi_fr_tr hfr (by decide) pi_fr_rf⟩
  · refine pi_ct 1 (c := nI 0 = 0) (pc' := 99) (l' := [some (.ref 0), some (.int (nI 3)), some (.int i), some (.int (nI 0)), some (.int j), some (.int n), some (.ref 54), some (.ref 48)]) (st' := []) (σ' := σ) (pc2 := 87) (l2 := [some (.ref 0), some (.int (nI 3)), some (.int i), some (.int (nI 0)), some (.int j), some (.int n), some (.ref 54), some (.ref 48)]) (st2 := []) (σ2 := σ) (fun f => rfl) (by decide) ?_
    refine pi_ca 3 (m' := 96) (l' := [some (.ref 0), some (.int (nI 2))]) (σ' := σ) (pc2 := 104) (l2 := [some (.ref 0), some (.int (nI 3)), some (.int i), some (.int (nI 0)), some (.int j), some (.int n), some (.ref 54), some (.ref 48)]) (t := []) (fun f => rfl) (pi_C_found (nI 2)) ?_
    rintro _ t2 ⟨rfl, et2, kt2, rt2⟩
    refine pi_rt 1 (v := some (.int ((-10) - (nI 2)))) (σ' := t2) (fun f => rfl) ?_
    have hfr : pi_fr [0] t2 σ := pi_fr_tr rt2 (by decide) (pi_fr_rf)
    exact ⟨rfl, hR.fnd (et2) hfr, pi_fr_tr hfr (by decide) pi_fr_rf⟩
set_option maxRecDepth 20000 in
theorem pi_X_copy30 {xs : Nat → Int32} {L d : Nat} {W : zW} {σ : pi_S} (hR : z_CR W σ) {i j n : Nat} (hs1 : ¬ W.th 3 = 0) (ht1 : ¬ W.th 0 = 0) (h4 : W.fo 3 = W.fo 0) (hi : i + n ≤ W.si 3) (hj : j + n ≤ W.si 0)  : pi_wp xs L (d + 9) 90 0 [some (.ref 0), some (.int (nI 3)), some (.int (nI i)), some (.int (nI 0)), some (.int (nI j)), some (.int (nI n)), none, none] [] σ (fun v s => v = some (.int (nI 1)) ∧ z_CR (W.sI 9 (pi_lp (fun q f => upd f (48 * 0 + j + q) (W.it (48 * 3 + i + q))) n W.it)) s ∧ pi_fr z_CC s σ) := by
  have hk := hR.k.p.wk
  have hnd8 := hk.wd.nd8
  have hns12 := hk.wd.ns12
  have hn60 := hk.nine
  have hnf := hk.nf
  have hnw := hk.nw
  have hnc := hk.nc
  have hn08 := hk.wd.n0
  have hn140 := hk.wd.n1
  have hsi := hk.si 3 (by omega)
  have hti := hk.si 0 (by omega)
  refine pi_ca 3 (m' := 94) (l' := [some (.int (nI 3)), some (.int (nI 4))]) (σ' := σ) (pc2 := 5) (l2 := [some (.ref 0), some (.int (nI 3)), some (.int (nI i)), some (.int (nI 0)), some (.int (nI j)), some (.int (nI n)), none, none]) (t := []) (fun f => rfl) (pi_below1 _ _ (z_BL (by omega) (by omega))) ?_
  rintro _ _ ⟨rfl, rfl⟩
  refine pi_cf 1 (c := nI 1 = 0) (pc' := 8) (l' := [some (.ref 0), some (.int (nI 3)), some (.int (nI i)), some (.int (nI 0)), some (.int (nI j)), some (.int (nI n)), none, none]) (st' := []) (σ' := σ) (pc2 := 16) (l2 := [some (.ref 0), some (.int (nI 3)), some (.int (nI i)), some (.int (nI 0)), some (.int (nI j)), some (.int (nI n)), none, none]) (st2 := []) (σ2 := σ) (fun f => rfl) (by decide) ?_
  refine pi_ca 3 (m' := 94) (l' := [some (.int (nI 0)), some (.int (nI 4))]) (σ' := σ) (pc2 := 13) (l2 := [some (.ref 0), some (.int (nI 3)), some (.int (nI i)), some (.int (nI 0)), some (.int (nI j)), some (.int (nI n)), none, none]) (t := []) (fun f => rfl) (pi_below1 _ _ (z_BL (by omega) (by omega))) ?_
  rintro _ _ ⟨rfl, rfl⟩
  refine pi_cf 1 (c := nI 1 = 0) (pc' := 19) (l' := [some (.ref 0), some (.int (nI 3)), some (.int (nI i)), some (.int (nI 0)), some (.int (nI j)), some (.int (nI n)), none, none]) (st' := []) (σ' := σ) (pc2 := 16) (l2 := [some (.ref 0), some (.int (nI 3)), some (.int (nI i)), some (.int (nI 0)), some (.int (nI j)), some (.int (nI n)), none, none]) (st2 := []) (σ2 := σ) (fun f => rfl) (by decide) ?_
  refine pi_aq 4 (u := 3) (n := 4) (a := 47) (c := 54) (pc' := 25) (l' := [some (.ref 0), some (.int (nI 3)), some (.int (nI i)), some (.int (nI 0)), some (.int (nI j)), some (.int (nI n)), none, none]) (t := []) (σ' := σ) (fun f => rfl) (by omega) (by omega) rfl ?_
  refine pi_aq 5 (u := 0) (n := 4) (a := 47) (c := 48) (pc' := 33) (l' := [some (.ref 0), some (.int (nI 3)), some (.int (nI i)), some (.int (nI 0)), some (.int (nI j)), some (.int (nI n)), some (.ref 54), none]) (t := []) (σ' := σ) (fun f => rfl) (by omega) (by omega) rfl ?_
  refine pi_ca 3 (m' := 36) (l' := [some (.ref 54)]) (σ' := σ) (pc2 := 40) (l2 := [some (.ref 0), some (.int (nI 3)), some (.int (nI i)), some (.int (nI 0)), some (.int (nI j)), some (.int (nI n)), some (.ref 54), some (.ref 48)]) (t := []) (fun f => rfl) (pi_C_lost3_f hR.k hs1) ?_
  rintro _ _ ⟨rfl, rfl⟩
  refine pi_ct 1 (c := nI 0 = 0) (pc' := 43) (l' := [some (.ref 0), some (.int (nI 3)), some (.int (nI i)), some (.int (nI 0)), some (.int (nI j)), some (.int (nI n)), some (.ref 54), some (.ref 48)]) (st' := []) (σ' := σ) (pc2 := 51) (l2 := [some (.ref 0), some (.int (nI 3)), some (.int (nI i)), some (.int (nI 0)), some (.int (nI j)), some (.int (nI n)), some (.ref 54), some (.ref 48)]) (st2 := []) (σ2 := σ) (fun f => rfl) (by decide) ?_
  refine pi_ca 2 (m' := 36) (l' := [some (.ref 48)]) (σ' := σ) (pc2 := 48) (l2 := [some (.ref 0), some (.int (nI 3)), some (.int (nI i)), some (.int (nI 0)), some (.int (nI j)), some (.int (nI n)), some (.ref 54), some (.ref 48)]) (t := []) (fun f => rfl) (pi_C_lost0_f hR.k ht1) ?_
  rintro _ _ ⟨rfl, rfl⟩
  refine pi_ct 1 (c := nI 0 = 0) (pc' := 57) (l' := [some (.ref 0), some (.int (nI 3)), some (.int (nI i)), some (.int (nI 0)), some (.int (nI j)), some (.int (nI n)), some (.ref 54), some (.ref 48)]) (st' := []) (σ' := σ) (pc2 := 51) (l2 := [some (.ref 0), some (.int (nI 3)), some (.int (nI i)), some (.int (nI 0)), some (.int (nI j)), some (.int (nI n)), some (.ref 54), some (.ref 48)]) (st2 := []) (σ2 := σ) (fun f => rfl) (by decide) ?_
  refine pi_go 2 (pc' := 62) (l' := [some (.ref 0), some (.int (nI 3)), some (.int (nI i)), some (.int (nI 0)), some (.int (nI j)), some (.int (nI n)), some (.ref 54), some (.ref 48)]) (st' := [.int (σ 54 1)]) (σ' := σ) (fun f => rfl) ?_
  refine pi_tp (y := nI (W.fo 3)) (hR.k.p.sf3) ?_
  refine pi_go 2 (pc' := 67) (l' := [some (.ref 0), some (.int (nI 3)), some (.int (nI i)), some (.int (nI 0)), some (.int (nI j)), some (.int (nI n)), some (.ref 54), some (.ref 48)]) (st' := [.int (σ 48 1), .int (nI (W.fo 3))]) (σ' := σ) (fun f => rfl) ?_
  refine pi_tp (y := nI (W.fo 0)) (hR.k.p.sf0) ?_
  refine pi_ct 1 (c := nI (W.fo 3) = nI (W.fo 0)) (pc' := 76) (l' := [some (.ref 0), some (.int (nI 3)), some (.int (nI i)), some (.int (nI 0)), some (.int (nI j)), some (.int (nI n)), some (.ref 54), some (.ref 48)]) (st' := []) (σ' := σ) (pc2 := 70) (l2 := [some (.ref 0), some (.int (nI 3)), some (.int (nI i)), some (.int (nI 0)), some (.int (nI j)), some (.int (nI n)), some (.ref 54), some (.ref 48)]) (st2 := []) (σ2 := σ) (fun f => rfl) (congrArg nI h4) ?_
  refine pi_ca 4 (m' := 39) (l' := [some (.ref 54), some (.int (nI i)), some (.int (nI n))]) (σ' := σ) (pc2 := 84) (l2 := [some (.ref 0), some (.int (nI 3)), some (.int (nI i)), some (.int (nI 0)), some (.int (nI j)), some (.int (nI n)), some (.ref 54), some (.ref 48)]) (t := []) (fun f => rfl) (pi_C_hasRun3T hR.k hs1 ⟨i, n, rfl, rfl, hi⟩) ?_
  rintro _ _ ⟨rfl, rfl⟩
  refine pi_cf 1 (c := nI 1 = 0) (pc' := 87) (l' := [some (.ref 0), some (.int (nI 3)), some (.int (nI i)), some (.int (nI 0)), some (.int (nI j)), some (.int (nI n)), some (.ref 54), some (.ref 48)]) (st' := []) (σ' := σ) (pc2 := 99) (l2 := [some (.ref 0), some (.int (nI 3)), some (.int (nI i)), some (.int (nI 0)), some (.int (nI j)), some (.int (nI n)), some (.ref 54), some (.ref 48)]) (st2 := []) (σ2 := σ) (fun f => rfl) (by decide) ?_
  refine pi_ca 4 (m' := 39) (l' := [some (.ref 48), some (.int (nI j)), some (.int (nI n))]) (σ' := σ) (pc2 := 96) (l2 := [some (.ref 0), some (.int (nI 3)), some (.int (nI i)), some (.int (nI 0)), some (.int (nI j)), some (.int (nI n)), some (.ref 54), some (.ref 48)]) (t := []) (fun f => rfl) (pi_C_hasRun0T hR.k ht1 ⟨j, n, rfl, rfl, hj⟩) ?_
  rintro _ _ ⟨rfl, rfl⟩
  refine pi_cf 1 (c := nI 1 = 0) (pc' := 105) (l' := [some (.ref 0), some (.int (nI 3)), some (.int (nI i)), some (.int (nI 0)), some (.int (nI j)), some (.int (nI n)), some (.ref 54), some (.ref 48)]) (st' := []) (σ' := σ) (pc2 := 99) (l2 := [some (.ref 0), some (.int (nI 3)), some (.int (nI i)), some (.int (nI 0)), some (.int (nI j)), some (.int (nI n)), some (.ref 54), some (.ref 48)]) (st2 := []) (σ2 := σ) (fun f => rfl) (by decide) ?_
  refine pi_go 7 (pc' := 120) (l' := [some (.ref 0), some (.int (nI 3)), some (.int (nI i)), some (.int (nI 0)), some (.int (nI j)), some (.int (nI n)), some (.ref 54), some (.ref 48)]) (st' := [.int (nI n), .int (nI j), .ref 49, .int (nI i), .ref 55]) (σ' := σ) (fun f => rfl) ?_
  refine pi_gd 1 (c := ¬ nI i < 0 ∧ ¬ nI j < 0 ∧ ¬ nI n < 0 ∧ (nI i).toNatClampNeg + (nI n).toNatClampNeg ≤ 48 ∧ (nI j).toNatClampNeg + (nI n).toNatClampNeg ≤ 48) (pc' := 123) (l' := [some (.ref 0), some (.int (nI 3)), some (.int (nI i)), some (.int (nI 0)), some (.int (nI j)), some (.int (nI n)), some (.ref 54), some (.ref 48)]) (st' := []) (σ' := pi_cpy σ 55 49 (nI i).toNatClampNeg (nI j).toNatClampNeg (nI n).toNatClampNeg) (fun f => rfl) ⟨z_ltz (by omega), z_ltz (by omega), z_ltz (by omega), by rw [nI_clamp (by omega), nI_clamp (by omega)]; omega, by rw [nI_clamp (by omega), nI_clamp (by omega)]; omega⟩ ?_
  rw [show (nI i).toNatClampNeg = i from nI_clamp (by omega), show (nI j).toNatClampNeg = j from nI_clamp (by omega), show (nI n).toNatClampNeg = n from nI_clamp (by omega)]
  generalize es1 : pi_cpy σ 55 49 i j n = s1
  have rs1 := pi_cpy_fr es1
  refine pi_rt 2 (v := some (.int (nI 1))) (σ' := s1) (fun f => rfl) ?_
  have hfr : pi_fr [49] s1 σ := pi_fr_tr rs1 (by decide) (pi_fr_rf)
  exact ⟨rfl, hR.it0 (fun q hq => (congrFun (pi_cpy_at es1) q).trans (z_cp_row hR.k.p.si3 hR.k.p.si0 (by omega) (by omega) q hq)) (z_cp_o (by omega)) hfr, pi_fr_tr hfr (by decide) pi_fr_rf⟩
set_option maxRecDepth 20000 in
theorem pi_X_copy31_null1 {xs : Nat → Int32} {L d : Nat} {W : zW} {σ : pi_S} (hR : z_CR W σ) {i j n : Int32} (hs0 : W.th 3 = 0)  : pi_wp xs L (d + 9) 90 0 [some (.ref 0), some (.int (nI 3)), some (.int i), some (.int (nI 1)), some (.int j), some (.int n), none, none] [] σ (fun v s => v = some (.int ((-10) - (nI 1))) ∧ z_CR (W.sS 0 (nI 1)) s ∧ pi_fr z_CC s σ) := by
  have hk := hR.k.p.wk
  have hnd8 := hk.wd.nd8
  have hns12 := hk.wd.ns12
  have hn60 := hk.nine
  have hnf := hk.nf
  have hnw := hk.nw
  have hnc := hk.nc
  have hn08 := hk.wd.n0
  have hn140 := hk.wd.n1
  have hsi := hk.si 3 (by omega)
  have hti := hk.si 1 (by omega)
  refine pi_ca 3 (m' := 94) (l' := [some (.int (nI 3)), some (.int (nI 4))]) (σ' := σ) (pc2 := 5) (l2 := [some (.ref 0), some (.int (nI 3)), some (.int i), some (.int (nI 1)), some (.int j), some (.int n), none, none]) (t := []) (fun f => rfl) (pi_below1 _ _ (z_BL (by omega) (by omega))) ?_
  rintro _ _ ⟨rfl, rfl⟩
  refine pi_cf 1 (c := nI 1 = 0) (pc' := 8) (l' := [some (.ref 0), some (.int (nI 3)), some (.int i), some (.int (nI 1)), some (.int j), some (.int n), none, none]) (st' := []) (σ' := σ) (pc2 := 16) (l2 := [some (.ref 0), some (.int (nI 3)), some (.int i), some (.int (nI 1)), some (.int j), some (.int n), none, none]) (st2 := []) (σ2 := σ) (fun f => rfl) (by decide) ?_
  refine pi_ca 3 (m' := 94) (l' := [some (.int (nI 1)), some (.int (nI 4))]) (σ' := σ) (pc2 := 13) (l2 := [some (.ref 0), some (.int (nI 3)), some (.int i), some (.int (nI 1)), some (.int j), some (.int n), none, none]) (t := []) (fun f => rfl) (pi_below1 _ _ (z_BL (by omega) (by omega))) ?_
  rintro _ _ ⟨rfl, rfl⟩
  refine pi_cf 1 (c := nI 1 = 0) (pc' := 19) (l' := [some (.ref 0), some (.int (nI 3)), some (.int i), some (.int (nI 1)), some (.int j), some (.int n), none, none]) (st' := []) (σ' := σ) (pc2 := 16) (l2 := [some (.ref 0), some (.int (nI 3)), some (.int i), some (.int (nI 1)), some (.int j), some (.int n), none, none]) (st2 := []) (σ2 := σ) (fun f => rfl) (by decide) ?_
  refine pi_aq 4 (u := 3) (n := 4) (a := 47) (c := 54) (pc' := 25) (l' := [some (.ref 0), some (.int (nI 3)), some (.int i), some (.int (nI 1)), some (.int j), some (.int n), none, none]) (t := []) (σ' := σ) (fun f => rfl) (by omega) (by omega) rfl ?_
  refine pi_aq 5 (u := 1) (n := 4) (a := 47) (c := 50) (pc' := 33) (l' := [some (.ref 0), some (.int (nI 3)), some (.int i), some (.int (nI 1)), some (.int j), some (.int n), some (.ref 54), none]) (t := []) (σ' := σ) (fun f => rfl) (by omega) (by omega) rfl ?_
  refine pi_ca 3 (m' := 36) (l' := [some (.ref 54)]) (σ' := σ) (pc2 := 40) (l2 := [some (.ref 0), some (.int (nI 3)), some (.int i), some (.int (nI 1)), some (.int j), some (.int n), some (.ref 54), some (.ref 50)]) (t := []) (fun f => rfl) (pi_C_lost3_t hR.k hs0) ?_
  rintro _ _ ⟨rfl, rfl⟩
  refine pi_cf 1 (c := nI 1 = 0) (pc' := 51) (l' := [some (.ref 0), some (.int (nI 3)), some (.int i), some (.int (nI 1)), some (.int j), some (.int n), some (.ref 54), some (.ref 50)]) (st' := []) (σ' := σ) (pc2 := 43) (l2 := [some (.ref 0), some (.int (nI 3)), some (.int i), some (.int (nI 1)), some (.int j), some (.int n), some (.ref 54), some (.ref 50)]) (st2 := []) (σ2 := σ) (fun f => rfl) (by decide) ?_
  refine pi_ca 3 (m' := 96) (l' := [some (.ref 0), some (.int (nI 1))]) (σ' := σ) (pc2 := 56) (l2 := [some (.ref 0), some (.int (nI 3)), some (.int i), some (.int (nI 1)), some (.int j), some (.int n), some (.ref 54), some (.ref 50)]) (t := []) (fun f => rfl) (pi_C_found (nI 1)) ?_
  rintro _ t1 ⟨rfl, et1, kt1, rt1⟩
  refine pi_rt 1 (v := some (.int ((-10) - (nI 1)))) (σ' := t1) (fun f => rfl) ?_
  have hfr : pi_fr [0] t1 σ := pi_fr_tr rt1 (by decide) (pi_fr_rf)
  exact ⟨rfl, hR.fnd (et1) hfr, pi_fr_tr hfr (by decide) pi_fr_rf⟩
set_option maxRecDepth 20000 in
theorem pi_X_copy31_null2 {xs : Nat → Int32} {L d : Nat} {W : zW} {σ : pi_S} (hR : z_CR W σ) {i j n : Int32} (hs1 : ¬ W.th 3 = 0) (ht0 : W.th 1 = 0)  : pi_wp xs L (d + 9) 90 0 [some (.ref 0), some (.int (nI 3)), some (.int i), some (.int (nI 1)), some (.int j), some (.int n), none, none] [] σ (fun v s => v = some (.int ((-10) - (nI 1))) ∧ z_CR (W.sS 0 (nI 1)) s ∧ pi_fr z_CC s σ) := by
  have hk := hR.k.p.wk
  have hnd8 := hk.wd.nd8
  have hns12 := hk.wd.ns12
  have hn60 := hk.nine
  have hnf := hk.nf
  have hnw := hk.nw
  have hnc := hk.nc
  have hn08 := hk.wd.n0
  have hn140 := hk.wd.n1
  have hsi := hk.si 3 (by omega)
  have hti := hk.si 1 (by omega)
  refine pi_ca 3 (m' := 94) (l' := [some (.int (nI 3)), some (.int (nI 4))]) (σ' := σ) (pc2 := 5) (l2 := [some (.ref 0), some (.int (nI 3)), some (.int i), some (.int (nI 1)), some (.int j), some (.int n), none, none]) (t := []) (fun f => rfl) (pi_below1 _ _ (z_BL (by omega) (by omega))) ?_
  rintro _ _ ⟨rfl, rfl⟩
  refine pi_cf 1 (c := nI 1 = 0) (pc' := 8) (l' := [some (.ref 0), some (.int (nI 3)), some (.int i), some (.int (nI 1)), some (.int j), some (.int n), none, none]) (st' := []) (σ' := σ) (pc2 := 16) (l2 := [some (.ref 0), some (.int (nI 3)), some (.int i), some (.int (nI 1)), some (.int j), some (.int n), none, none]) (st2 := []) (σ2 := σ) (fun f => rfl) (by decide) ?_
  refine pi_ca 3 (m' := 94) (l' := [some (.int (nI 1)), some (.int (nI 4))]) (σ' := σ) (pc2 := 13) (l2 := [some (.ref 0), some (.int (nI 3)), some (.int i), some (.int (nI 1)), some (.int j), some (.int n), none, none]) (t := []) (fun f => rfl) (pi_below1 _ _ (z_BL (by omega) (by omega))) ?_
  rintro _ _ ⟨rfl, rfl⟩
  refine pi_cf 1 (c := nI 1 = 0) (pc' := 19) (l' := [some (.ref 0), some (.int (nI 3)), some (.int i), some (.int (nI 1)), some (.int j), some (.int n), none, none]) (st' := []) (σ' := σ) (pc2 := 16) (l2 := [some (.ref 0), some (.int (nI 3)), some (.int i), some (.int (nI 1)), some (.int j), some (.int n), none, none]) (st2 := []) (σ2 := σ) (fun f => rfl) (by decide) ?_
  refine pi_aq 4 (u := 3) (n := 4) (a := 47) (c := 54) (pc' := 25) (l' := [some (.ref 0), some (.int (nI 3)), some (.int i), some (.int (nI 1)), some (.int j), some (.int n), none, none]) (t := []) (σ' := σ) (fun f => rfl) (by omega) (by omega) rfl ?_
  refine pi_aq 5 (u := 1) (n := 4) (a := 47) (c := 50) (pc' := 33) (l' := [some (.ref 0), some (.int (nI 3)), some (.int i), some (.int (nI 1)), some (.int j), some (.int n), some (.ref 54), none]) (t := []) (σ' := σ) (fun f => rfl) (by omega) (by omega) rfl ?_
  refine pi_ca 3 (m' := 36) (l' := [some (.ref 54)]) (σ' := σ) (pc2 := 40) (l2 := [some (.ref 0), some (.int (nI 3)), some (.int i), some (.int (nI 1)), some (.int j), some (.int n), some (.ref 54), some (.ref 50)]) (t := []) (fun f => rfl) (pi_C_lost3_f hR.k hs1) ?_
  rintro _ _ ⟨rfl, rfl⟩
  refine pi_ct 1 (c := nI 0 = 0) (pc' := 43) (l' := [some (.ref 0), some (.int (nI 3)), some (.int i), some (.int (nI 1)), some (.int j), some (.int n), some (.ref 54), some (.ref 50)]) (st' := []) (σ' := σ) (pc2 := 51) (l2 := [some (.ref 0), some (.int (nI 3)), some (.int i), some (.int (nI 1)), some (.int j), some (.int n), some (.ref 54), some (.ref 50)]) (st2 := []) (σ2 := σ) (fun f => rfl) (by decide) ?_
  refine pi_ca 2 (m' := 36) (l' := [some (.ref 50)]) (σ' := σ) (pc2 := 48) (l2 := [some (.ref 0), some (.int (nI 3)), some (.int i), some (.int (nI 1)), some (.int j), some (.int n), some (.ref 54), some (.ref 50)]) (t := []) (fun f => rfl) (pi_C_lost1_t hR.k ht0) ?_
  rintro _ _ ⟨rfl, rfl⟩
  refine pi_cf 1 (c := nI 1 = 0) (pc' := 51) (l' := [some (.ref 0), some (.int (nI 3)), some (.int i), some (.int (nI 1)), some (.int j), some (.int n), some (.ref 54), some (.ref 50)]) (st' := []) (σ' := σ) (pc2 := 57) (l2 := [some (.ref 0), some (.int (nI 3)), some (.int i), some (.int (nI 1)), some (.int j), some (.int n), some (.ref 54), some (.ref 50)]) (st2 := []) (σ2 := σ) (fun f => rfl) (by decide) ?_
  refine pi_ca 3 (m' := 96) (l' := [some (.ref 0), some (.int (nI 1))]) (σ' := σ) (pc2 := 56) (l2 := [some (.ref 0), some (.int (nI 3)), some (.int i), some (.int (nI 1)), some (.int j), some (.int n), some (.ref 54), some (.ref 50)]) (t := []) (fun f => rfl) (pi_C_found (nI 1)) ?_
  rintro _ t1 ⟨rfl, et1, kt1, rt1⟩
  refine pi_rt 1 (v := some (.int ((-10) - (nI 1)))) (σ' := t1) (fun f => rfl) ?_
  have hfr : pi_fr [0] t1 σ := pi_fr_tr rt1 (by decide) (pi_fr_rf)
  exact ⟨rfl, hR.fnd (et1) hfr, pi_fr_tr hfr (by decide) pi_fr_rf⟩
set_option maxRecDepth 20000 in
theorem pi_X_copy31_store {xs : Nat → Int32} {L d : Nat} {W : zW} {σ : pi_S} (hR : z_CR W σ) {i j n : Int32} (hs1 : ¬ W.th 3 = 0) (ht1 : ¬ W.th 1 = 0) (h4 : ¬ W.fo 3 = W.fo 1)  : pi_wp xs L (d + 9) 90 0 [some (.ref 0), some (.int (nI 3)), some (.int i), some (.int (nI 1)), some (.int j), some (.int n), none, none] [] σ (fun v s => v = some (.int ((-10) - (nI 4))) ∧ z_CR (W.sS 0 (nI 4)) s ∧ pi_fr z_CC s σ) := by
  have hk := hR.k.p.wk
  have hnd8 := hk.wd.nd8
  have hns12 := hk.wd.ns12
  have hn60 := hk.nine
  have hnf := hk.nf
  have hnw := hk.nw
  have hnc := hk.nc
  have hn08 := hk.wd.n0
  have hn140 := hk.wd.n1
  have hsi := hk.si 3 (by omega)
  have hti := hk.si 1 (by omega)
  refine pi_ca 3 (m' := 94) (l' := [some (.int (nI 3)), some (.int (nI 4))]) (σ' := σ) (pc2 := 5) (l2 := [some (.ref 0), some (.int (nI 3)), some (.int i), some (.int (nI 1)), some (.int j), some (.int n), none, none]) (t := []) (fun f => rfl) (pi_below1 _ _ (z_BL (by omega) (by omega))) ?_
  rintro _ _ ⟨rfl, rfl⟩
  refine pi_cf 1 (c := nI 1 = 0) (pc' := 8) (l' := [some (.ref 0), some (.int (nI 3)), some (.int i), some (.int (nI 1)), some (.int j), some (.int n), none, none]) (st' := []) (σ' := σ) (pc2 := 16) (l2 := [some (.ref 0), some (.int (nI 3)), some (.int i), some (.int (nI 1)), some (.int j), some (.int n), none, none]) (st2 := []) (σ2 := σ) (fun f => rfl) (by decide) ?_
  refine pi_ca 3 (m' := 94) (l' := [some (.int (nI 1)), some (.int (nI 4))]) (σ' := σ) (pc2 := 13) (l2 := [some (.ref 0), some (.int (nI 3)), some (.int i), some (.int (nI 1)), some (.int j), some (.int n), none, none]) (t := []) (fun f => rfl) (pi_below1 _ _ (z_BL (by omega) (by omega))) ?_
  rintro _ _ ⟨rfl, rfl⟩
  refine pi_cf 1 (c := nI 1 = 0) (pc' := 19) (l' := [some (.ref 0), some (.int (nI 3)), some (.int i), some (.int (nI 1)), some (.int j), some (.int n), none, none]) (st' := []) (σ' := σ) (pc2 := 16) (l2 := [some (.ref 0), some (.int (nI 3)), some (.int i), some (.int (nI 1)), some (.int j), some (.int n), none, none]) (st2 := []) (σ2 := σ) (fun f => rfl) (by decide) ?_
  refine pi_aq 4 (u := 3) (n := 4) (a := 47) (c := 54) (pc' := 25) (l' := [some (.ref 0), some (.int (nI 3)), some (.int i), some (.int (nI 1)), some (.int j), some (.int n), none, none]) (t := []) (σ' := σ) (fun f => rfl) (by omega) (by omega) rfl ?_
  refine pi_aq 5 (u := 1) (n := 4) (a := 47) (c := 50) (pc' := 33) (l' := [some (.ref 0), some (.int (nI 3)), some (.int i), some (.int (nI 1)), some (.int j), some (.int n), some (.ref 54), none]) (t := []) (σ' := σ) (fun f => rfl) (by omega) (by omega) rfl ?_
  refine pi_ca 3 (m' := 36) (l' := [some (.ref 54)]) (σ' := σ) (pc2 := 40) (l2 := [some (.ref 0), some (.int (nI 3)), some (.int i), some (.int (nI 1)), some (.int j), some (.int n), some (.ref 54), some (.ref 50)]) (t := []) (fun f => rfl) (pi_C_lost3_f hR.k hs1) ?_
  rintro _ _ ⟨rfl, rfl⟩
  refine pi_ct 1 (c := nI 0 = 0) (pc' := 43) (l' := [some (.ref 0), some (.int (nI 3)), some (.int i), some (.int (nI 1)), some (.int j), some (.int n), some (.ref 54), some (.ref 50)]) (st' := []) (σ' := σ) (pc2 := 51) (l2 := [some (.ref 0), some (.int (nI 3)), some (.int i), some (.int (nI 1)), some (.int j), some (.int n), some (.ref 54), some (.ref 50)]) (st2 := []) (σ2 := σ) (fun f => rfl) (by decide) ?_
  refine pi_ca 2 (m' := 36) (l' := [some (.ref 50)]) (σ' := σ) (pc2 := 48) (l2 := [some (.ref 0), some (.int (nI 3)), some (.int i), some (.int (nI 1)), some (.int j), some (.int n), some (.ref 54), some (.ref 50)]) (t := []) (fun f => rfl) (pi_C_lost1_f hR.k ht1) ?_
  rintro _ _ ⟨rfl, rfl⟩
  refine pi_ct 1 (c := nI 0 = 0) (pc' := 57) (l' := [some (.ref 0), some (.int (nI 3)), some (.int i), some (.int (nI 1)), some (.int j), some (.int n), some (.ref 54), some (.ref 50)]) (st' := []) (σ' := σ) (pc2 := 51) (l2 := [some (.ref 0), some (.int (nI 3)), some (.int i), some (.int (nI 1)), some (.int j), some (.int n), some (.ref 54), some (.ref 50)]) (st2 := []) (σ2 := σ) (fun f => rfl) (by decide) ?_
  refine pi_go 2 (pc' := 62) (l' := [some (.ref 0), some (.int (nI 3)), some (.int i), some (.int (nI 1)), some (.int j), some (.int n), some (.ref 54), some (.ref 50)]) (st' := [.int (σ 54 1)]) (σ' := σ) (fun f => rfl) ?_
  refine pi_tp (y := nI (W.fo 3)) (hR.k.p.sf3) ?_
  refine pi_go 2 (pc' := 67) (l' := [some (.ref 0), some (.int (nI 3)), some (.int i), some (.int (nI 1)), some (.int j), some (.int n), some (.ref 54), some (.ref 50)]) (st' := [.int (σ 50 1), .int (nI (W.fo 3))]) (σ' := σ) (fun f => rfl) ?_
  refine pi_tp (y := nI (W.fo 1)) (hR.k.p.sf1) ?_
  refine pi_cf 1 (c := nI (W.fo 3) = nI (W.fo 1)) (pc' := 70) (l' := [some (.ref 0), some (.int (nI 3)), some (.int i), some (.int (nI 1)), some (.int j), some (.int n), some (.ref 54), some (.ref 50)]) (st' := []) (σ' := σ) (pc2 := 76) (l2 := [some (.ref 0), some (.int (nI 3)), some (.int i), some (.int (nI 1)), some (.int j), some (.int n), some (.ref 54), some (.ref 50)]) (st2 := []) (σ2 := σ) (fun f => rfl) (fun q => h4 ((nI_eq (by omega) (by omega)).mp q)) ?_
  refine pi_ca 3 (m' := 96) (l' := [some (.ref 0), some (.int (nI 4))]) (σ' := σ) (pc2 := 75) (l2 := [some (.ref 0), some (.int (nI 3)), some (.int i), some (.int (nI 1)), some (.int j), some (.int n), some (.ref 54), some (.ref 50)]) (t := []) (fun f => rfl) (pi_C_found (nI 4)) ?_
  rintro _ t1 ⟨rfl, et1, kt1, rt1⟩
  refine pi_rt 1 (v := some (.int ((-10) - (nI 4)))) (σ' := t1) (fun f => rfl) ?_
  have hfr : pi_fr [0] t1 σ := pi_fr_tr rt1 (by decide) (pi_fr_rf)
  exact ⟨rfl, hR.fnd (et1) hfr, pi_fr_tr hfr (by decide) pi_fr_rf⟩
set_option maxRecDepth 20000 in
theorem pi_X_copy31_index {xs : Nat → Int32} {L d : Nat} {W : zW} {σ : pi_S} (hR : z_CR W σ) {i j n : Int32} (hs1 : ¬ W.th 3 = 0) (ht1 : ¬ W.th 1 = 0) (h4 : W.fo 3 = W.fo 1) (hb : ¬ z_cp W 3 1 i j n)  : pi_wp xs L (d + 9) 90 0 [some (.ref 0), some (.int (nI 3)), some (.int i), some (.int (nI 1)), some (.int j), some (.int n), none, none] [] σ (fun v s => v = some (.int ((-10) - (nI 2))) ∧ z_CR (W.sS 0 (nI 2)) s ∧ pi_fr z_CC s σ) := by
  have hk := hR.k.p.wk
  have hnd8 := hk.wd.nd8
  have hns12 := hk.wd.ns12
  have hn60 := hk.nine
  have hnf := hk.nf
  have hnw := hk.nw
  have hnc := hk.nc
  have hn08 := hk.wd.n0
  have hn140 := hk.wd.n1
  have hsi := hk.si 3 (by omega)
  have hti := hk.si 1 (by omega)
  refine pi_ca 3 (m' := 94) (l' := [some (.int (nI 3)), some (.int (nI 4))]) (σ' := σ) (pc2 := 5) (l2 := [some (.ref 0), some (.int (nI 3)), some (.int i), some (.int (nI 1)), some (.int j), some (.int n), none, none]) (t := []) (fun f => rfl) (pi_below1 _ _ (z_BL (by omega) (by omega))) ?_
  rintro _ _ ⟨rfl, rfl⟩
  refine pi_cf 1 (c := nI 1 = 0) (pc' := 8) (l' := [some (.ref 0), some (.int (nI 3)), some (.int i), some (.int (nI 1)), some (.int j), some (.int n), none, none]) (st' := []) (σ' := σ) (pc2 := 16) (l2 := [some (.ref 0), some (.int (nI 3)), some (.int i), some (.int (nI 1)), some (.int j), some (.int n), none, none]) (st2 := []) (σ2 := σ) (fun f => rfl) (by decide) ?_
  refine pi_ca 3 (m' := 94) (l' := [some (.int (nI 1)), some (.int (nI 4))]) (σ' := σ) (pc2 := 13) (l2 := [some (.ref 0), some (.int (nI 3)), some (.int i), some (.int (nI 1)), some (.int j), some (.int n), none, none]) (t := []) (fun f => rfl) (pi_below1 _ _ (z_BL (by omega) (by omega))) ?_
  rintro _ _ ⟨rfl, rfl⟩
  refine pi_cf 1 (c := nI 1 = 0) (pc' := 19) (l' := [some (.ref 0), some (.int (nI 3)), some (.int i), some (.int (nI 1)), some (.int j), some (.int n), none, none]) (st' := []) (σ' := σ) (pc2 := 16) (l2 := [some (.ref 0), some (.int (nI 3)), some (.int i), some (.int (nI 1)), some (.int j), some (.int n), none, none]) (st2 := []) (σ2 := σ) (fun f => rfl) (by decide) ?_
  refine pi_aq 4 (u := 3) (n := 4) (a := 47) (c := 54) (pc' := 25) (l' := [some (.ref 0), some (.int (nI 3)), some (.int i), some (.int (nI 1)), some (.int j), some (.int n), none, none]) (t := []) (σ' := σ) (fun f => rfl) (by omega) (by omega) rfl ?_
  refine pi_aq 5 (u := 1) (n := 4) (a := 47) (c := 50) (pc' := 33) (l' := [some (.ref 0), some (.int (nI 3)), some (.int i), some (.int (nI 1)), some (.int j), some (.int n), some (.ref 54), none]) (t := []) (σ' := σ) (fun f => rfl) (by omega) (by omega) rfl ?_
  refine pi_ca 3 (m' := 36) (l' := [some (.ref 54)]) (σ' := σ) (pc2 := 40) (l2 := [some (.ref 0), some (.int (nI 3)), some (.int i), some (.int (nI 1)), some (.int j), some (.int n), some (.ref 54), some (.ref 50)]) (t := []) (fun f => rfl) (pi_C_lost3_f hR.k hs1) ?_
  rintro _ _ ⟨rfl, rfl⟩
  refine pi_ct 1 (c := nI 0 = 0) (pc' := 43) (l' := [some (.ref 0), some (.int (nI 3)), some (.int i), some (.int (nI 1)), some (.int j), some (.int n), some (.ref 54), some (.ref 50)]) (st' := []) (σ' := σ) (pc2 := 51) (l2 := [some (.ref 0), some (.int (nI 3)), some (.int i), some (.int (nI 1)), some (.int j), some (.int n), some (.ref 54), some (.ref 50)]) (st2 := []) (σ2 := σ) (fun f => rfl) (by decide) ?_
  refine pi_ca 2 (m' := 36) (l' := [some (.ref 50)]) (σ' := σ) (pc2 := 48) (l2 := [some (.ref 0), some (.int (nI 3)), some (.int i), some (.int (nI 1)), some (.int j), some (.int n), some (.ref 54), some (.ref 50)]) (t := []) (fun f => rfl) (pi_C_lost1_f hR.k ht1) ?_
  rintro _ _ ⟨rfl, rfl⟩
  refine pi_ct 1 (c := nI 0 = 0) (pc' := 57) (l' := [some (.ref 0), some (.int (nI 3)), some (.int i), some (.int (nI 1)), some (.int j), some (.int n), some (.ref 54), some (.ref 50)]) (st' := []) (σ' := σ) (pc2 := 51) (l2 := [some (.ref 0), some (.int (nI 3)), some (.int i), some (.int (nI 1)), some (.int j), some (.int n), some (.ref 54), some (.ref 50)]) (st2 := []) (σ2 := σ) (fun f => rfl) (by decide) ?_
  refine pi_go 2 (pc' := 62) (l' := [some (.ref 0), some (.int (nI 3)), some (.int i), some (.int (nI 1)), some (.int j), some (.int n), some (.ref 54), some (.ref 50)]) (st' := [.int (σ 54 1)]) (σ' := σ) (fun f => rfl) ?_
  refine pi_tp (y := nI (W.fo 3)) (hR.k.p.sf3) ?_
  refine pi_go 2 (pc' := 67) (l' := [some (.ref 0), some (.int (nI 3)), some (.int i), some (.int (nI 1)), some (.int j), some (.int n), some (.ref 54), some (.ref 50)]) (st' := [.int (σ 50 1), .int (nI (W.fo 3))]) (σ' := σ) (fun f => rfl) ?_
  refine pi_tp (y := nI (W.fo 1)) (hR.k.p.sf1) ?_
  refine pi_ct 1 (c := nI (W.fo 3) = nI (W.fo 1)) (pc' := 76) (l' := [some (.ref 0), some (.int (nI 3)), some (.int i), some (.int (nI 1)), some (.int j), some (.int n), some (.ref 54), some (.ref 50)]) (st' := []) (σ' := σ) (pc2 := 70) (l2 := [some (.ref 0), some (.int (nI 3)), some (.int i), some (.int (nI 1)), some (.int j), some (.int n), some (.ref 54), some (.ref 50)]) (st2 := []) (σ2 := σ) (fun f => rfl) (congrArg nI h4) ?_
  refine pi_ca 4 (m' := 39) (l' := [some (.ref 54), some (.int i), some (.int n)]) (σ' := σ) (pc2 := 84) (l2 := [some (.ref 0), some (.int (nI 3)), some (.int i), some (.int (nI 1)), some (.int j), some (.int n), some (.ref 54), some (.ref 50)]) (t := []) (fun f => rfl) (pi_C_hasRun3 hR.k hs1 i n) ?_
  rintro _ _ (⟨b1, rfl, rfl⟩ | ⟨b1, rfl, rfl⟩)
  · refine pi_cf 1 (c := nI 1 = 0) (pc' := 87) (l' := [some (.ref 0), some (.int (nI 3)), some (.int i), some (.int (nI 1)), some (.int j), some (.int n), some (.ref 54), some (.ref 50)]) (st' := []) (σ' := σ) (pc2 := 99) (l2 := [some (.ref 0), some (.int (nI 3)), some (.int i), some (.int (nI 1)), some (.int j), some (.int n), some (.ref 54), some (.ref 50)]) (st2 := []) (σ2 := σ) (fun f => rfl) (by decide) ?_
    refine pi_ca 4 (m' := 39) (l' := [some (.ref 50), some (.int j), some (.int n)]) (σ' := σ) (pc2 := 96) (l2 := [some (.ref 0), some (.int (nI 3)), some (.int i), some (.int (nI 1)), some (.int j), some (.int n), some (.ref 54), some (.ref 50)]) (t := []) (fun f => rfl) (pi_C_hasRun1 hR.k ht1 j n) ?_
    rintro _ _ (⟨b2, rfl, rfl⟩ | ⟨b2, rfl, rfl⟩)
    · refine pi_cf 1 (c := nI 1 = 0) (pc' := 105) (l' := [some (.ref 0), some (.int (nI 3)), some (.int i), some (.int (nI 1)), some (.int j), some (.int n), some (.ref 54), some (.ref 50)]) (st' := []) (σ' := σ) (pc2 := 99) (l2 := [some (.ref 0), some (.int (nI 3)), some (.int i), some (.int (nI 1)), some (.int j), some (.int n), some (.ref 54), some (.ref 50)]) (st2 := []) (σ2 := σ) (fun f => rfl) (by decide) ?_
      exact (hb (z_cp_hr hsi.1 hti.1 b1 b2)).elim
    · refine pi_ct 1 (c := nI 0 = 0) (pc' := 99) (l' := [some (.ref 0), some (.int (nI 3)), some (.int i), some (.int (nI 1)), some (.int j), some (.int n), some (.ref 54), some (.ref 50)]) (st' := []) (σ' := σ) (pc2 := 105) (l2 := [some (.ref 0), some (.int (nI 3)), some (.int i), some (.int (nI 1)), some (.int j), some (.int n), some (.ref 54), some (.ref 50)]) (st2 := []) (σ2 := σ) (fun f => rfl) (by decide) ?_
      refine pi_ca 3 (m' := 96) (l' := [some (.ref 0), some (.int (nI 2))]) (σ' := σ) (pc2 := 104) (l2 := [some (.ref 0), some (.int (nI 3)), some (.int i), some (.int (nI 1)), some (.int j), some (.int n), some (.ref 54), some (.ref 50)]) (t := []) (fun f => rfl) (pi_C_found (nI 2)) ?_
      rintro _ t1 ⟨rfl, et1, kt1, rt1⟩
      refine pi_rt 1 (v := some (.int ((-10) - (nI 2)))) (σ' := t1) (fun f => rfl) ?_
      have hfr : pi_fr [0] t1 σ := pi_fr_tr rt1 (by decide) (pi_fr_rf)
      exact ⟨rfl, hR.fnd (et1) hfr, pi_fr_tr hfr (by decide) pi_fr_rf⟩
  · refine pi_ct 1 (c := nI 0 = 0) (pc' := 99) (l' := [some (.ref 0), some (.int (nI 3)), some (.int i), some (.int (nI 1)), some (.int j), some (.int n), some (.ref 54), some (.ref 50)]) (st' := []) (σ' := σ) (pc2 := 87) (l2 := [some (.ref 0), some (.int (nI 3)), some (.int i), some (.int (nI 1)), some (.int j), some (.int n), some (.ref 54), some (.ref 50)]) (st2 := []) (σ2 := σ) (fun f => rfl) (by decide) ?_
    refine pi_ca 3 (m' := 96) (l' := [some (.ref 0), some (.int (nI 2))]) (σ' := σ) (pc2 := 104) (l2 := [some (.ref 0), some (.int (nI 3)), some (.int i), some (.int (nI 1)), some (.int j), some (.int n), some (.ref 54), some (.ref 50)]) (t := []) (fun f => rfl) (pi_C_found (nI 2)) ?_
    rintro _ t2 ⟨rfl, et2, kt2, rt2⟩
    refine pi_rt 1 (v := some (.int ((-10) - (nI 2)))) (σ' := t2) (fun f => rfl) ?_
    have hfr : pi_fr [0] t2 σ := pi_fr_tr rt2 (by decide) (pi_fr_rf)
    exact ⟨rfl, hR.fnd (et2) hfr, pi_fr_tr hfr (by decide) pi_fr_rf⟩
set_option maxRecDepth 20000 in
theorem pi_X_copy31 {xs : Nat → Int32} {L d : Nat} {W : zW} {σ : pi_S} (hR : z_CR W σ) {i j n : Nat} (hs1 : ¬ W.th 3 = 0) (ht1 : ¬ W.th 1 = 0) (h4 : W.fo 3 = W.fo 1) (hi : i + n ≤ W.si 3) (hj : j + n ≤ W.si 1)  : pi_wp xs L (d + 9) 90 0 [some (.ref 0), some (.int (nI 3)), some (.int (nI i)), some (.int (nI 1)), some (.int (nI j)), some (.int (nI n)), none, none] [] σ (fun v s => v = some (.int (nI 1)) ∧ z_CR (W.sI 9 (pi_lp (fun q f => upd f (48 * 1 + j + q) (W.it (48 * 3 + i + q))) n W.it)) s ∧ pi_fr z_CC s σ) := by
  have hk := hR.k.p.wk
  have hnd8 := hk.wd.nd8
  have hns12 := hk.wd.ns12
  have hn60 := hk.nine
  have hnf := hk.nf
  have hnw := hk.nw
  have hnc := hk.nc
  have hn08 := hk.wd.n0
  have hn140 := hk.wd.n1
  have hsi := hk.si 3 (by omega)
  have hti := hk.si 1 (by omega)
  refine pi_ca 3 (m' := 94) (l' := [some (.int (nI 3)), some (.int (nI 4))]) (σ' := σ) (pc2 := 5) (l2 := [some (.ref 0), some (.int (nI 3)), some (.int (nI i)), some (.int (nI 1)), some (.int (nI j)), some (.int (nI n)), none, none]) (t := []) (fun f => rfl) (pi_below1 _ _ (z_BL (by omega) (by omega))) ?_
  rintro _ _ ⟨rfl, rfl⟩
  refine pi_cf 1 (c := nI 1 = 0) (pc' := 8) (l' := [some (.ref 0), some (.int (nI 3)), some (.int (nI i)), some (.int (nI 1)), some (.int (nI j)), some (.int (nI n)), none, none]) (st' := []) (σ' := σ) (pc2 := 16) (l2 := [some (.ref 0), some (.int (nI 3)), some (.int (nI i)), some (.int (nI 1)), some (.int (nI j)), some (.int (nI n)), none, none]) (st2 := []) (σ2 := σ) (fun f => rfl) (by decide) ?_
  refine pi_ca 3 (m' := 94) (l' := [some (.int (nI 1)), some (.int (nI 4))]) (σ' := σ) (pc2 := 13) (l2 := [some (.ref 0), some (.int (nI 3)), some (.int (nI i)), some (.int (nI 1)), some (.int (nI j)), some (.int (nI n)), none, none]) (t := []) (fun f => rfl) (pi_below1 _ _ (z_BL (by omega) (by omega))) ?_
  rintro _ _ ⟨rfl, rfl⟩
  refine pi_cf 1 (c := nI 1 = 0) (pc' := 19) (l' := [some (.ref 0), some (.int (nI 3)), some (.int (nI i)), some (.int (nI 1)), some (.int (nI j)), some (.int (nI n)), none, none]) (st' := []) (σ' := σ) (pc2 := 16) (l2 := [some (.ref 0), some (.int (nI 3)), some (.int (nI i)), some (.int (nI 1)), some (.int (nI j)), some (.int (nI n)), none, none]) (st2 := []) (σ2 := σ) (fun f => rfl) (by decide) ?_
  refine pi_aq 4 (u := 3) (n := 4) (a := 47) (c := 54) (pc' := 25) (l' := [some (.ref 0), some (.int (nI 3)), some (.int (nI i)), some (.int (nI 1)), some (.int (nI j)), some (.int (nI n)), none, none]) (t := []) (σ' := σ) (fun f => rfl) (by omega) (by omega) rfl ?_
  refine pi_aq 5 (u := 1) (n := 4) (a := 47) (c := 50) (pc' := 33) (l' := [some (.ref 0), some (.int (nI 3)), some (.int (nI i)), some (.int (nI 1)), some (.int (nI j)), some (.int (nI n)), some (.ref 54), none]) (t := []) (σ' := σ) (fun f => rfl) (by omega) (by omega) rfl ?_
  refine pi_ca 3 (m' := 36) (l' := [some (.ref 54)]) (σ' := σ) (pc2 := 40) (l2 := [some (.ref 0), some (.int (nI 3)), some (.int (nI i)), some (.int (nI 1)), some (.int (nI j)), some (.int (nI n)), some (.ref 54), some (.ref 50)]) (t := []) (fun f => rfl) (pi_C_lost3_f hR.k hs1) ?_
  rintro _ _ ⟨rfl, rfl⟩
  refine pi_ct 1 (c := nI 0 = 0) (pc' := 43) (l' := [some (.ref 0), some (.int (nI 3)), some (.int (nI i)), some (.int (nI 1)), some (.int (nI j)), some (.int (nI n)), some (.ref 54), some (.ref 50)]) (st' := []) (σ' := σ) (pc2 := 51) (l2 := [some (.ref 0), some (.int (nI 3)), some (.int (nI i)), some (.int (nI 1)), some (.int (nI j)), some (.int (nI n)), some (.ref 54), some (.ref 50)]) (st2 := []) (σ2 := σ) (fun f => rfl) (by decide) ?_
  refine pi_ca 2 (m' := 36) (l' := [some (.ref 50)]) (σ' := σ) (pc2 := 48) (l2 := [some (.ref 0), some (.int (nI 3)), some (.int (nI i)), some (.int (nI 1)), some (.int (nI j)), some (.int (nI n)), some (.ref 54), some (.ref 50)]) (t := []) (fun f => rfl) (pi_C_lost1_f hR.k ht1) ?_
  rintro _ _ ⟨rfl, rfl⟩
  refine pi_ct 1 (c := nI 0 = 0) (pc' := 57) (l' := [some (.ref 0), some (.int (nI 3)), some (.int (nI i)), some (.int (nI 1)), some (.int (nI j)), some (.int (nI n)), some (.ref 54), some (.ref 50)]) (st' := []) (σ' := σ) (pc2 := 51) (l2 := [some (.ref 0), some (.int (nI 3)), some (.int (nI i)), some (.int (nI 1)), some (.int (nI j)), some (.int (nI n)), some (.ref 54), some (.ref 50)]) (st2 := []) (σ2 := σ) (fun f => rfl) (by decide) ?_
  refine pi_go 2 (pc' := 62) (l' := [some (.ref 0), some (.int (nI 3)), some (.int (nI i)), some (.int (nI 1)), some (.int (nI j)), some (.int (nI n)), some (.ref 54), some (.ref 50)]) (st' := [.int (σ 54 1)]) (σ' := σ) (fun f => rfl) ?_
  refine pi_tp (y := nI (W.fo 3)) (hR.k.p.sf3) ?_
  refine pi_go 2 (pc' := 67) (l' := [some (.ref 0), some (.int (nI 3)), some (.int (nI i)), some (.int (nI 1)), some (.int (nI j)), some (.int (nI n)), some (.ref 54), some (.ref 50)]) (st' := [.int (σ 50 1), .int (nI (W.fo 3))]) (σ' := σ) (fun f => rfl) ?_
  refine pi_tp (y := nI (W.fo 1)) (hR.k.p.sf1) ?_
  refine pi_ct 1 (c := nI (W.fo 3) = nI (W.fo 1)) (pc' := 76) (l' := [some (.ref 0), some (.int (nI 3)), some (.int (nI i)), some (.int (nI 1)), some (.int (nI j)), some (.int (nI n)), some (.ref 54), some (.ref 50)]) (st' := []) (σ' := σ) (pc2 := 70) (l2 := [some (.ref 0), some (.int (nI 3)), some (.int (nI i)), some (.int (nI 1)), some (.int (nI j)), some (.int (nI n)), some (.ref 54), some (.ref 50)]) (st2 := []) (σ2 := σ) (fun f => rfl) (congrArg nI h4) ?_
  refine pi_ca 4 (m' := 39) (l' := [some (.ref 54), some (.int (nI i)), some (.int (nI n))]) (σ' := σ) (pc2 := 84) (l2 := [some (.ref 0), some (.int (nI 3)), some (.int (nI i)), some (.int (nI 1)), some (.int (nI j)), some (.int (nI n)), some (.ref 54), some (.ref 50)]) (t := []) (fun f => rfl) (pi_C_hasRun3T hR.k hs1 ⟨i, n, rfl, rfl, hi⟩) ?_
  rintro _ _ ⟨rfl, rfl⟩
  refine pi_cf 1 (c := nI 1 = 0) (pc' := 87) (l' := [some (.ref 0), some (.int (nI 3)), some (.int (nI i)), some (.int (nI 1)), some (.int (nI j)), some (.int (nI n)), some (.ref 54), some (.ref 50)]) (st' := []) (σ' := σ) (pc2 := 99) (l2 := [some (.ref 0), some (.int (nI 3)), some (.int (nI i)), some (.int (nI 1)), some (.int (nI j)), some (.int (nI n)), some (.ref 54), some (.ref 50)]) (st2 := []) (σ2 := σ) (fun f => rfl) (by decide) ?_
  refine pi_ca 4 (m' := 39) (l' := [some (.ref 50), some (.int (nI j)), some (.int (nI n))]) (σ' := σ) (pc2 := 96) (l2 := [some (.ref 0), some (.int (nI 3)), some (.int (nI i)), some (.int (nI 1)), some (.int (nI j)), some (.int (nI n)), some (.ref 54), some (.ref 50)]) (t := []) (fun f => rfl) (pi_C_hasRun1T hR.k ht1 ⟨j, n, rfl, rfl, hj⟩) ?_
  rintro _ _ ⟨rfl, rfl⟩
  refine pi_cf 1 (c := nI 1 = 0) (pc' := 105) (l' := [some (.ref 0), some (.int (nI 3)), some (.int (nI i)), some (.int (nI 1)), some (.int (nI j)), some (.int (nI n)), some (.ref 54), some (.ref 50)]) (st' := []) (σ' := σ) (pc2 := 99) (l2 := [some (.ref 0), some (.int (nI 3)), some (.int (nI i)), some (.int (nI 1)), some (.int (nI j)), some (.int (nI n)), some (.ref 54), some (.ref 50)]) (st2 := []) (σ2 := σ) (fun f => rfl) (by decide) ?_
  refine pi_go 7 (pc' := 120) (l' := [some (.ref 0), some (.int (nI 3)), some (.int (nI i)), some (.int (nI 1)), some (.int (nI j)), some (.int (nI n)), some (.ref 54), some (.ref 50)]) (st' := [.int (nI n), .int (nI j), .ref 51, .int (nI i), .ref 55]) (σ' := σ) (fun f => rfl) ?_
  refine pi_gd 1 (c := ¬ nI i < 0 ∧ ¬ nI j < 0 ∧ ¬ nI n < 0 ∧ (nI i).toNatClampNeg + (nI n).toNatClampNeg ≤ 48 ∧ (nI j).toNatClampNeg + (nI n).toNatClampNeg ≤ 48) (pc' := 123) (l' := [some (.ref 0), some (.int (nI 3)), some (.int (nI i)), some (.int (nI 1)), some (.int (nI j)), some (.int (nI n)), some (.ref 54), some (.ref 50)]) (st' := []) (σ' := pi_cpy σ 55 51 (nI i).toNatClampNeg (nI j).toNatClampNeg (nI n).toNatClampNeg) (fun f => rfl) ⟨z_ltz (by omega), z_ltz (by omega), z_ltz (by omega), by rw [nI_clamp (by omega), nI_clamp (by omega)]; omega, by rw [nI_clamp (by omega), nI_clamp (by omega)]; omega⟩ ?_
  rw [show (nI i).toNatClampNeg = i from nI_clamp (by omega), show (nI j).toNatClampNeg = j from nI_clamp (by omega), show (nI n).toNatClampNeg = n from nI_clamp (by omega)]
  generalize es1 : pi_cpy σ 55 51 i j n = s1
  have rs1 := pi_cpy_fr es1
  refine pi_rt 2 (v := some (.int (nI 1))) (σ' := s1) (fun f => rfl) ?_
  have hfr : pi_fr [51] s1 σ := pi_fr_tr rs1 (by decide) (pi_fr_rf)
  exact ⟨rfl, hR.it1 (fun q hq => (congrFun (pi_cpy_at es1) q).trans (z_cp_row hR.k.p.si3 hR.k.p.si1 (by omega) (by omega) q hq)) (z_cp_o (by omega)) hfr, pi_fr_tr hfr (by decide) pi_fr_rf⟩
set_option maxRecDepth 20000 in
theorem pi_X_copy32_null1 {xs : Nat → Int32} {L d : Nat} {W : zW} {σ : pi_S} (hR : z_CR W σ) {i j n : Int32} (hs0 : W.th 3 = 0)  : pi_wp xs L (d + 9) 90 0 [some (.ref 0), some (.int (nI 3)), some (.int i), some (.int (nI 2)), some (.int j), some (.int n), none, none] [] σ (fun v s => v = some (.int ((-10) - (nI 1))) ∧ z_CR (W.sS 0 (nI 1)) s ∧ pi_fr z_CC s σ) := by
  have hk := hR.k.p.wk
  have hnd8 := hk.wd.nd8
  have hns12 := hk.wd.ns12
  have hn60 := hk.nine
  have hnf := hk.nf
  have hnw := hk.nw
  have hnc := hk.nc
  have hn08 := hk.wd.n0
  have hn140 := hk.wd.n1
  have hsi := hk.si 3 (by omega)
  have hti := hk.si 2 (by omega)
  refine pi_ca 3 (m' := 94) (l' := [some (.int (nI 3)), some (.int (nI 4))]) (σ' := σ) (pc2 := 5) (l2 := [some (.ref 0), some (.int (nI 3)), some (.int i), some (.int (nI 2)), some (.int j), some (.int n), none, none]) (t := []) (fun f => rfl) (pi_below1 _ _ (z_BL (by omega) (by omega))) ?_
  rintro _ _ ⟨rfl, rfl⟩
  refine pi_cf 1 (c := nI 1 = 0) (pc' := 8) (l' := [some (.ref 0), some (.int (nI 3)), some (.int i), some (.int (nI 2)), some (.int j), some (.int n), none, none]) (st' := []) (σ' := σ) (pc2 := 16) (l2 := [some (.ref 0), some (.int (nI 3)), some (.int i), some (.int (nI 2)), some (.int j), some (.int n), none, none]) (st2 := []) (σ2 := σ) (fun f => rfl) (by decide) ?_
  refine pi_ca 3 (m' := 94) (l' := [some (.int (nI 2)), some (.int (nI 4))]) (σ' := σ) (pc2 := 13) (l2 := [some (.ref 0), some (.int (nI 3)), some (.int i), some (.int (nI 2)), some (.int j), some (.int n), none, none]) (t := []) (fun f => rfl) (pi_below1 _ _ (z_BL (by omega) (by omega))) ?_
  rintro _ _ ⟨rfl, rfl⟩
  refine pi_cf 1 (c := nI 1 = 0) (pc' := 19) (l' := [some (.ref 0), some (.int (nI 3)), some (.int i), some (.int (nI 2)), some (.int j), some (.int n), none, none]) (st' := []) (σ' := σ) (pc2 := 16) (l2 := [some (.ref 0), some (.int (nI 3)), some (.int i), some (.int (nI 2)), some (.int j), some (.int n), none, none]) (st2 := []) (σ2 := σ) (fun f => rfl) (by decide) ?_
  refine pi_aq 4 (u := 3) (n := 4) (a := 47) (c := 54) (pc' := 25) (l' := [some (.ref 0), some (.int (nI 3)), some (.int i), some (.int (nI 2)), some (.int j), some (.int n), none, none]) (t := []) (σ' := σ) (fun f => rfl) (by omega) (by omega) rfl ?_
  refine pi_aq 5 (u := 2) (n := 4) (a := 47) (c := 52) (pc' := 33) (l' := [some (.ref 0), some (.int (nI 3)), some (.int i), some (.int (nI 2)), some (.int j), some (.int n), some (.ref 54), none]) (t := []) (σ' := σ) (fun f => rfl) (by omega) (by omega) rfl ?_
  refine pi_ca 3 (m' := 36) (l' := [some (.ref 54)]) (σ' := σ) (pc2 := 40) (l2 := [some (.ref 0), some (.int (nI 3)), some (.int i), some (.int (nI 2)), some (.int j), some (.int n), some (.ref 54), some (.ref 52)]) (t := []) (fun f => rfl) (pi_C_lost3_t hR.k hs0) ?_
  rintro _ _ ⟨rfl, rfl⟩
  refine pi_cf 1 (c := nI 1 = 0) (pc' := 51) (l' := [some (.ref 0), some (.int (nI 3)), some (.int i), some (.int (nI 2)), some (.int j), some (.int n), some (.ref 54), some (.ref 52)]) (st' := []) (σ' := σ) (pc2 := 43) (l2 := [some (.ref 0), some (.int (nI 3)), some (.int i), some (.int (nI 2)), some (.int j), some (.int n), some (.ref 54), some (.ref 52)]) (st2 := []) (σ2 := σ) (fun f => rfl) (by decide) ?_
  refine pi_ca 3 (m' := 96) (l' := [some (.ref 0), some (.int (nI 1))]) (σ' := σ) (pc2 := 56) (l2 := [some (.ref 0), some (.int (nI 3)), some (.int i), some (.int (nI 2)), some (.int j), some (.int n), some (.ref 54), some (.ref 52)]) (t := []) (fun f => rfl) (pi_C_found (nI 1)) ?_
  rintro _ t1 ⟨rfl, et1, kt1, rt1⟩
  refine pi_rt 1 (v := some (.int ((-10) - (nI 1)))) (σ' := t1) (fun f => rfl) ?_
  have hfr : pi_fr [0] t1 σ := pi_fr_tr rt1 (by decide) (pi_fr_rf)
  exact ⟨rfl, hR.fnd (et1) hfr, pi_fr_tr hfr (by decide) pi_fr_rf⟩
set_option maxRecDepth 20000 in
theorem pi_X_copy32_null2 {xs : Nat → Int32} {L d : Nat} {W : zW} {σ : pi_S} (hR : z_CR W σ) {i j n : Int32} (hs1 : ¬ W.th 3 = 0) (ht0 : W.th 2 = 0)  : pi_wp xs L (d + 9) 90 0 [some (.ref 0), some (.int (nI 3)), some (.int i), some (.int (nI 2)), some (.int j), some (.int n), none, none] [] σ (fun v s => v = some (.int ((-10) - (nI 1))) ∧ z_CR (W.sS 0 (nI 1)) s ∧ pi_fr z_CC s σ) := by
  have hk := hR.k.p.wk
  have hnd8 := hk.wd.nd8
  have hns12 := hk.wd.ns12
  have hn60 := hk.nine
  have hnf := hk.nf
  have hnw := hk.nw
  have hnc := hk.nc
  have hn08 := hk.wd.n0
  have hn140 := hk.wd.n1
  have hsi := hk.si 3 (by omega)
  have hti := hk.si 2 (by omega)
  refine pi_ca 3 (m' := 94) (l' := [some (.int (nI 3)), some (.int (nI 4))]) (σ' := σ) (pc2 := 5) (l2 := [some (.ref 0), some (.int (nI 3)), some (.int i), some (.int (nI 2)), some (.int j), some (.int n), none, none]) (t := []) (fun f => rfl) (pi_below1 _ _ (z_BL (by omega) (by omega))) ?_
  rintro _ _ ⟨rfl, rfl⟩
  refine pi_cf 1 (c := nI 1 = 0) (pc' := 8) (l' := [some (.ref 0), some (.int (nI 3)), some (.int i), some (.int (nI 2)), some (.int j), some (.int n), none, none]) (st' := []) (σ' := σ) (pc2 := 16) (l2 := [some (.ref 0), some (.int (nI 3)), some (.int i), some (.int (nI 2)), some (.int j), some (.int n), none, none]) (st2 := []) (σ2 := σ) (fun f => rfl) (by decide) ?_
  refine pi_ca 3 (m' := 94) (l' := [some (.int (nI 2)), some (.int (nI 4))]) (σ' := σ) (pc2 := 13) (l2 := [some (.ref 0), some (.int (nI 3)), some (.int i), some (.int (nI 2)), some (.int j), some (.int n), none, none]) (t := []) (fun f => rfl) (pi_below1 _ _ (z_BL (by omega) (by omega))) ?_
  rintro _ _ ⟨rfl, rfl⟩
  refine pi_cf 1 (c := nI 1 = 0) (pc' := 19) (l' := [some (.ref 0), some (.int (nI 3)), some (.int i), some (.int (nI 2)), some (.int j), some (.int n), none, none]) (st' := []) (σ' := σ) (pc2 := 16) (l2 := [some (.ref 0), some (.int (nI 3)), some (.int i), some (.int (nI 2)), some (.int j), some (.int n), none, none]) (st2 := []) (σ2 := σ) (fun f => rfl) (by decide) ?_
  refine pi_aq 4 (u := 3) (n := 4) (a := 47) (c := 54) (pc' := 25) (l' := [some (.ref 0), some (.int (nI 3)), some (.int i), some (.int (nI 2)), some (.int j), some (.int n), none, none]) (t := []) (σ' := σ) (fun f => rfl) (by omega) (by omega) rfl ?_
  refine pi_aq 5 (u := 2) (n := 4) (a := 47) (c := 52) (pc' := 33) (l' := [some (.ref 0), some (.int (nI 3)), some (.int i), some (.int (nI 2)), some (.int j), some (.int n), some (.ref 54), none]) (t := []) (σ' := σ) (fun f => rfl) (by omega) (by omega) rfl ?_
  refine pi_ca 3 (m' := 36) (l' := [some (.ref 54)]) (σ' := σ) (pc2 := 40) (l2 := [some (.ref 0), some (.int (nI 3)), some (.int i), some (.int (nI 2)), some (.int j), some (.int n), some (.ref 54), some (.ref 52)]) (t := []) (fun f => rfl) (pi_C_lost3_f hR.k hs1) ?_
  rintro _ _ ⟨rfl, rfl⟩
  refine pi_ct 1 (c := nI 0 = 0) (pc' := 43) (l' := [some (.ref 0), some (.int (nI 3)), some (.int i), some (.int (nI 2)), some (.int j), some (.int n), some (.ref 54), some (.ref 52)]) (st' := []) (σ' := σ) (pc2 := 51) (l2 := [some (.ref 0), some (.int (nI 3)), some (.int i), some (.int (nI 2)), some (.int j), some (.int n), some (.ref 54), some (.ref 52)]) (st2 := []) (σ2 := σ) (fun f => rfl) (by decide) ?_
  refine pi_ca 2 (m' := 36) (l' := [some (.ref 52)]) (σ' := σ) (pc2 := 48) (l2 := [some (.ref 0), some (.int (nI 3)), some (.int i), some (.int (nI 2)), some (.int j), some (.int n), some (.ref 54), some (.ref 52)]) (t := []) (fun f => rfl) (pi_C_lost2_t hR.k ht0) ?_
  rintro _ _ ⟨rfl, rfl⟩
  refine pi_cf 1 (c := nI 1 = 0) (pc' := 51) (l' := [some (.ref 0), some (.int (nI 3)), some (.int i), some (.int (nI 2)), some (.int j), some (.int n), some (.ref 54), some (.ref 52)]) (st' := []) (σ' := σ) (pc2 := 57) (l2 := [some (.ref 0), some (.int (nI 3)), some (.int i), some (.int (nI 2)), some (.int j), some (.int n), some (.ref 54), some (.ref 52)]) (st2 := []) (σ2 := σ) (fun f => rfl) (by decide) ?_
  refine pi_ca 3 (m' := 96) (l' := [some (.ref 0), some (.int (nI 1))]) (σ' := σ) (pc2 := 56) (l2 := [some (.ref 0), some (.int (nI 3)), some (.int i), some (.int (nI 2)), some (.int j), some (.int n), some (.ref 54), some (.ref 52)]) (t := []) (fun f => rfl) (pi_C_found (nI 1)) ?_
  rintro _ t1 ⟨rfl, et1, kt1, rt1⟩
  refine pi_rt 1 (v := some (.int ((-10) - (nI 1)))) (σ' := t1) (fun f => rfl) ?_
  have hfr : pi_fr [0] t1 σ := pi_fr_tr rt1 (by decide) (pi_fr_rf)
  exact ⟨rfl, hR.fnd (et1) hfr, pi_fr_tr hfr (by decide) pi_fr_rf⟩
set_option maxRecDepth 20000 in
theorem pi_X_copy32_store {xs : Nat → Int32} {L d : Nat} {W : zW} {σ : pi_S} (hR : z_CR W σ) {i j n : Int32} (hs1 : ¬ W.th 3 = 0) (ht1 : ¬ W.th 2 = 0) (h4 : ¬ W.fo 3 = W.fo 2)  : pi_wp xs L (d + 9) 90 0 [some (.ref 0), some (.int (nI 3)), some (.int i), some (.int (nI 2)), some (.int j), some (.int n), none, none] [] σ (fun v s => v = some (.int ((-10) - (nI 4))) ∧ z_CR (W.sS 0 (nI 4)) s ∧ pi_fr z_CC s σ) := by
  have hk := hR.k.p.wk
  have hnd8 := hk.wd.nd8
  have hns12 := hk.wd.ns12
  have hn60 := hk.nine
  have hnf := hk.nf
  have hnw := hk.nw
  have hnc := hk.nc
  have hn08 := hk.wd.n0
  have hn140 := hk.wd.n1
  have hsi := hk.si 3 (by omega)
  have hti := hk.si 2 (by omega)
  refine pi_ca 3 (m' := 94) (l' := [some (.int (nI 3)), some (.int (nI 4))]) (σ' := σ) (pc2 := 5) (l2 := [some (.ref 0), some (.int (nI 3)), some (.int i), some (.int (nI 2)), some (.int j), some (.int n), none, none]) (t := []) (fun f => rfl) (pi_below1 _ _ (z_BL (by omega) (by omega))) ?_
  rintro _ _ ⟨rfl, rfl⟩
  refine pi_cf 1 (c := nI 1 = 0) (pc' := 8) (l' := [some (.ref 0), some (.int (nI 3)), some (.int i), some (.int (nI 2)), some (.int j), some (.int n), none, none]) (st' := []) (σ' := σ) (pc2 := 16) (l2 := [some (.ref 0), some (.int (nI 3)), some (.int i), some (.int (nI 2)), some (.int j), some (.int n), none, none]) (st2 := []) (σ2 := σ) (fun f => rfl) (by decide) ?_
  refine pi_ca 3 (m' := 94) (l' := [some (.int (nI 2)), some (.int (nI 4))]) (σ' := σ) (pc2 := 13) (l2 := [some (.ref 0), some (.int (nI 3)), some (.int i), some (.int (nI 2)), some (.int j), some (.int n), none, none]) (t := []) (fun f => rfl) (pi_below1 _ _ (z_BL (by omega) (by omega))) ?_
  rintro _ _ ⟨rfl, rfl⟩
  refine pi_cf 1 (c := nI 1 = 0) (pc' := 19) (l' := [some (.ref 0), some (.int (nI 3)), some (.int i), some (.int (nI 2)), some (.int j), some (.int n), none, none]) (st' := []) (σ' := σ) (pc2 := 16) (l2 := [some (.ref 0), some (.int (nI 3)), some (.int i), some (.int (nI 2)), some (.int j), some (.int n), none, none]) (st2 := []) (σ2 := σ) (fun f => rfl) (by decide) ?_
  refine pi_aq 4 (u := 3) (n := 4) (a := 47) (c := 54) (pc' := 25) (l' := [some (.ref 0), some (.int (nI 3)), some (.int i), some (.int (nI 2)), some (.int j), some (.int n), none, none]) (t := []) (σ' := σ) (fun f => rfl) (by omega) (by omega) rfl ?_
  refine pi_aq 5 (u := 2) (n := 4) (a := 47) (c := 52) (pc' := 33) (l' := [some (.ref 0), some (.int (nI 3)), some (.int i), some (.int (nI 2)), some (.int j), some (.int n), some (.ref 54), none]) (t := []) (σ' := σ) (fun f => rfl) (by omega) (by omega) rfl ?_
  refine pi_ca 3 (m' := 36) (l' := [some (.ref 54)]) (σ' := σ) (pc2 := 40) (l2 := [some (.ref 0), some (.int (nI 3)), some (.int i), some (.int (nI 2)), some (.int j), some (.int n), some (.ref 54), some (.ref 52)]) (t := []) (fun f => rfl) (pi_C_lost3_f hR.k hs1) ?_
  rintro _ _ ⟨rfl, rfl⟩
  refine pi_ct 1 (c := nI 0 = 0) (pc' := 43) (l' := [some (.ref 0), some (.int (nI 3)), some (.int i), some (.int (nI 2)), some (.int j), some (.int n), some (.ref 54), some (.ref 52)]) (st' := []) (σ' := σ) (pc2 := 51) (l2 := [some (.ref 0), some (.int (nI 3)), some (.int i), some (.int (nI 2)), some (.int j), some (.int n), some (.ref 54), some (.ref 52)]) (st2 := []) (σ2 := σ) (fun f => rfl) (by decide) ?_
  refine pi_ca 2 (m' := 36) (l' := [some (.ref 52)]) (σ' := σ) (pc2 := 48) (l2 := [some (.ref 0), some (.int (nI 3)), some (.int i), some (.int (nI 2)), some (.int j), some (.int n), some (.ref 54), some (.ref 52)]) (t := []) (fun f => rfl) (pi_C_lost2_f hR.k ht1) ?_
  rintro _ _ ⟨rfl, rfl⟩
  refine pi_ct 1 (c := nI 0 = 0) (pc' := 57) (l' := [some (.ref 0), some (.int (nI 3)), some (.int i), some (.int (nI 2)), some (.int j), some (.int n), some (.ref 54), some (.ref 52)]) (st' := []) (σ' := σ) (pc2 := 51) (l2 := [some (.ref 0), some (.int (nI 3)), some (.int i), some (.int (nI 2)), some (.int j), some (.int n), some (.ref 54), some (.ref 52)]) (st2 := []) (σ2 := σ) (fun f => rfl) (by decide) ?_
  refine pi_go 2 (pc' := 62) (l' := [some (.ref 0), some (.int (nI 3)), some (.int i), some (.int (nI 2)), some (.int j), some (.int n), some (.ref 54), some (.ref 52)]) (st' := [.int (σ 54 1)]) (σ' := σ) (fun f => rfl) ?_
  refine pi_tp (y := nI (W.fo 3)) (hR.k.p.sf3) ?_
  refine pi_go 2 (pc' := 67) (l' := [some (.ref 0), some (.int (nI 3)), some (.int i), some (.int (nI 2)), some (.int j), some (.int n), some (.ref 54), some (.ref 52)]) (st' := [.int (σ 52 1), .int (nI (W.fo 3))]) (σ' := σ) (fun f => rfl) ?_
  refine pi_tp (y := nI (W.fo 2)) (hR.k.p.sf2) ?_
  refine pi_cf 1 (c := nI (W.fo 3) = nI (W.fo 2)) (pc' := 70) (l' := [some (.ref 0), some (.int (nI 3)), some (.int i), some (.int (nI 2)), some (.int j), some (.int n), some (.ref 54), some (.ref 52)]) (st' := []) (σ' := σ) (pc2 := 76) (l2 := [some (.ref 0), some (.int (nI 3)), some (.int i), some (.int (nI 2)), some (.int j), some (.int n), some (.ref 54), some (.ref 52)]) (st2 := []) (σ2 := σ) (fun f => rfl) (fun q => h4 ((nI_eq (by omega) (by omega)).mp q)) ?_
  refine pi_ca 3 (m' := 96) (l' := [some (.ref 0), some (.int (nI 4))]) (σ' := σ) (pc2 := 75) (l2 := [some (.ref 0), some (.int (nI 3)), some (.int i), some (.int (nI 2)), some (.int j), some (.int n), some (.ref 54), some (.ref 52)]) (t := []) (fun f => rfl) (pi_C_found (nI 4)) ?_
  rintro _ t1 ⟨rfl, et1, kt1, rt1⟩
  refine pi_rt 1 (v := some (.int ((-10) - (nI 4)))) (σ' := t1) (fun f => rfl) ?_
  have hfr : pi_fr [0] t1 σ := pi_fr_tr rt1 (by decide) (pi_fr_rf)
  exact ⟨rfl, hR.fnd (et1) hfr, pi_fr_tr hfr (by decide) pi_fr_rf⟩
set_option maxRecDepth 20000 in
theorem pi_X_copy32_index {xs : Nat → Int32} {L d : Nat} {W : zW} {σ : pi_S} (hR : z_CR W σ) {i j n : Int32} (hs1 : ¬ W.th 3 = 0) (ht1 : ¬ W.th 2 = 0) (h4 : W.fo 3 = W.fo 2) (hb : ¬ z_cp W 3 2 i j n)  : pi_wp xs L (d + 9) 90 0 [some (.ref 0), some (.int (nI 3)), some (.int i), some (.int (nI 2)), some (.int j), some (.int n), none, none] [] σ (fun v s => v = some (.int ((-10) - (nI 2))) ∧ z_CR (W.sS 0 (nI 2)) s ∧ pi_fr z_CC s σ) := by
  have hk := hR.k.p.wk
  have hnd8 := hk.wd.nd8
  have hns12 := hk.wd.ns12
  have hn60 := hk.nine
  have hnf := hk.nf
  have hnw := hk.nw
  have hnc := hk.nc
  have hn08 := hk.wd.n0
  have hn140 := hk.wd.n1
  have hsi := hk.si 3 (by omega)
  have hti := hk.si 2 (by omega)
  refine pi_ca 3 (m' := 94) (l' := [some (.int (nI 3)), some (.int (nI 4))]) (σ' := σ) (pc2 := 5) (l2 := [some (.ref 0), some (.int (nI 3)), some (.int i), some (.int (nI 2)), some (.int j), some (.int n), none, none]) (t := []) (fun f => rfl) (pi_below1 _ _ (z_BL (by omega) (by omega))) ?_
  rintro _ _ ⟨rfl, rfl⟩
  refine pi_cf 1 (c := nI 1 = 0) (pc' := 8) (l' := [some (.ref 0), some (.int (nI 3)), some (.int i), some (.int (nI 2)), some (.int j), some (.int n), none, none]) (st' := []) (σ' := σ) (pc2 := 16) (l2 := [some (.ref 0), some (.int (nI 3)), some (.int i), some (.int (nI 2)), some (.int j), some (.int n), none, none]) (st2 := []) (σ2 := σ) (fun f => rfl) (by decide) ?_
  refine pi_ca 3 (m' := 94) (l' := [some (.int (nI 2)), some (.int (nI 4))]) (σ' := σ) (pc2 := 13) (l2 := [some (.ref 0), some (.int (nI 3)), some (.int i), some (.int (nI 2)), some (.int j), some (.int n), none, none]) (t := []) (fun f => rfl) (pi_below1 _ _ (z_BL (by omega) (by omega))) ?_
  rintro _ _ ⟨rfl, rfl⟩
  refine pi_cf 1 (c := nI 1 = 0) (pc' := 19) (l' := [some (.ref 0), some (.int (nI 3)), some (.int i), some (.int (nI 2)), some (.int j), some (.int n), none, none]) (st' := []) (σ' := σ) (pc2 := 16) (l2 := [some (.ref 0), some (.int (nI 3)), some (.int i), some (.int (nI 2)), some (.int j), some (.int n), none, none]) (st2 := []) (σ2 := σ) (fun f => rfl) (by decide) ?_
  refine pi_aq 4 (u := 3) (n := 4) (a := 47) (c := 54) (pc' := 25) (l' := [some (.ref 0), some (.int (nI 3)), some (.int i), some (.int (nI 2)), some (.int j), some (.int n), none, none]) (t := []) (σ' := σ) (fun f => rfl) (by omega) (by omega) rfl ?_
  refine pi_aq 5 (u := 2) (n := 4) (a := 47) (c := 52) (pc' := 33) (l' := [some (.ref 0), some (.int (nI 3)), some (.int i), some (.int (nI 2)), some (.int j), some (.int n), some (.ref 54), none]) (t := []) (σ' := σ) (fun f => rfl) (by omega) (by omega) rfl ?_
  refine pi_ca 3 (m' := 36) (l' := [some (.ref 54)]) (σ' := σ) (pc2 := 40) (l2 := [some (.ref 0), some (.int (nI 3)), some (.int i), some (.int (nI 2)), some (.int j), some (.int n), some (.ref 54), some (.ref 52)]) (t := []) (fun f => rfl) (pi_C_lost3_f hR.k hs1) ?_
  rintro _ _ ⟨rfl, rfl⟩
  refine pi_ct 1 (c := nI 0 = 0) (pc' := 43) (l' := [some (.ref 0), some (.int (nI 3)), some (.int i), some (.int (nI 2)), some (.int j), some (.int n), some (.ref 54), some (.ref 52)]) (st' := []) (σ' := σ) (pc2 := 51) (l2 := [some (.ref 0), some (.int (nI 3)), some (.int i), some (.int (nI 2)), some (.int j), some (.int n), some (.ref 54), some (.ref 52)]) (st2 := []) (σ2 := σ) (fun f => rfl) (by decide) ?_
  refine pi_ca 2 (m' := 36) (l' := [some (.ref 52)]) (σ' := σ) (pc2 := 48) (l2 := [some (.ref 0), some (.int (nI 3)), some (.int i), some (.int (nI 2)), some (.int j), some (.int n), some (.ref 54), some (.ref 52)]) (t := []) (fun f => rfl) (pi_C_lost2_f hR.k ht1) ?_
  rintro _ _ ⟨rfl, rfl⟩
  refine pi_ct 1 (c := nI 0 = 0) (pc' := 57) (l' := [some (.ref 0), some (.int (nI 3)), some (.int i), some (.int (nI 2)), some (.int j), some (.int n), some (.ref 54), some (.ref 52)]) (st' := []) (σ' := σ) (pc2 := 51) (l2 := [some (.ref 0), some (.int (nI 3)), some (.int i), some (.int (nI 2)), some (.int j), some (.int n), some (.ref 54), some (.ref 52)]) (st2 := []) (σ2 := σ) (fun f => rfl) (by decide) ?_
  refine pi_go 2 (pc' := 62) (l' := [some (.ref 0), some (.int (nI 3)), some (.int i), some (.int (nI 2)), some (.int j), some (.int n), some (.ref 54), some (.ref 52)]) (st' := [.int (σ 54 1)]) (σ' := σ) (fun f => rfl) ?_
  refine pi_tp (y := nI (W.fo 3)) (hR.k.p.sf3) ?_
  refine pi_go 2 (pc' := 67) (l' := [some (.ref 0), some (.int (nI 3)), some (.int i), some (.int (nI 2)), some (.int j), some (.int n), some (.ref 54), some (.ref 52)]) (st' := [.int (σ 52 1), .int (nI (W.fo 3))]) (σ' := σ) (fun f => rfl) ?_
  refine pi_tp (y := nI (W.fo 2)) (hR.k.p.sf2) ?_
  refine pi_ct 1 (c := nI (W.fo 3) = nI (W.fo 2)) (pc' := 76) (l' := [some (.ref 0), some (.int (nI 3)), some (.int i), some (.int (nI 2)), some (.int j), some (.int n), some (.ref 54), some (.ref 52)]) (st' := []) (σ' := σ) (pc2 := 70) (l2 := [some (.ref 0), some (.int (nI 3)), some (.int i), some (.int (nI 2)), some (.int j), some (.int n), some (.ref 54), some (.ref 52)]) (st2 := []) (σ2 := σ) (fun f => rfl) (congrArg nI h4) ?_
  refine pi_ca 4 (m' := 39) (l' := [some (.ref 54), some (.int i), some (.int n)]) (σ' := σ) (pc2 := 84) (l2 := [some (.ref 0), some (.int (nI 3)), some (.int i), some (.int (nI 2)), some (.int j), some (.int n), some (.ref 54), some (.ref 52)]) (t := []) (fun f => rfl) (pi_C_hasRun3 hR.k hs1 i n) ?_
  rintro _ _ (⟨b1, rfl, rfl⟩ | ⟨b1, rfl, rfl⟩)
  · refine pi_cf 1 (c := nI 1 = 0) (pc' := 87) (l' := [some (.ref 0), some (.int (nI 3)), some (.int i), some (.int (nI 2)), some (.int j), some (.int n), some (.ref 54), some (.ref 52)]) (st' := []) (σ' := σ) (pc2 := 99) (l2 := [some (.ref 0), some (.int (nI 3)), some (.int i), some (.int (nI 2)), some (.int j), some (.int n), some (.ref 54), some (.ref 52)]) (st2 := []) (σ2 := σ) (fun f => rfl) (by decide) ?_
    refine pi_ca 4 (m' := 39) (l' := [some (.ref 52), some (.int j), some (.int n)]) (σ' := σ) (pc2 := 96) (l2 := [some (.ref 0), some (.int (nI 3)), some (.int i), some (.int (nI 2)), some (.int j), some (.int n), some (.ref 54), some (.ref 52)]) (t := []) (fun f => rfl) (pi_C_hasRun2 hR.k ht1 j n) ?_
    rintro _ _ (⟨b2, rfl, rfl⟩ | ⟨b2, rfl, rfl⟩)
    · refine pi_cf 1 (c := nI 1 = 0) (pc' := 105) (l' := [some (.ref 0), some (.int (nI 3)), some (.int i), some (.int (nI 2)), some (.int j), some (.int n), some (.ref 54), some (.ref 52)]) (st' := []) (σ' := σ) (pc2 := 99) (l2 := [some (.ref 0), some (.int (nI 3)), some (.int i), some (.int (nI 2)), some (.int j), some (.int n), some (.ref 54), some (.ref 52)]) (st2 := []) (σ2 := σ) (fun f => rfl) (by decide) ?_
      exact (hb (z_cp_hr hsi.1 hti.1 b1 b2)).elim
    · refine pi_ct 1 (c := nI 0 = 0) (pc' := 99) (l' := [some (.ref 0), some (.int (nI 3)), some (.int i), some (.int (nI 2)), some (.int j), some (.int n), some (.ref 54), some (.ref 52)]) (st' := []) (σ' := σ) (pc2 := 105) (l2 := [some (.ref 0), some (.int (nI 3)), some (.int i), some (.int (nI 2)), some (.int j), some (.int n), some (.ref 54), some (.ref 52)]) (st2 := []) (σ2 := σ) (fun f => rfl) (by decide) ?_
      refine pi_ca 3 (m' := 96) (l' := [some (.ref 0), some (.int (nI 2))]) (σ' := σ) (pc2 := 104) (l2 := [some (.ref 0), some (.int (nI 3)), some (.int i), some (.int (nI 2)), some (.int j), some (.int n), some (.ref 54), some (.ref 52)]) (t := []) (fun f => rfl) (pi_C_found (nI 2)) ?_
      rintro _ t1 ⟨rfl, et1, kt1, rt1⟩
      refine pi_rt 1 (v := some (.int ((-10) - (nI 2)))) (σ' := t1) (fun f => rfl) ?_
      have hfr : pi_fr [0] t1 σ := pi_fr_tr rt1 (by decide) (pi_fr_rf)
      exact ⟨rfl, hR.fnd (et1) hfr, pi_fr_tr hfr (by decide) pi_fr_rf⟩
  · refine pi_ct 1 (c := nI 0 = 0) (pc' := 99) (l' := [some (.ref 0), some (.int (nI 3)), some (.int i), some (.int (nI 2)), some (.int j), some (.int n), some (.ref 54), some (.ref 52)]) (st' := []) (σ' := σ) (pc2 := 87) (l2 := [some (.ref 0), some (.int (nI 3)), some (.int i), some (.int (nI 2)), some (.int j), some (.int n), some (.ref 54), some (.ref 52)]) (st2 := []) (σ2 := σ) (fun f => rfl) (by decide) ?_
    refine pi_ca 3 (m' := 96) (l' := [some (.ref 0), some (.int (nI 2))]) (σ' := σ) (pc2 := 104) (l2 := [some (.ref 0), some (.int (nI 3)), some (.int i), some (.int (nI 2)), some (.int j), some (.int n), some (.ref 54), some (.ref 52)]) (t := []) (fun f => rfl) (pi_C_found (nI 2)) ?_
    rintro _ t2 ⟨rfl, et2, kt2, rt2⟩
    refine pi_rt 1 (v := some (.int ((-10) - (nI 2)))) (σ' := t2) (fun f => rfl) ?_
    have hfr : pi_fr [0] t2 σ := pi_fr_tr rt2 (by decide) (pi_fr_rf)
    exact ⟨rfl, hR.fnd (et2) hfr, pi_fr_tr hfr (by decide) pi_fr_rf⟩
set_option maxRecDepth 20000 in
theorem pi_X_copy32 {xs : Nat → Int32} {L d : Nat} {W : zW} {σ : pi_S} (hR : z_CR W σ) {i j n : Nat} (hs1 : ¬ W.th 3 = 0) (ht1 : ¬ W.th 2 = 0) (h4 : W.fo 3 = W.fo 2) (hi : i + n ≤ W.si 3) (hj : j + n ≤ W.si 2)  : pi_wp xs L (d + 9) 90 0 [some (.ref 0), some (.int (nI 3)), some (.int (nI i)), some (.int (nI 2)), some (.int (nI j)), some (.int (nI n)), none, none] [] σ (fun v s => v = some (.int (nI 1)) ∧ z_CR (W.sI 9 (pi_lp (fun q f => upd f (48 * 2 + j + q) (W.it (48 * 3 + i + q))) n W.it)) s ∧ pi_fr z_CC s σ) := by
  have hk := hR.k.p.wk
  have hnd8 := hk.wd.nd8
  have hns12 := hk.wd.ns12
  have hn60 := hk.nine
  have hnf := hk.nf
  have hnw := hk.nw
  have hnc := hk.nc
  have hn08 := hk.wd.n0
  have hn140 := hk.wd.n1
  have hsi := hk.si 3 (by omega)
  have hti := hk.si 2 (by omega)
  refine pi_ca 3 (m' := 94) (l' := [some (.int (nI 3)), some (.int (nI 4))]) (σ' := σ) (pc2 := 5) (l2 := [some (.ref 0), some (.int (nI 3)), some (.int (nI i)), some (.int (nI 2)), some (.int (nI j)), some (.int (nI n)), none, none]) (t := []) (fun f => rfl) (pi_below1 _ _ (z_BL (by omega) (by omega))) ?_
  rintro _ _ ⟨rfl, rfl⟩
  refine pi_cf 1 (c := nI 1 = 0) (pc' := 8) (l' := [some (.ref 0), some (.int (nI 3)), some (.int (nI i)), some (.int (nI 2)), some (.int (nI j)), some (.int (nI n)), none, none]) (st' := []) (σ' := σ) (pc2 := 16) (l2 := [some (.ref 0), some (.int (nI 3)), some (.int (nI i)), some (.int (nI 2)), some (.int (nI j)), some (.int (nI n)), none, none]) (st2 := []) (σ2 := σ) (fun f => rfl) (by decide) ?_
  refine pi_ca 3 (m' := 94) (l' := [some (.int (nI 2)), some (.int (nI 4))]) (σ' := σ) (pc2 := 13) (l2 := [some (.ref 0), some (.int (nI 3)), some (.int (nI i)), some (.int (nI 2)), some (.int (nI j)), some (.int (nI n)), none, none]) (t := []) (fun f => rfl) (pi_below1 _ _ (z_BL (by omega) (by omega))) ?_
  rintro _ _ ⟨rfl, rfl⟩
  refine pi_cf 1 (c := nI 1 = 0) (pc' := 19) (l' := [some (.ref 0), some (.int (nI 3)), some (.int (nI i)), some (.int (nI 2)), some (.int (nI j)), some (.int (nI n)), none, none]) (st' := []) (σ' := σ) (pc2 := 16) (l2 := [some (.ref 0), some (.int (nI 3)), some (.int (nI i)), some (.int (nI 2)), some (.int (nI j)), some (.int (nI n)), none, none]) (st2 := []) (σ2 := σ) (fun f => rfl) (by decide) ?_
  refine pi_aq 4 (u := 3) (n := 4) (a := 47) (c := 54) (pc' := 25) (l' := [some (.ref 0), some (.int (nI 3)), some (.int (nI i)), some (.int (nI 2)), some (.int (nI j)), some (.int (nI n)), none, none]) (t := []) (σ' := σ) (fun f => rfl) (by omega) (by omega) rfl ?_
  refine pi_aq 5 (u := 2) (n := 4) (a := 47) (c := 52) (pc' := 33) (l' := [some (.ref 0), some (.int (nI 3)), some (.int (nI i)), some (.int (nI 2)), some (.int (nI j)), some (.int (nI n)), some (.ref 54), none]) (t := []) (σ' := σ) (fun f => rfl) (by omega) (by omega) rfl ?_
  refine pi_ca 3 (m' := 36) (l' := [some (.ref 54)]) (σ' := σ) (pc2 := 40) (l2 := [some (.ref 0), some (.int (nI 3)), some (.int (nI i)), some (.int (nI 2)), some (.int (nI j)), some (.int (nI n)), some (.ref 54), some (.ref 52)]) (t := []) (fun f => rfl) (pi_C_lost3_f hR.k hs1) ?_
  rintro _ _ ⟨rfl, rfl⟩
  refine pi_ct 1 (c := nI 0 = 0) (pc' := 43) (l' := [some (.ref 0), some (.int (nI 3)), some (.int (nI i)), some (.int (nI 2)), some (.int (nI j)), some (.int (nI n)), some (.ref 54), some (.ref 52)]) (st' := []) (σ' := σ) (pc2 := 51) (l2 := [some (.ref 0), some (.int (nI 3)), some (.int (nI i)), some (.int (nI 2)), some (.int (nI j)), some (.int (nI n)), some (.ref 54), some (.ref 52)]) (st2 := []) (σ2 := σ) (fun f => rfl) (by decide) ?_
  refine pi_ca 2 (m' := 36) (l' := [some (.ref 52)]) (σ' := σ) (pc2 := 48) (l2 := [some (.ref 0), some (.int (nI 3)), some (.int (nI i)), some (.int (nI 2)), some (.int (nI j)), some (.int (nI n)), some (.ref 54), some (.ref 52)]) (t := []) (fun f => rfl) (pi_C_lost2_f hR.k ht1) ?_
  rintro _ _ ⟨rfl, rfl⟩
  refine pi_ct 1 (c := nI 0 = 0) (pc' := 57) (l' := [some (.ref 0), some (.int (nI 3)), some (.int (nI i)), some (.int (nI 2)), some (.int (nI j)), some (.int (nI n)), some (.ref 54), some (.ref 52)]) (st' := []) (σ' := σ) (pc2 := 51) (l2 := [some (.ref 0), some (.int (nI 3)), some (.int (nI i)), some (.int (nI 2)), some (.int (nI j)), some (.int (nI n)), some (.ref 54), some (.ref 52)]) (st2 := []) (σ2 := σ) (fun f => rfl) (by decide) ?_
  refine pi_go 2 (pc' := 62) (l' := [some (.ref 0), some (.int (nI 3)), some (.int (nI i)), some (.int (nI 2)), some (.int (nI j)), some (.int (nI n)), some (.ref 54), some (.ref 52)]) (st' := [.int (σ 54 1)]) (σ' := σ) (fun f => rfl) ?_
  refine pi_tp (y := nI (W.fo 3)) (hR.k.p.sf3) ?_
  refine pi_go 2 (pc' := 67) (l' := [some (.ref 0), some (.int (nI 3)), some (.int (nI i)), some (.int (nI 2)), some (.int (nI j)), some (.int (nI n)), some (.ref 54), some (.ref 52)]) (st' := [.int (σ 52 1), .int (nI (W.fo 3))]) (σ' := σ) (fun f => rfl) ?_
  refine pi_tp (y := nI (W.fo 2)) (hR.k.p.sf2) ?_
  refine pi_ct 1 (c := nI (W.fo 3) = nI (W.fo 2)) (pc' := 76) (l' := [some (.ref 0), some (.int (nI 3)), some (.int (nI i)), some (.int (nI 2)), some (.int (nI j)), some (.int (nI n)), some (.ref 54), some (.ref 52)]) (st' := []) (σ' := σ) (pc2 := 70) (l2 := [some (.ref 0), some (.int (nI 3)), some (.int (nI i)), some (.int (nI 2)), some (.int (nI j)), some (.int (nI n)), some (.ref 54), some (.ref 52)]) (st2 := []) (σ2 := σ) (fun f => rfl) (congrArg nI h4) ?_
  refine pi_ca 4 (m' := 39) (l' := [some (.ref 54), some (.int (nI i)), some (.int (nI n))]) (σ' := σ) (pc2 := 84) (l2 := [some (.ref 0), some (.int (nI 3)), some (.int (nI i)), some (.int (nI 2)), some (.int (nI j)), some (.int (nI n)), some (.ref 54), some (.ref 52)]) (t := []) (fun f => rfl) (pi_C_hasRun3T hR.k hs1 ⟨i, n, rfl, rfl, hi⟩) ?_
  rintro _ _ ⟨rfl, rfl⟩
  refine pi_cf 1 (c := nI 1 = 0) (pc' := 87) (l' := [some (.ref 0), some (.int (nI 3)), some (.int (nI i)), some (.int (nI 2)), some (.int (nI j)), some (.int (nI n)), some (.ref 54), some (.ref 52)]) (st' := []) (σ' := σ) (pc2 := 99) (l2 := [some (.ref 0), some (.int (nI 3)), some (.int (nI i)), some (.int (nI 2)), some (.int (nI j)), some (.int (nI n)), some (.ref 54), some (.ref 52)]) (st2 := []) (σ2 := σ) (fun f => rfl) (by decide) ?_
  refine pi_ca 4 (m' := 39) (l' := [some (.ref 52), some (.int (nI j)), some (.int (nI n))]) (σ' := σ) (pc2 := 96) (l2 := [some (.ref 0), some (.int (nI 3)), some (.int (nI i)), some (.int (nI 2)), some (.int (nI j)), some (.int (nI n)), some (.ref 54), some (.ref 52)]) (t := []) (fun f => rfl) (pi_C_hasRun2T hR.k ht1 ⟨j, n, rfl, rfl, hj⟩) ?_
  rintro _ _ ⟨rfl, rfl⟩
  refine pi_cf 1 (c := nI 1 = 0) (pc' := 105) (l' := [some (.ref 0), some (.int (nI 3)), some (.int (nI i)), some (.int (nI 2)), some (.int (nI j)), some (.int (nI n)), some (.ref 54), some (.ref 52)]) (st' := []) (σ' := σ) (pc2 := 99) (l2 := [some (.ref 0), some (.int (nI 3)), some (.int (nI i)), some (.int (nI 2)), some (.int (nI j)), some (.int (nI n)), some (.ref 54), some (.ref 52)]) (st2 := []) (σ2 := σ) (fun f => rfl) (by decide) ?_
  refine pi_go 7 (pc' := 120) (l' := [some (.ref 0), some (.int (nI 3)), some (.int (nI i)), some (.int (nI 2)), some (.int (nI j)), some (.int (nI n)), some (.ref 54), some (.ref 52)]) (st' := [.int (nI n), .int (nI j), .ref 53, .int (nI i), .ref 55]) (σ' := σ) (fun f => rfl) ?_
  refine pi_gd 1 (c := ¬ nI i < 0 ∧ ¬ nI j < 0 ∧ ¬ nI n < 0 ∧ (nI i).toNatClampNeg + (nI n).toNatClampNeg ≤ 48 ∧ (nI j).toNatClampNeg + (nI n).toNatClampNeg ≤ 48) (pc' := 123) (l' := [some (.ref 0), some (.int (nI 3)), some (.int (nI i)), some (.int (nI 2)), some (.int (nI j)), some (.int (nI n)), some (.ref 54), some (.ref 52)]) (st' := []) (σ' := pi_cpy σ 55 53 (nI i).toNatClampNeg (nI j).toNatClampNeg (nI n).toNatClampNeg) (fun f => rfl) ⟨z_ltz (by omega), z_ltz (by omega), z_ltz (by omega), by rw [nI_clamp (by omega), nI_clamp (by omega)]; omega, by rw [nI_clamp (by omega), nI_clamp (by omega)]; omega⟩ ?_
  rw [show (nI i).toNatClampNeg = i from nI_clamp (by omega), show (nI j).toNatClampNeg = j from nI_clamp (by omega), show (nI n).toNatClampNeg = n from nI_clamp (by omega)]
  generalize es1 : pi_cpy σ 55 53 i j n = s1
  have rs1 := pi_cpy_fr es1
  refine pi_rt 2 (v := some (.int (nI 1))) (σ' := s1) (fun f => rfl) ?_
  have hfr : pi_fr [53] s1 σ := pi_fr_tr rs1 (by decide) (pi_fr_rf)
  exact ⟨rfl, hR.it2 (fun q hq => (congrFun (pi_cpy_at es1) q).trans (z_cp_row hR.k.p.si3 hR.k.p.si2 (by omega) (by omega) q hq)) (z_cp_o (by omega)) hfr, pi_fr_tr hfr (by decide) pi_fr_rf⟩
set_option maxRecDepth 20000 in
theorem pi_X_copy33_null1 {xs : Nat → Int32} {L d : Nat} {W : zW} {σ : pi_S} (hR : z_CR W σ) {i j n : Int32} (hs0 : W.th 3 = 0)  : pi_wp xs L (d + 9) 90 0 [some (.ref 0), some (.int (nI 3)), some (.int i), some (.int (nI 3)), some (.int j), some (.int n), none, none] [] σ (fun v s => v = some (.int ((-10) - (nI 1))) ∧ z_CR (W.sS 0 (nI 1)) s ∧ pi_fr z_CC s σ) := by
  have hk := hR.k.p.wk
  have hnd8 := hk.wd.nd8
  have hns12 := hk.wd.ns12
  have hn60 := hk.nine
  have hnf := hk.nf
  have hnw := hk.nw
  have hnc := hk.nc
  have hn08 := hk.wd.n0
  have hn140 := hk.wd.n1
  have hsi := hk.si 3 (by omega)
  have hti := hk.si 3 (by omega)
  refine pi_ca 3 (m' := 94) (l' := [some (.int (nI 3)), some (.int (nI 4))]) (σ' := σ) (pc2 := 5) (l2 := [some (.ref 0), some (.int (nI 3)), some (.int i), some (.int (nI 3)), some (.int j), some (.int n), none, none]) (t := []) (fun f => rfl) (pi_below1 _ _ (z_BL (by omega) (by omega))) ?_
  rintro _ _ ⟨rfl, rfl⟩
  refine pi_cf 1 (c := nI 1 = 0) (pc' := 8) (l' := [some (.ref 0), some (.int (nI 3)), some (.int i), some (.int (nI 3)), some (.int j), some (.int n), none, none]) (st' := []) (σ' := σ) (pc2 := 16) (l2 := [some (.ref 0), some (.int (nI 3)), some (.int i), some (.int (nI 3)), some (.int j), some (.int n), none, none]) (st2 := []) (σ2 := σ) (fun f => rfl) (by decide) ?_
  refine pi_ca 3 (m' := 94) (l' := [some (.int (nI 3)), some (.int (nI 4))]) (σ' := σ) (pc2 := 13) (l2 := [some (.ref 0), some (.int (nI 3)), some (.int i), some (.int (nI 3)), some (.int j), some (.int n), none, none]) (t := []) (fun f => rfl) (pi_below1 _ _ (z_BL (by omega) (by omega))) ?_
  rintro _ _ ⟨rfl, rfl⟩
  refine pi_cf 1 (c := nI 1 = 0) (pc' := 19) (l' := [some (.ref 0), some (.int (nI 3)), some (.int i), some (.int (nI 3)), some (.int j), some (.int n), none, none]) (st' := []) (σ' := σ) (pc2 := 16) (l2 := [some (.ref 0), some (.int (nI 3)), some (.int i), some (.int (nI 3)), some (.int j), some (.int n), none, none]) (st2 := []) (σ2 := σ) (fun f => rfl) (by decide) ?_
  refine pi_aq 4 (u := 3) (n := 4) (a := 47) (c := 54) (pc' := 25) (l' := [some (.ref 0), some (.int (nI 3)), some (.int i), some (.int (nI 3)), some (.int j), some (.int n), none, none]) (t := []) (σ' := σ) (fun f => rfl) (by omega) (by omega) rfl ?_
  refine pi_aq 5 (u := 3) (n := 4) (a := 47) (c := 54) (pc' := 33) (l' := [some (.ref 0), some (.int (nI 3)), some (.int i), some (.int (nI 3)), some (.int j), some (.int n), some (.ref 54), none]) (t := []) (σ' := σ) (fun f => rfl) (by omega) (by omega) rfl ?_
  refine pi_ca 3 (m' := 36) (l' := [some (.ref 54)]) (σ' := σ) (pc2 := 40) (l2 := [some (.ref 0), some (.int (nI 3)), some (.int i), some (.int (nI 3)), some (.int j), some (.int n), some (.ref 54), some (.ref 54)]) (t := []) (fun f => rfl) (pi_C_lost3_t hR.k hs0) ?_
  rintro _ _ ⟨rfl, rfl⟩
  refine pi_cf 1 (c := nI 1 = 0) (pc' := 51) (l' := [some (.ref 0), some (.int (nI 3)), some (.int i), some (.int (nI 3)), some (.int j), some (.int n), some (.ref 54), some (.ref 54)]) (st' := []) (σ' := σ) (pc2 := 43) (l2 := [some (.ref 0), some (.int (nI 3)), some (.int i), some (.int (nI 3)), some (.int j), some (.int n), some (.ref 54), some (.ref 54)]) (st2 := []) (σ2 := σ) (fun f => rfl) (by decide) ?_
  refine pi_ca 3 (m' := 96) (l' := [some (.ref 0), some (.int (nI 1))]) (σ' := σ) (pc2 := 56) (l2 := [some (.ref 0), some (.int (nI 3)), some (.int i), some (.int (nI 3)), some (.int j), some (.int n), some (.ref 54), some (.ref 54)]) (t := []) (fun f => rfl) (pi_C_found (nI 1)) ?_
  rintro _ t1 ⟨rfl, et1, kt1, rt1⟩
  refine pi_rt 1 (v := some (.int ((-10) - (nI 1)))) (σ' := t1) (fun f => rfl) ?_
  have hfr : pi_fr [0] t1 σ := pi_fr_tr rt1 (by decide) (pi_fr_rf)
  exact ⟨rfl, hR.fnd (et1) hfr, pi_fr_tr hfr (by decide) pi_fr_rf⟩
set_option maxRecDepth 20000 in
theorem pi_X_copy33_index {xs : Nat → Int32} {L d : Nat} {W : zW} {σ : pi_S} (hR : z_CR W σ) {i j n : Int32} (hs1 : ¬ W.th 3 = 0) (ht1 : ¬ W.th 3 = 0) (h4 : W.fo 3 = W.fo 3) (hb : ¬ z_cp W 3 3 i j n)  : pi_wp xs L (d + 9) 90 0 [some (.ref 0), some (.int (nI 3)), some (.int i), some (.int (nI 3)), some (.int j), some (.int n), none, none] [] σ (fun v s => v = some (.int ((-10) - (nI 2))) ∧ z_CR (W.sS 0 (nI 2)) s ∧ pi_fr z_CC s σ) := by
  have hk := hR.k.p.wk
  have hnd8 := hk.wd.nd8
  have hns12 := hk.wd.ns12
  have hn60 := hk.nine
  have hnf := hk.nf
  have hnw := hk.nw
  have hnc := hk.nc
  have hn08 := hk.wd.n0
  have hn140 := hk.wd.n1
  have hsi := hk.si 3 (by omega)
  have hti := hk.si 3 (by omega)
  refine pi_ca 3 (m' := 94) (l' := [some (.int (nI 3)), some (.int (nI 4))]) (σ' := σ) (pc2 := 5) (l2 := [some (.ref 0), some (.int (nI 3)), some (.int i), some (.int (nI 3)), some (.int j), some (.int n), none, none]) (t := []) (fun f => rfl) (pi_below1 _ _ (z_BL (by omega) (by omega))) ?_
  rintro _ _ ⟨rfl, rfl⟩
  refine pi_cf 1 (c := nI 1 = 0) (pc' := 8) (l' := [some (.ref 0), some (.int (nI 3)), some (.int i), some (.int (nI 3)), some (.int j), some (.int n), none, none]) (st' := []) (σ' := σ) (pc2 := 16) (l2 := [some (.ref 0), some (.int (nI 3)), some (.int i), some (.int (nI 3)), some (.int j), some (.int n), none, none]) (st2 := []) (σ2 := σ) (fun f => rfl) (by decide) ?_
  refine pi_ca 3 (m' := 94) (l' := [some (.int (nI 3)), some (.int (nI 4))]) (σ' := σ) (pc2 := 13) (l2 := [some (.ref 0), some (.int (nI 3)), some (.int i), some (.int (nI 3)), some (.int j), some (.int n), none, none]) (t := []) (fun f => rfl) (pi_below1 _ _ (z_BL (by omega) (by omega))) ?_
  rintro _ _ ⟨rfl, rfl⟩
  refine pi_cf 1 (c := nI 1 = 0) (pc' := 19) (l' := [some (.ref 0), some (.int (nI 3)), some (.int i), some (.int (nI 3)), some (.int j), some (.int n), none, none]) (st' := []) (σ' := σ) (pc2 := 16) (l2 := [some (.ref 0), some (.int (nI 3)), some (.int i), some (.int (nI 3)), some (.int j), some (.int n), none, none]) (st2 := []) (σ2 := σ) (fun f => rfl) (by decide) ?_
  refine pi_aq 4 (u := 3) (n := 4) (a := 47) (c := 54) (pc' := 25) (l' := [some (.ref 0), some (.int (nI 3)), some (.int i), some (.int (nI 3)), some (.int j), some (.int n), none, none]) (t := []) (σ' := σ) (fun f => rfl) (by omega) (by omega) rfl ?_
  refine pi_aq 5 (u := 3) (n := 4) (a := 47) (c := 54) (pc' := 33) (l' := [some (.ref 0), some (.int (nI 3)), some (.int i), some (.int (nI 3)), some (.int j), some (.int n), some (.ref 54), none]) (t := []) (σ' := σ) (fun f => rfl) (by omega) (by omega) rfl ?_
  refine pi_ca 3 (m' := 36) (l' := [some (.ref 54)]) (σ' := σ) (pc2 := 40) (l2 := [some (.ref 0), some (.int (nI 3)), some (.int i), some (.int (nI 3)), some (.int j), some (.int n), some (.ref 54), some (.ref 54)]) (t := []) (fun f => rfl) (pi_C_lost3_f hR.k hs1) ?_
  rintro _ _ ⟨rfl, rfl⟩
  refine pi_ct 1 (c := nI 0 = 0) (pc' := 43) (l' := [some (.ref 0), some (.int (nI 3)), some (.int i), some (.int (nI 3)), some (.int j), some (.int n), some (.ref 54), some (.ref 54)]) (st' := []) (σ' := σ) (pc2 := 51) (l2 := [some (.ref 0), some (.int (nI 3)), some (.int i), some (.int (nI 3)), some (.int j), some (.int n), some (.ref 54), some (.ref 54)]) (st2 := []) (σ2 := σ) (fun f => rfl) (by decide) ?_
  refine pi_ca 2 (m' := 36) (l' := [some (.ref 54)]) (σ' := σ) (pc2 := 48) (l2 := [some (.ref 0), some (.int (nI 3)), some (.int i), some (.int (nI 3)), some (.int j), some (.int n), some (.ref 54), some (.ref 54)]) (t := []) (fun f => rfl) (pi_C_lost3_f hR.k hs1) ?_
  rintro _ _ ⟨rfl, rfl⟩
  refine pi_ct 1 (c := nI 0 = 0) (pc' := 57) (l' := [some (.ref 0), some (.int (nI 3)), some (.int i), some (.int (nI 3)), some (.int j), some (.int n), some (.ref 54), some (.ref 54)]) (st' := []) (σ' := σ) (pc2 := 51) (l2 := [some (.ref 0), some (.int (nI 3)), some (.int i), some (.int (nI 3)), some (.int j), some (.int n), some (.ref 54), some (.ref 54)]) (st2 := []) (σ2 := σ) (fun f => rfl) (by decide) ?_
  refine pi_go 2 (pc' := 62) (l' := [some (.ref 0), some (.int (nI 3)), some (.int i), some (.int (nI 3)), some (.int j), some (.int n), some (.ref 54), some (.ref 54)]) (st' := [.int (σ 54 1)]) (σ' := σ) (fun f => rfl) ?_
  refine pi_tp (y := nI (W.fo 3)) (hR.k.p.sf3) ?_
  refine pi_go 2 (pc' := 67) (l' := [some (.ref 0), some (.int (nI 3)), some (.int i), some (.int (nI 3)), some (.int j), some (.int n), some (.ref 54), some (.ref 54)]) (st' := [.int (σ 54 1), .int (nI (W.fo 3))]) (σ' := σ) (fun f => rfl) ?_
  refine pi_tp (y := nI (W.fo 3)) (hR.k.p.sf3) ?_
  refine pi_ct 1 (c := nI (W.fo 3) = nI (W.fo 3)) (pc' := 76) (l' := [some (.ref 0), some (.int (nI 3)), some (.int i), some (.int (nI 3)), some (.int j), some (.int n), some (.ref 54), some (.ref 54)]) (st' := []) (σ' := σ) (pc2 := 70) (l2 := [some (.ref 0), some (.int (nI 3)), some (.int i), some (.int (nI 3)), some (.int j), some (.int n), some (.ref 54), some (.ref 54)]) (st2 := []) (σ2 := σ) (fun f => rfl) ((show nI (W.fo 3) = nI (W.fo 3) ↔ _ from nI_eq (by omega) (by omega)).mpr (by omega)) ?_
  refine pi_ca 4 (m' := 39) (l' := [some (.ref 54), some (.int i), some (.int n)]) (σ' := σ) (pc2 := 84) (l2 := [some (.ref 0), some (.int (nI 3)), some (.int i), some (.int (nI 3)), some (.int j), some (.int n), some (.ref 54), some (.ref 54)]) (t := []) (fun f => rfl) (pi_C_hasRun3 hR.k hs1 i n) ?_
  rintro _ _ (⟨b1, rfl, rfl⟩ | ⟨b1, rfl, rfl⟩)
  · refine pi_cf 1 (c := nI 1 = 0) (pc' := 87) (l' := [some (.ref 0), some (.int (nI 3)), some (.int i), some (.int (nI 3)), some (.int j), some (.int n), some (.ref 54), some (.ref 54)]) (st' := []) (σ' := σ) (pc2 := 99) (l2 := [some (.ref 0), some (.int (nI 3)), some (.int i), some (.int (nI 3)), some (.int j), some (.int n), some (.ref 54), some (.ref 54)]) (st2 := []) (σ2 := σ) (fun f => rfl) (by decide) ?_
    refine pi_ca 4 (m' := 39) (l' := [some (.ref 54), some (.int j), some (.int n)]) (σ' := σ) (pc2 := 96) (l2 := [some (.ref 0), some (.int (nI 3)), some (.int i), some (.int (nI 3)), some (.int j), some (.int n), some (.ref 54), some (.ref 54)]) (t := []) (fun f => rfl) (pi_C_hasRun3 hR.k hs1 j n) ?_
    rintro _ _ (⟨b2, rfl, rfl⟩ | ⟨b2, rfl, rfl⟩)
    · refine pi_cf 1 (c := nI 1 = 0) (pc' := 105) (l' := [some (.ref 0), some (.int (nI 3)), some (.int i), some (.int (nI 3)), some (.int j), some (.int n), some (.ref 54), some (.ref 54)]) (st' := []) (σ' := σ) (pc2 := 99) (l2 := [some (.ref 0), some (.int (nI 3)), some (.int i), some (.int (nI 3)), some (.int j), some (.int n), some (.ref 54), some (.ref 54)]) (st2 := []) (σ2 := σ) (fun f => rfl) (by decide) ?_
      exact (hb (z_cp_hr hsi.1 hti.1 b1 b2)).elim
    · refine pi_ct 1 (c := nI 0 = 0) (pc' := 99) (l' := [some (.ref 0), some (.int (nI 3)), some (.int i), some (.int (nI 3)), some (.int j), some (.int n), some (.ref 54), some (.ref 54)]) (st' := []) (σ' := σ) (pc2 := 105) (l2 := [some (.ref 0), some (.int (nI 3)), some (.int i), some (.int (nI 3)), some (.int j), some (.int n), some (.ref 54), some (.ref 54)]) (st2 := []) (σ2 := σ) (fun f => rfl) (by decide) ?_
      refine pi_ca 3 (m' := 96) (l' := [some (.ref 0), some (.int (nI 2))]) (σ' := σ) (pc2 := 104) (l2 := [some (.ref 0), some (.int (nI 3)), some (.int i), some (.int (nI 3)), some (.int j), some (.int n), some (.ref 54), some (.ref 54)]) (t := []) (fun f => rfl) (pi_C_found (nI 2)) ?_
      rintro _ t1 ⟨rfl, et1, kt1, rt1⟩
      refine pi_rt 1 (v := some (.int ((-10) - (nI 2)))) (σ' := t1) (fun f => rfl) ?_
      have hfr : pi_fr [0] t1 σ := pi_fr_tr rt1 (by decide) (pi_fr_rf)
      exact ⟨rfl, hR.fnd (et1) hfr, pi_fr_tr hfr (by decide) pi_fr_rf⟩
  · refine pi_ct 1 (c := nI 0 = 0) (pc' := 99) (l' := [some (.ref 0), some (.int (nI 3)), some (.int i), some (.int (nI 3)), some (.int j), some (.int n), some (.ref 54), some (.ref 54)]) (st' := []) (σ' := σ) (pc2 := 87) (l2 := [some (.ref 0), some (.int (nI 3)), some (.int i), some (.int (nI 3)), some (.int j), some (.int n), some (.ref 54), some (.ref 54)]) (st2 := []) (σ2 := σ) (fun f => rfl) (by decide) ?_
    refine pi_ca 3 (m' := 96) (l' := [some (.ref 0), some (.int (nI 2))]) (σ' := σ) (pc2 := 104) (l2 := [some (.ref 0), some (.int (nI 3)), some (.int i), some (.int (nI 3)), some (.int j), some (.int n), some (.ref 54), some (.ref 54)]) (t := []) (fun f => rfl) (pi_C_found (nI 2)) ?_
    rintro _ t2 ⟨rfl, et2, kt2, rt2⟩
    refine pi_rt 1 (v := some (.int ((-10) - (nI 2)))) (σ' := t2) (fun f => rfl) ?_
    have hfr : pi_fr [0] t2 σ := pi_fr_tr rt2 (by decide) (pi_fr_rf)
    exact ⟨rfl, hR.fnd (et2) hfr, pi_fr_tr hfr (by decide) pi_fr_rf⟩
set_option maxRecDepth 20000 in
theorem pi_X_copy33 {xs : Nat → Int32} {L d : Nat} {W : zW} {σ : pi_S} (hR : z_CR W σ) {i j n : Nat} (hs1 : ¬ W.th 3 = 0) (ht1 : ¬ W.th 3 = 0) (h4 : W.fo 3 = W.fo 3) (hi : i + n ≤ W.si 3) (hj : j + n ≤ W.si 3)  : pi_wp xs L (d + 9) 90 0 [some (.ref 0), some (.int (nI 3)), some (.int (nI i)), some (.int (nI 3)), some (.int (nI j)), some (.int (nI n)), none, none] [] σ (fun v s => v = some (.int (nI 1)) ∧ z_CR (W.sI 9 (pi_lp (fun q f => upd f (48 * 3 + j + q) (W.it (48 * 3 + i + q))) n W.it)) s ∧ pi_fr z_CC s σ) := by
  have hk := hR.k.p.wk
  have hnd8 := hk.wd.nd8
  have hns12 := hk.wd.ns12
  have hn60 := hk.nine
  have hnf := hk.nf
  have hnw := hk.nw
  have hnc := hk.nc
  have hn08 := hk.wd.n0
  have hn140 := hk.wd.n1
  have hsi := hk.si 3 (by omega)
  have hti := hk.si 3 (by omega)
  refine pi_ca 3 (m' := 94) (l' := [some (.int (nI 3)), some (.int (nI 4))]) (σ' := σ) (pc2 := 5) (l2 := [some (.ref 0), some (.int (nI 3)), some (.int (nI i)), some (.int (nI 3)), some (.int (nI j)), some (.int (nI n)), none, none]) (t := []) (fun f => rfl) (pi_below1 _ _ (z_BL (by omega) (by omega))) ?_
  rintro _ _ ⟨rfl, rfl⟩
  refine pi_cf 1 (c := nI 1 = 0) (pc' := 8) (l' := [some (.ref 0), some (.int (nI 3)), some (.int (nI i)), some (.int (nI 3)), some (.int (nI j)), some (.int (nI n)), none, none]) (st' := []) (σ' := σ) (pc2 := 16) (l2 := [some (.ref 0), some (.int (nI 3)), some (.int (nI i)), some (.int (nI 3)), some (.int (nI j)), some (.int (nI n)), none, none]) (st2 := []) (σ2 := σ) (fun f => rfl) (by decide) ?_
  refine pi_ca 3 (m' := 94) (l' := [some (.int (nI 3)), some (.int (nI 4))]) (σ' := σ) (pc2 := 13) (l2 := [some (.ref 0), some (.int (nI 3)), some (.int (nI i)), some (.int (nI 3)), some (.int (nI j)), some (.int (nI n)), none, none]) (t := []) (fun f => rfl) (pi_below1 _ _ (z_BL (by omega) (by omega))) ?_
  rintro _ _ ⟨rfl, rfl⟩
  refine pi_cf 1 (c := nI 1 = 0) (pc' := 19) (l' := [some (.ref 0), some (.int (nI 3)), some (.int (nI i)), some (.int (nI 3)), some (.int (nI j)), some (.int (nI n)), none, none]) (st' := []) (σ' := σ) (pc2 := 16) (l2 := [some (.ref 0), some (.int (nI 3)), some (.int (nI i)), some (.int (nI 3)), some (.int (nI j)), some (.int (nI n)), none, none]) (st2 := []) (σ2 := σ) (fun f => rfl) (by decide) ?_
  refine pi_aq 4 (u := 3) (n := 4) (a := 47) (c := 54) (pc' := 25) (l' := [some (.ref 0), some (.int (nI 3)), some (.int (nI i)), some (.int (nI 3)), some (.int (nI j)), some (.int (nI n)), none, none]) (t := []) (σ' := σ) (fun f => rfl) (by omega) (by omega) rfl ?_
  refine pi_aq 5 (u := 3) (n := 4) (a := 47) (c := 54) (pc' := 33) (l' := [some (.ref 0), some (.int (nI 3)), some (.int (nI i)), some (.int (nI 3)), some (.int (nI j)), some (.int (nI n)), some (.ref 54), none]) (t := []) (σ' := σ) (fun f => rfl) (by omega) (by omega) rfl ?_
  refine pi_ca 3 (m' := 36) (l' := [some (.ref 54)]) (σ' := σ) (pc2 := 40) (l2 := [some (.ref 0), some (.int (nI 3)), some (.int (nI i)), some (.int (nI 3)), some (.int (nI j)), some (.int (nI n)), some (.ref 54), some (.ref 54)]) (t := []) (fun f => rfl) (pi_C_lost3_f hR.k hs1) ?_
  rintro _ _ ⟨rfl, rfl⟩
  refine pi_ct 1 (c := nI 0 = 0) (pc' := 43) (l' := [some (.ref 0), some (.int (nI 3)), some (.int (nI i)), some (.int (nI 3)), some (.int (nI j)), some (.int (nI n)), some (.ref 54), some (.ref 54)]) (st' := []) (σ' := σ) (pc2 := 51) (l2 := [some (.ref 0), some (.int (nI 3)), some (.int (nI i)), some (.int (nI 3)), some (.int (nI j)), some (.int (nI n)), some (.ref 54), some (.ref 54)]) (st2 := []) (σ2 := σ) (fun f => rfl) (by decide) ?_
  refine pi_ca 2 (m' := 36) (l' := [some (.ref 54)]) (σ' := σ) (pc2 := 48) (l2 := [some (.ref 0), some (.int (nI 3)), some (.int (nI i)), some (.int (nI 3)), some (.int (nI j)), some (.int (nI n)), some (.ref 54), some (.ref 54)]) (t := []) (fun f => rfl) (pi_C_lost3_f hR.k hs1) ?_
  rintro _ _ ⟨rfl, rfl⟩
  refine pi_ct 1 (c := nI 0 = 0) (pc' := 57) (l' := [some (.ref 0), some (.int (nI 3)), some (.int (nI i)), some (.int (nI 3)), some (.int (nI j)), some (.int (nI n)), some (.ref 54), some (.ref 54)]) (st' := []) (σ' := σ) (pc2 := 51) (l2 := [some (.ref 0), some (.int (nI 3)), some (.int (nI i)), some (.int (nI 3)), some (.int (nI j)), some (.int (nI n)), some (.ref 54), some (.ref 54)]) (st2 := []) (σ2 := σ) (fun f => rfl) (by decide) ?_
  refine pi_go 2 (pc' := 62) (l' := [some (.ref 0), some (.int (nI 3)), some (.int (nI i)), some (.int (nI 3)), some (.int (nI j)), some (.int (nI n)), some (.ref 54), some (.ref 54)]) (st' := [.int (σ 54 1)]) (σ' := σ) (fun f => rfl) ?_
  refine pi_tp (y := nI (W.fo 3)) (hR.k.p.sf3) ?_
  refine pi_go 2 (pc' := 67) (l' := [some (.ref 0), some (.int (nI 3)), some (.int (nI i)), some (.int (nI 3)), some (.int (nI j)), some (.int (nI n)), some (.ref 54), some (.ref 54)]) (st' := [.int (σ 54 1), .int (nI (W.fo 3))]) (σ' := σ) (fun f => rfl) ?_
  refine pi_tp (y := nI (W.fo 3)) (hR.k.p.sf3) ?_
  refine pi_ct 1 (c := nI (W.fo 3) = nI (W.fo 3)) (pc' := 76) (l' := [some (.ref 0), some (.int (nI 3)), some (.int (nI i)), some (.int (nI 3)), some (.int (nI j)), some (.int (nI n)), some (.ref 54), some (.ref 54)]) (st' := []) (σ' := σ) (pc2 := 70) (l2 := [some (.ref 0), some (.int (nI 3)), some (.int (nI i)), some (.int (nI 3)), some (.int (nI j)), some (.int (nI n)), some (.ref 54), some (.ref 54)]) (st2 := []) (σ2 := σ) (fun f => rfl) ((show nI (W.fo 3) = nI (W.fo 3) ↔ _ from nI_eq (by omega) (by omega)).mpr (by omega)) ?_
  refine pi_ca 4 (m' := 39) (l' := [some (.ref 54), some (.int (nI i)), some (.int (nI n))]) (σ' := σ) (pc2 := 84) (l2 := [some (.ref 0), some (.int (nI 3)), some (.int (nI i)), some (.int (nI 3)), some (.int (nI j)), some (.int (nI n)), some (.ref 54), some (.ref 54)]) (t := []) (fun f => rfl) (pi_C_hasRun3T hR.k hs1 ⟨i, n, rfl, rfl, hi⟩) ?_
  rintro _ _ ⟨rfl, rfl⟩
  refine pi_cf 1 (c := nI 1 = 0) (pc' := 87) (l' := [some (.ref 0), some (.int (nI 3)), some (.int (nI i)), some (.int (nI 3)), some (.int (nI j)), some (.int (nI n)), some (.ref 54), some (.ref 54)]) (st' := []) (σ' := σ) (pc2 := 99) (l2 := [some (.ref 0), some (.int (nI 3)), some (.int (nI i)), some (.int (nI 3)), some (.int (nI j)), some (.int (nI n)), some (.ref 54), some (.ref 54)]) (st2 := []) (σ2 := σ) (fun f => rfl) (by decide) ?_
  refine pi_ca 4 (m' := 39) (l' := [some (.ref 54), some (.int (nI j)), some (.int (nI n))]) (σ' := σ) (pc2 := 96) (l2 := [some (.ref 0), some (.int (nI 3)), some (.int (nI i)), some (.int (nI 3)), some (.int (nI j)), some (.int (nI n)), some (.ref 54), some (.ref 54)]) (t := []) (fun f => rfl) (pi_C_hasRun3T hR.k hs1 ⟨j, n, rfl, rfl, hj⟩) ?_
  rintro _ _ ⟨rfl, rfl⟩
  refine pi_cf 1 (c := nI 1 = 0) (pc' := 105) (l' := [some (.ref 0), some (.int (nI 3)), some (.int (nI i)), some (.int (nI 3)), some (.int (nI j)), some (.int (nI n)), some (.ref 54), some (.ref 54)]) (st' := []) (σ' := σ) (pc2 := 99) (l2 := [some (.ref 0), some (.int (nI 3)), some (.int (nI i)), some (.int (nI 3)), some (.int (nI j)), some (.int (nI n)), some (.ref 54), some (.ref 54)]) (st2 := []) (σ2 := σ) (fun f => rfl) (by decide) ?_
  refine pi_go 7 (pc' := 120) (l' := [some (.ref 0), some (.int (nI 3)), some (.int (nI i)), some (.int (nI 3)), some (.int (nI j)), some (.int (nI n)), some (.ref 54), some (.ref 54)]) (st' := [.int (nI n), .int (nI j), .ref 55, .int (nI i), .ref 55]) (σ' := σ) (fun f => rfl) ?_
  refine pi_gd 1 (c := ¬ nI i < 0 ∧ ¬ nI j < 0 ∧ ¬ nI n < 0 ∧ (nI i).toNatClampNeg + (nI n).toNatClampNeg ≤ 48 ∧ (nI j).toNatClampNeg + (nI n).toNatClampNeg ≤ 48) (pc' := 123) (l' := [some (.ref 0), some (.int (nI 3)), some (.int (nI i)), some (.int (nI 3)), some (.int (nI j)), some (.int (nI n)), some (.ref 54), some (.ref 54)]) (st' := []) (σ' := pi_cpy σ 55 55 (nI i).toNatClampNeg (nI j).toNatClampNeg (nI n).toNatClampNeg) (fun f => rfl) ⟨z_ltz (by omega), z_ltz (by omega), z_ltz (by omega), by rw [nI_clamp (by omega), nI_clamp (by omega)]; omega, by rw [nI_clamp (by omega), nI_clamp (by omega)]; omega⟩ ?_
  rw [show (nI i).toNatClampNeg = i from nI_clamp (by omega), show (nI j).toNatClampNeg = j from nI_clamp (by omega), show (nI n).toNatClampNeg = n from nI_clamp (by omega)]
  generalize es1 : pi_cpy σ 55 55 i j n = s1
  have rs1 := pi_cpy_fr es1
  refine pi_rt 2 (v := some (.int (nI 1))) (σ' := s1) (fun f => rfl) ?_
  have hfr : pi_fr [55] s1 σ := pi_fr_tr rs1 (by decide) (pi_fr_rf)
  exact ⟨rfl, hR.it3 (fun q hq => (congrFun (pi_cpy_at es1) q).trans (z_cp_row hR.k.p.si3 hR.k.p.si3 (by omega) (by omega) q hq)) (z_cp_o (by omega)) hfr, pi_fr_tr hfr (by decide) pi_fr_rf⟩
