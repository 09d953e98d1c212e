set_option maxRecDepth 20000 in
theorem pi_P_fine_bad {xs : Nat → Int32} {L d : Nat} {W : zW} {σ : pi_S} (hm : z_MR W σ) {a : Int32} (hb : ¬ (a = -1 ∨ z_B W.nd a))  : pi_wp xs L (d + 9) 138 0 [some (.ref 56), some (.int a)] [] σ (fun v s => v = some (.int (-2)) ∧ z_MR W s ∧ pi_fr z_RC s σ) := by
  have hk := hm.wk
  have hnd8 := hk.wd.nd8
  have hns12 := hk.wd.ns12
  have hn60 := hk.nine
  have hnf := hk.nf
  have hnw := hk.nw
  have hnc := hk.nc
  have hn08 := hk.wd.n0
  have hn140 := hk.wd.n1
  refine pi_if 3 (c := a = (-1)) (pc' := 13) (l' := [some (.ref 56), some (.int a)]) (st' := []) (σ' := σ) (pc2 := 5) (l2 := [some (.ref 56), some (.int a)]) (st2 := []) (σ2 := σ) (fun f => rfl) (fun h1 => ?_) (fun h1 => ?_)
  · exact (hb (Or.inl h1)).elim
  · refine pi_ca 3 (m' := 113) (l' := [some (.ref 56), some (.int a)]) (σ' := σ) (pc2 := 10) (l2 := [some (.ref 56), some (.int a)]) (t := []) (fun f => rfl) (pi_M_isDoor hm a) ?_
    rintro _ t1 (⟨b2, rfl, gt1, rt1⟩ | ⟨b2, rfl, gt1, rt1⟩)
    · refine pi_cf 1 (c := nI 1 = 0) (pc' := 13) (l' := [some (.ref 56), some (.int a)]) (st' := []) (σ' := t1) (pc2 := 21) (l2 := [some (.ref 56), some (.int a)]) (st2 := []) (σ2 := t1) (fun f => rfl) (by decide) ?_
      exact (hb (Or.inr b2)).elim
    · refine pi_ct 1 (c := nI 0 = 0) (pc' := 21) (l' := [some (.ref 56), some (.int a)]) (st' := []) (σ' := t1) (pc2 := 13) (l2 := [some (.ref 56), some (.int a)]) (st2 := []) (σ2 := t1) (fun f => rfl) (by decide) ?_
      refine pi_rt 2 (v := some (.int (-2))) (σ' := t1) (fun f => rfl) ?_
      exact ⟨rfl, gt1.mr, pi_fr_t2 rt1 (pi_fr_rf)⟩
set_option maxRecDepth 20000 in
theorem pi_P_fine0 {xs : Nat → Int32} {L d : Nat} {W : zW} {σ : pi_S} (hm : z_MR W σ)  : pi_wp xs L (d + 9) 138 0 [some (.ref 56), some (.int (-1))] [] σ (fun v s => v = some (.int (z_fines W.rt (z_A W).1.1.1 W.nd)) ∧ z_MR W s ∧ pi_fr z_RC s σ) := by
  have hk := hm.wk
  have hnd8 := hk.wd.nd8
  have hns12 := hk.wd.ns12
  have hn60 := hk.nine
  have hnf := hk.nf
  have hnw := hk.nw
  have hnc := hk.nc
  have hn08 := hk.wd.n0
  have hn140 := hk.wd.n1
  refine pi_ct 3 (c := (-1) = (-1)) (pc' := 13) (l' := [some (.ref 56), some (.int (-1))]) (st' := []) (σ' := σ) (pc2 := 5) (l2 := [some (.ref 56), some (.int (-1))]) (st2 := []) (σ2 := σ) (fun f => rfl) (by decide) ?_
  refine pi_ca 3 (m' := 137) (l' := [some (.ref 56), some (.int (-1))]) (σ' := σ) (pc2 := 18) (l2 := [some (.ref 56), some (.int (-1))]) (t := []) (fun f => rfl) (pi_M_fineOf0 hm ) ?_
  rintro _ t1 ⟨rfl, gt1, rt1⟩
  refine pi_rt 2 (v := some (.int (z_fines W.rt (z_A W).1.1.1 W.nd))) (σ' := t1) (fun f => rfl) ?_
  exact ⟨rfl, gt1.mr, pi_fr_t2 rt1 (pi_fr_rf)⟩
set_option maxRecDepth 20000 in
theorem pi_P_fine1 {xs : Nat → Int32} {L d : Nat} {W : zW} {σ : pi_S} (hm : z_MR W σ) {dr : Nat} (hd : dr < W.nd)  : pi_wp xs L (d + 9) 138 0 [some (.ref 56), some (.int (nI dr))] [] σ (fun v s => v = some (.int (z_fine W.rt (z_A W).1.1.1 dr)) ∧ z_MR W s ∧ pi_fr z_RC s σ) := by
  have hk := hm.wk
  have hnd8 := hk.wd.nd8
  have hns12 := hk.wd.ns12
  have hn60 := hk.nine
  have hnf := hk.nf
  have hnw := hk.nw
  have hnc := hk.nc
  have hn08 := hk.wd.n0
  have hn140 := hk.wd.n1
  refine pi_cf 3 (c := nI dr = (-1)) (pc' := 5) (l' := [some (.ref 56), some (.int (nI dr))]) (st' := []) (σ' := σ) (pc2 := 13) (l2 := [some (.ref 56), some (.int (nI dr))]) (st2 := []) (σ2 := σ) (fun f => rfl) (z_nIm _ (by omega)) ?_
  refine pi_ca 3 (m' := 113) (l' := [some (.ref 56), some (.int (nI dr))]) (σ' := σ) (pc2 := 10) (l2 := [some (.ref 56), some (.int (nI dr))]) (t := []) (fun f => rfl) (pi_M_isDoorT hm ⟨_, by omega, rfl⟩) ?_
  rintro _ t1 ⟨rfl, gt1, rt1⟩
  refine pi_cf 1 (c := nI 1 = 0) (pc' := 13) (l' := [some (.ref 56), some (.int (nI dr))]) (st' := []) (σ' := t1) (pc2 := 21) (l2 := [some (.ref 56), some (.int (nI dr))]) (st2 := []) (σ2 := t1) (fun f => rfl) (by decide) ?_
  refine pi_ca 3 (m' := 137) (l' := [some (.ref 56), some (.int (nI dr))]) (σ' := t1) (pc2 := 18) (l2 := [some (.ref 56), some (.int (nI dr))]) (t := []) (fun f => rfl) (pi_M_fineOf1 (dr := dr) gt1.mr (by omega)) ?_
  rintro _ t2 ⟨rfl, gt2, rt2⟩
  refine pi_rt 2 (v := some (.int (z_fine W.rt (z_A W).1.1.1 dr))) (σ' := t2) (fun f => rfl) ?_
  exact ⟨rfl, gt2.mr, pi_fr_t2 rt2 (pi_fr_t2 rt1 (pi_fr_rf))⟩
set_option maxRecDepth 20000 in
theorem pi_P_cut_bad {xs : Nat → Int32} {L d : Nat} {W : zW} {σ : pi_S} (hm : z_MR W σ) {a b c : Int32} (hb : ¬ (z_B W.nd a ∧ z_B W.nd b ∧ ¬ a = b ∧ z_B 2 c))  : pi_wp xs L (d + 9) 147 0 [some (.ref 56), some (.int a), some (.int b), some (.int c)] [] σ (fun v s => v = some (.int (-2)) ∧ z_MR W s ∧ pi_fr z_RC s σ) := by
  have hk := hm.wk
  have hnd8 := hk.wd.nd8
  have hns12 := hk.wd.ns12
  have hn60 := hk.nine
  have hnf := hk.nf
  have hnw := hk.nw
  have hnc := hk.nc
  have hn08 := hk.wd.n0
  have hn140 := hk.wd.n1
  refine pi_ca 3 (m' := 113) (l' := [some (.ref 56), some (.int a)]) (σ' := σ) (pc2 := 5) (l2 := [some (.ref 56), some (.int a), some (.int b), some (.int c)]) (t := []) (fun f => rfl) (pi_M_isDoor hm a) ?_
  rintro _ t1 (⟨b1, rfl, gt1, rt1⟩ | ⟨b1, rfl, gt1, rt1⟩)
  · refine pi_cf 1 (c := nI 1 = 0) (pc' := 8) (l' := [some (.ref 56), some (.int a), some (.int b), some (.int c)]) (st' := []) (σ' := t1) (pc2 := 40) (l2 := [some (.ref 56), some (.int a), some (.int b), some (.int c)]) (st2 := []) (σ2 := t1) (fun f => rfl) (by decide) ?_
    refine pi_ca 3 (m' := 113) (l' := [some (.ref 56), some (.int b)]) (σ' := t1) (pc2 := 13) (l2 := [some (.ref 56), some (.int a), some (.int b), some (.int c)]) (t := []) (fun f => rfl) (pi_M_isDoor gt1.mr b) ?_
    rintro _ t2 (⟨b2, rfl, gt2, rt2⟩ | ⟨b2, rfl, gt2, rt2⟩)
    · refine pi_cf 1 (c := nI 1 = 0) (pc' := 16) (l' := [some (.ref 56), some (.int a), some (.int b), some (.int c)]) (st' := []) (σ' := t2) (pc2 := 40) (l2 := [some (.ref 56), some (.int a), some (.int b), some (.int c)]) (st2 := []) (σ2 := t2) (fun f => rfl) (by decide) ?_
      refine pi_if 3 (c := a = b) (pc' := 40) (l' := [some (.ref 56), some (.int a), some (.int b), some (.int c)]) (st' := []) (σ' := t2) (pc2 := 21) (l2 := [some (.ref 56), some (.int a), some (.int b), some (.int c)]) (st2 := []) (σ2 := t2) (fun f => rfl) (fun h3 => ?_) (fun h3 => ?_)
      · refine pi_rt 2 (v := some (.int (-2))) (σ' := t2) (fun f => rfl) ?_
        exact ⟨rfl, gt2.mr, pi_fr_t2 rt2 (pi_fr_t2 rt1 (pi_fr_rf))⟩
      · refine pi_ca 4 (m' := 100) (l' := [some (.int c), some (.int (nI 0)), some (.int (nI 1))]) (σ' := t2) (pc2 := 27) (l2 := [some (.ref 56), some (.int a), some (.int b), some (.int c)]) (t := []) (fun f => rfl) (pi_M_inB (p := z_B 2 c) (z_B_in (by omega))) ?_
        rintro _ _ (⟨b4, rfl, rfl⟩ | ⟨b4, rfl, rfl⟩)
        · refine pi_cf 1 (c := nI 1 = 0) (pc' := 30) (l' := [some (.ref 56), some (.int a), some (.int b), some (.int c)]) (st' := []) (σ' := t2) (pc2 := 40) (l2 := [some (.ref 56), some (.int a), some (.int b), some (.int c)]) (st2 := []) (σ2 := t2) (fun f => rfl) (by decide) ?_
          exact (hb ⟨b1, b2, h3, b4⟩).elim
        · refine pi_ct 1 (c := nI 0 = 0) (pc' := 40) (l' := [some (.ref 56), some (.int a), some (.int b), some (.int c)]) (st' := []) (σ' := t2) (pc2 := 30) (l2 := [some (.ref 56), some (.int a), some (.int b), some (.int c)]) (st2 := []) (σ2 := t2) (fun f => rfl) (by decide) ?_
          refine pi_rt 2 (v := some (.int (-2))) (σ' := t2) (fun f => rfl) ?_
          exact ⟨rfl, gt2.mr, pi_fr_t2 rt2 (pi_fr_t2 rt1 (pi_fr_rf))⟩
    · refine pi_ct 1 (c := nI 0 = 0) (pc' := 40) (l' := [some (.ref 56), some (.int a), some (.int b), some (.int c)]) (st' := []) (σ' := t2) (pc2 := 16) (l2 := [some (.ref 56), some (.int a), some (.int b), some (.int c)]) (st2 := []) (σ2 := t2) (fun f => rfl) (by decide) ?_
      refine pi_rt 2 (v := some (.int (-2))) (σ' := t2) (fun f => rfl) ?_
      exact ⟨rfl, gt2.mr, pi_fr_t2 rt2 (pi_fr_t2 rt1 (pi_fr_rf))⟩
  · refine pi_ct 1 (c := nI 0 = 0) (pc' := 40) (l' := [some (.ref 56), some (.int a), some (.int b), some (.int c)]) (st' := []) (σ' := t1) (pc2 := 8) (l2 := [some (.ref 56), some (.int a), some (.int b), some (.int c)]) (st2 := []) (σ2 := t1) (fun f => rfl) (by decide) ?_
    refine pi_rt 2 (v := some (.int (-2))) (σ' := t1) (fun f => rfl) ?_
    exact ⟨rfl, gt1.mr, pi_fr_t2 rt1 (pi_fr_rf)⟩
set_option maxRecDepth 20000 in
theorem pi_P_cut0 {xs : Nat → Int32} {L d : Nat} {W : zW} {σ : pi_S} (hm : z_MR W σ) {ka kb : Nat} (ha : ka < W.nd) (hb : kb < W.nd) (hab : ¬ ka = kb)  : pi_wp xs L (d + 9) 147 0 [some (.ref 56), some (.int (nI ka)), some (.int (nI kb)), some (.int (nI 0))] [] σ (fun v s => v = some (.int (z_ones (z_ct W.up W.lo W.ns ka (nI kb) (2 ^ W.ns)))) ∧ z_MR W s ∧ pi_fr z_RC s σ) := by
  have hk := hm.wk
  have hnd8 := hk.wd.nd8
  have hns12 := hk.wd.ns12
  have hn60 := hk.nine
  have hnf := hk.nf
  have hnw := hk.nw
  have hnc := hk.nc
  have hn08 := hk.wd.n0
  have hn140 := hk.wd.n1
  refine pi_ca 3 (m' := 113) (l' := [some (.ref 56), some (.int (nI ka))]) (σ' := σ) (pc2 := 5) (l2 := [some (.ref 56), some (.int (nI ka)), some (.int (nI kb)), some (.int (nI 0))]) (t := []) (fun f => rfl) (pi_M_isDoorT hm ⟨_, by omega, rfl⟩) ?_
  rintro _ t1 ⟨rfl, gt1, rt1⟩
  refine pi_cf 1 (c := nI 1 = 0) (pc' := 8) (l' := [some (.ref 56), some (.int (nI ka)), some (.int (nI kb)), some (.int (nI 0))]) (st' := []) (σ' := t1) (pc2 := 40) (l2 := [some (.ref 56), some (.int (nI ka)), some (.int (nI kb)), some (.int (nI 0))]) (st2 := []) (σ2 := t1) (fun f => rfl) (by decide) ?_
  refine pi_ca 3 (m' := 113) (l' := [some (.ref 56), some (.int (nI kb))]) (σ' := t1) (pc2 := 13) (l2 := [some (.ref 56), some (.int (nI ka)), some (.int (nI kb)), some (.int (nI 0))]) (t := []) (fun f => rfl) (pi_M_isDoorT gt1.mr ⟨_, by omega, rfl⟩) ?_
  rintro _ t2 ⟨rfl, gt2, rt2⟩
  refine pi_cf 1 (c := nI 1 = 0) (pc' := 16) (l' := [some (.ref 56), some (.int (nI ka)), some (.int (nI kb)), some (.int (nI 0))]) (st' := []) (σ' := t2) (pc2 := 40) (l2 := [some (.ref 56), some (.int (nI ka)), some (.int (nI kb)), some (.int (nI 0))]) (st2 := []) (σ2 := t2) (fun f => rfl) (by decide) ?_
  refine pi_cf 3 (c := nI ka = nI kb) (pc' := 21) (l' := [some (.ref 56), some (.int (nI ka)), some (.int (nI kb)), some (.int (nI 0))]) (st' := []) (σ' := t2) (pc2 := 40) (l2 := [some (.ref 56), some (.int (nI ka)), some (.int (nI kb)), some (.int (nI 0))]) (st2 := []) (σ2 := t2) (fun f => rfl) (fun q => hab ((nI_eq (by omega) (by omega)).mp q)) ?_
  refine pi_ca 4 (m' := 100) (l' := [some (.int (nI 0)), some (.int (nI 0)), some (.int (nI 1))]) (σ' := t2) (pc2 := 27) (l2 := [some (.ref 56), some (.int (nI ka)), some (.int (nI kb)), some (.int (nI 0))]) (t := []) (fun f => rfl) (pi_M_inT ((z_B_in (by omega)).mpr (⟨_, by omega, rfl⟩))) ?_
  rintro _ _ ⟨rfl, rfl⟩
  refine pi_cf 1 (c := nI 1 = 0) (pc' := 30) (l' := [some (.ref 56), some (.int (nI ka)), some (.int (nI kb)), some (.int (nI 0))]) (st' := []) (σ' := t2) (pc2 := 40) (l2 := [some (.ref 56), some (.int (nI ka)), some (.int (nI kb)), some (.int (nI 0))]) (st2 := []) (σ2 := t2) (fun f => rfl) (by decide) ?_
  refine pi_ca 5 (m' := 146) (l' := [some (.ref 56), some (.int (nI ka)), some (.int (nI kb)), some (.int (nI 0)), none, none, none]) (σ' := t2) (pc2 := 37) (l2 := [some (.ref 56), some (.int (nI ka)), some (.int (nI kb)), some (.int (nI 0))]) (t := []) (fun f => rfl) (pi_M_cutOf0 gt2 (by omega) (by omega)) ?_
  rintro _ t3 ⟨rfl, gt3, rt3⟩
  refine pi_rt 2 (v := some (.int (z_ones (z_ct W.up W.lo W.ns ka (nI kb) (2 ^ W.ns))))) (σ' := t3) (fun f => rfl) ?_
  exact ⟨rfl, gt3.mr, pi_fr_t2 rt3 (pi_fr_t2 rt2 (pi_fr_t2 rt1 (pi_fr_rf)))⟩
set_option maxRecDepth 20000 in
theorem pi_P_cut1 {xs : Nat → Int32} {L d : Nat} {W : zW} {σ : pi_S} (hm : z_MR W σ) {ka kb : Nat} (ha : ka < W.nd) (hb : kb < W.nd) (hab : ¬ ka = kb)  : pi_wp xs L (d + 9) 147 0 [some (.ref 56), some (.int (nI ka)), some (.int (nI kb)), some (.int (nI 1))] [] σ (fun v s => v = some (.int (z_ct W.up W.lo W.ns ka (nI kb) (2 ^ W.ns))) ∧ z_MR W s ∧ pi_fr z_RC s σ) := by
  have hk := hm.wk
  have hnd8 := hk.wd.nd8
  have hns12 := hk.wd.ns12
  have hn60 := hk.nine
  have hnf := hk.nf
  have hnw := hk.nw
  have hnc := hk.nc
  have hn08 := hk.wd.n0
  have hn140 := hk.wd.n1
  refine pi_ca 3 (m' := 113) (l' := [some (.ref 56), some (.int (nI ka))]) (σ' := σ) (pc2 := 5) (l2 := [some (.ref 56), some (.int (nI ka)), some (.int (nI kb)), some (.int (nI 1))]) (t := []) (fun f => rfl) (pi_M_isDoorT hm ⟨_, by omega, rfl⟩) ?_
  rintro _ t1 ⟨rfl, gt1, rt1⟩
  refine pi_cf 1 (c := nI 1 = 0) (pc' := 8) (l' := [some (.ref 56), some (.int (nI ka)), some (.int (nI kb)), some (.int (nI 1))]) (st' := []) (σ' := t1) (pc2 := 40) (l2 := [some (.ref 56), some (.int (nI ka)), some (.int (nI kb)), some (.int (nI 1))]) (st2 := []) (σ2 := t1) (fun f => rfl) (by decide) ?_
  refine pi_ca 3 (m' := 113) (l' := [some (.ref 56), some (.int (nI kb))]) (σ' := t1) (pc2 := 13) (l2 := [some (.ref 56), some (.int (nI ka)), some (.int (nI kb)), some (.int (nI 1))]) (t := []) (fun f => rfl) (pi_M_isDoorT gt1.mr ⟨_, by omega, rfl⟩) ?_
  rintro _ t2 ⟨rfl, gt2, rt2⟩
  refine pi_cf 1 (c := nI 1 = 0) (pc' := 16) (l' := [some (.ref 56), some (.int (nI ka)), some (.int (nI kb)), some (.int (nI 1))]) (st' := []) (σ' := t2) (pc2 := 40) (l2 := [some (.ref 56), some (.int (nI ka)), some (.int (nI kb)), some (.int (nI 1))]) (st2 := []) (σ2 := t2) (fun f => rfl) (by decide) ?_
  refine pi_cf 3 (c := nI ka = nI kb) (pc' := 21) (l' := [some (.ref 56), some (.int (nI ka)), some (.int (nI kb)), some (.int (nI 1))]) (st' := []) (σ' := t2) (pc2 := 40) (l2 := [some (.ref 56), some (.int (nI ka)), some (.int (nI kb)), some (.int (nI 1))]) (st2 := []) (σ2 := t2) (fun f => rfl) (fun q => hab ((nI_eq (by omega) (by omega)).mp q)) ?_
  refine pi_ca 4 (m' := 100) (l' := [some (.int (nI 1)), some (.int (nI 0)), some (.int (nI 1))]) (σ' := t2) (pc2 := 27) (l2 := [some (.ref 56), some (.int (nI ka)), some (.int (nI kb)), some (.int (nI 1))]) (t := []) (fun f => rfl) (pi_M_inT ((z_B_in (by omega)).mpr (⟨_, by omega, rfl⟩))) ?_
  rintro _ _ ⟨rfl, rfl⟩
  refine pi_cf 1 (c := nI 1 = 0) (pc' := 30) (l' := [some (.ref 56), some (.int (nI ka)), some (.int (nI kb)), some (.int (nI 1))]) (st' := []) (σ' := t2) (pc2 := 40) (l2 := [some (.ref 56), some (.int (nI ka)), some (.int (nI kb)), some (.int (nI 1))]) (st2 := []) (σ2 := t2) (fun f => rfl) (by decide) ?_
  refine pi_ca 5 (m' := 146) (l' := [some (.ref 56), some (.int (nI ka)), some (.int (nI kb)), some (.int (nI 1)), none, none, none]) (σ' := t2) (pc2 := 37) (l2 := [some (.ref 56), some (.int (nI ka)), some (.int (nI kb)), some (.int (nI 1))]) (t := []) (fun f => rfl) (pi_M_cutOf1 gt2 (by omega) (by omega)) ?_
  rintro _ t3 ⟨rfl, gt3, rt3⟩
  refine pi_rt 2 (v := some (.int (z_ct W.up W.lo W.ns ka (nI kb) (2 ^ W.ns)))) (σ' := t3) (fun f => rfl) ?_
  exact ⟨rfl, gt3.mr, pi_fr_t2 rt3 (pi_fr_t2 rt2 (pi_fr_t2 rt1 (pi_fr_rf)))⟩
set_option maxRecDepth 20000 in
theorem pi_M_no {xs : Nat → Int32} {L d : Nat} {σ : pi_S} (a : Int32)  : pi_wp xs L d 103 0 [some (.int a)] [] σ (fun v s => v = some (.long (Int64.ofNat 9223372036854775808 - Int32.toInt64 a)) ∧ σ = s) := by
  refine pi_rt 5 (v := some (.long ((Int64.ofNat 9223372036854775808) - (Int32.toInt64 a)))) (σ' := σ) (fun f => rfl) ?_
  exact ⟨rfl, rfl⟩
set_option maxRecDepth 20000 in
theorem pi_P_odds_bad {xs : Nat → Int32} {L d : Nat} {W : zW} {σ : pi_S} (hm : z_MR W σ) {a b : Int32} (hb : ¬ (z_B 17 a ∧ z_B 2 b))  : pi_wp xs L (d + 9) 154 0 [some (.ref 56), some (.int a), some (.int b)] [] σ (fun v s => v = some (.long (Int64.ofNat 9223372036854775808 - Int32.toInt64 (-2))) ∧ z_MR W s ∧ pi_fr z_RC s σ) := by
  have hk := hm.wk
  have hnd8 := hk.wd.nd8
  have hns12 := hk.wd.ns12
  have hn60 := hk.nine
  have hnf := hk.nf
  have hnw := hk.nw
  have hnc := hk.nc
  have hn08 := hk.wd.n0
  have hn140 := hk.wd.n1
  refine pi_ca 4 (m' := 100) (l' := [some (.int a), some (.int (nI 0)), some (.int (nI 16))]) (σ' := σ) (pc2 := 7) (l2 := [some (.ref 56), some (.int a), some (.int b)]) (t := []) (fun f => rfl) (pi_M_inB (p := z_B 17 a) (z_B_in (by omega))) ?_
  rintro _ _ (⟨b1, rfl, rfl⟩ | ⟨b1, rfl, rfl⟩)
  · refine pi_cf 1 (c := nI 1 = 0) (pc' := 10) (l' := [some (.ref 56), some (.int a), some (.int b)]) (st' := []) (σ' := σ) (pc2 := 28) (l2 := [some (.ref 56), some (.int a), some (.int b)]) (st2 := []) (σ2 := σ) (fun f => rfl) (by decide) ?_
    refine pi_ca 4 (m' := 100) (l' := [some (.int b), some (.int (nI 0)), some (.int (nI 1))]) (σ' := σ) (pc2 := 16) (l2 := [some (.ref 56), some (.int a), some (.int b)]) (t := []) (fun f => rfl) (pi_M_inB (p := z_B 2 b) (z_B_in (by omega))) ?_
    rintro _ _ (⟨b2, rfl, rfl⟩ | ⟨b2, rfl, rfl⟩)
    · refine pi_cf 1 (c := nI 1 = 0) (pc' := 19) (l' := [some (.ref 56), some (.int a), some (.int b)]) (st' := []) (σ' := σ) (pc2 := 28) (l2 := [some (.ref 56), some (.int a), some (.int b)]) (st2 := []) (σ2 := σ) (fun f => rfl) (by decide) ?_
      exact (hb ⟨b1, b2⟩).elim
    · refine pi_ct 1 (c := nI 0 = 0) (pc' := 28) (l' := [some (.ref 56), some (.int a), some (.int b)]) (st' := []) (σ' := σ) (pc2 := 19) (l2 := [some (.ref 56), some (.int a), some (.int b)]) (st2 := []) (σ2 := σ) (fun f => rfl) (by decide) ?_
      refine pi_ca 2 (m' := 103) (l' := [some (.int (-2))]) (σ' := σ) (pc2 := 33) (l2 := [some (.ref 56), some (.int a), some (.int b)]) (t := []) (fun f => rfl) (pi_M_no (-2)) ?_
      rintro _ _ ⟨rfl, rfl⟩
      refine pi_rt 1 (v := some (.long (Int64.ofNat 9223372036854775808 - Int32.toInt64 (-2)))) (σ' := σ) (fun f => rfl) ?_
      exact ⟨rfl, hm, pi_fr_rf⟩
  · refine pi_ct 1 (c := nI 0 = 0) (pc' := 28) (l' := [some (.ref 56), some (.int a), some (.int b)]) (st' := []) (σ' := σ) (pc2 := 10) (l2 := [some (.ref 56), some (.int a), some (.int b)]) (st2 := []) (σ2 := σ) (fun f => rfl) (by decide) ?_
    refine pi_ca 2 (m' := 103) (l' := [some (.int (-2))]) (σ' := σ) (pc2 := 33) (l2 := [some (.ref 56), some (.int a), some (.int b)]) (t := []) (fun f => rfl) (pi_M_no (-2)) ?_
    rintro _ _ ⟨rfl, rfl⟩
    refine pi_rt 1 (v := some (.long (Int64.ofNat 9223372036854775808 - Int32.toInt64 (-2)))) (σ' := σ) (fun f => rfl) ?_
    exact ⟨rfl, hm, pi_fr_rf⟩
set_option maxRecDepth 20000 in
theorem pi_P_odds0 {xs : Nat → Int32} {L d : Nat} {W : zW} {σ : pi_S} (hm : z_MR W σ) {x t : Nat} (hx : x < 17) (hmean : z_mean W (nI x) (-1) = nI t) (ht30 : t < 2 ^ 30)  : pi_wp xs L (d + 9) 154 0 [some (.ref 56), some (.int (nI x)), some (.int (nI 0))] [] σ (fun v s => v = some (.long (nL (t / Nat.gcd t 16))) ∧ z_MR W s ∧ pi_fr z_RC s σ) := by
  have hk := hm.wk
  have hnd8 := hk.wd.nd8
  have hns12 := hk.wd.ns12
  have hn60 := hk.nine
  have hnf := hk.nf
  have hnw := hk.nw
  have hnc := hk.nc
  have hn08 := hk.wd.n0
  have hn140 := hk.wd.n1
  refine pi_ca 4 (m' := 100) (l' := [some (.int (nI x)), some (.int (nI 0)), some (.int (nI 16))]) (σ' := σ) (pc2 := 7) (l2 := [some (.ref 56), some (.int (nI x)), some (.int (nI 0))]) (t := []) (fun f => rfl) (pi_M_inT ((z_B_in (by omega)).mpr (⟨_, by omega, rfl⟩))) ?_
  rintro _ _ ⟨rfl, rfl⟩
  refine pi_cf 1 (c := nI 1 = 0) (pc' := 10) (l' := [some (.ref 56), some (.int (nI x)), some (.int (nI 0))]) (st' := []) (σ' := σ) (pc2 := 28) (l2 := [some (.ref 56), some (.int (nI x)), some (.int (nI 0))]) (st2 := []) (σ2 := σ) (fun f => rfl) (by decide) ?_
  refine pi_ca 4 (m' := 100) (l' := [some (.int (nI 0)), some (.int (nI 0)), some (.int (nI 1))]) (σ' := σ) (pc2 := 16) (l2 := [some (.ref 56), some (.int (nI x)), some (.int (nI 0))]) (t := []) (fun f => rfl) (pi_M_inT ((z_B_in (by omega)).mpr (⟨_, by omega, rfl⟩))) ?_
  rintro _ _ ⟨rfl, rfl⟩
  refine pi_cf 1 (c := nI 1 = 0) (pc' := 19) (l' := [some (.ref 56), some (.int (nI x)), some (.int (nI 0))]) (st' := []) (σ' := σ) (pc2 := 28) (l2 := [some (.ref 56), some (.int (nI x)), some (.int (nI 0))]) (st2 := []) (σ2 := σ) (fun f => rfl) (by decide) ?_
  refine pi_ca 4 (m' := 153) (l' := [some (.ref 56), some (.int (nI x)), some (.int (nI 0))]) (σ' := σ) (pc2 := 25) (l2 := [some (.ref 56), some (.int (nI x)), some (.int (nI 0))]) (t := []) (fun f => rfl) (pi_M_oddsOf0 (x := x) (t := t) hm hmean ht30) ?_
  rintro _ t1 ⟨rfl, gt1, rt1⟩
  refine pi_rt 2 (v := some (.long (nL (t / Nat.gcd t 16)))) (σ' := t1) (fun f => rfl) ?_
  exact ⟨rfl, gt1.mr, pi_fr_t2 rt1 (pi_fr_rf)⟩
set_option maxRecDepth 20000 in
theorem pi_P_odds1 {xs : Nat → Int32} {L d : Nat} {W : zW} {σ : pi_S} (hm : z_MR W σ) {x t : Nat} (hx : x < 17) (hmean : z_mean W (nI x) (-1) = nI t) (ht30 : t < 2 ^ 30)  : pi_wp xs L (d + 9) 154 0 [some (.ref 56), some (.int (nI x)), some (.int (nI 1))] [] σ (fun v s => v = some (.long (nL (16 / Nat.gcd t 16))) ∧ z_MR W s ∧ pi_fr z_RC s σ) := by
  have hk := hm.wk
  have hnd8 := hk.wd.nd8
  have hns12 := hk.wd.ns12
  have hn60 := hk.nine
  have hnf := hk.nf
  have hnw := hk.nw
  have hnc := hk.nc
  have hn08 := hk.wd.n0
  have hn140 := hk.wd.n1
  refine pi_ca 4 (m' := 100) (l' := [some (.int (nI x)), some (.int (nI 0)), some (.int (nI 16))]) (σ' := σ) (pc2 := 7) (l2 := [some (.ref 56), some (.int (nI x)), some (.int (nI 1))]) (t := []) (fun f => rfl) (pi_M_inT ((z_B_in (by omega)).mpr (⟨_, by omega, rfl⟩))) ?_
  rintro _ _ ⟨rfl, rfl⟩
  refine pi_cf 1 (c := nI 1 = 0) (pc' := 10) (l' := [some (.ref 56), some (.int (nI x)), some (.int (nI 1))]) (st' := []) (σ' := σ) (pc2 := 28) (l2 := [some (.ref 56), some (.int (nI x)), some (.int (nI 1))]) (st2 := []) (σ2 := σ) (fun f => rfl) (by decide) ?_
  refine pi_ca 4 (m' := 100) (l' := [some (.int (nI 1)), some (.int (nI 0)), some (.int (nI 1))]) (σ' := σ) (pc2 := 16) (l2 := [some (.ref 56), some (.int (nI x)), some (.int (nI 1))]) (t := []) (fun f => rfl) (pi_M_inT ((z_B_in (by omega)).mpr (⟨_, by omega, rfl⟩))) ?_
  rintro _ _ ⟨rfl, rfl⟩
  refine pi_cf 1 (c := nI 1 = 0) (pc' := 19) (l' := [some (.ref 56), some (.int (nI x)), some (.int (nI 1))]) (st' := []) (σ' := σ) (pc2 := 28) (l2 := [some (.ref 56), some (.int (nI x)), some (.int (nI 1))]) (st2 := []) (σ2 := σ) (fun f => rfl) (by decide) ?_
  refine pi_ca 4 (m' := 153) (l' := [some (.ref 56), some (.int (nI x)), some (.int (nI 1))]) (σ' := σ) (pc2 := 25) (l2 := [some (.ref 56), some (.int (nI x)), some (.int (nI 1))]) (t := []) (fun f => rfl) (pi_M_oddsOf1 (x := x) (t := t) hm hmean ht30) ?_
  rintro _ t1 ⟨rfl, gt1, rt1⟩
  refine pi_rt 2 (v := some (.long (nL (16 / Nat.gcd t 16)))) (σ' := t1) (fun f => rfl) ?_
  exact ⟨rfl, gt1.mr, pi_fr_t2 rt1 (pi_fr_rf)⟩
set_option maxRecDepth 20000 in
theorem pi_P_waits_bad {xs : Nat → Int32} {L d : Nat} {W : zW} {σ : pi_S} (hm : z_MR W σ) {a : Int32} (hb : ¬ (z_B 17 a))  : pi_wp xs L (d + 9) 155 0 [some (.ref 56), some (.int a)] [] σ (fun v s => v = some (.int (-2)) ∧ z_MR W s ∧ pi_fr z_RC s σ) := by
  have hk := hm.wk
  have hnd8 := hk.wd.nd8
  have hns12 := hk.wd.ns12
  have hn60 := hk.nine
  have hnf := hk.nf
  have hnw := hk.nw
  have hnc := hk.nc
  have hn08 := hk.wd.n0
  have hn140 := hk.wd.n1
  refine pi_ca 4 (m' := 100) (l' := [some (.int a), some (.int (nI 0)), some (.int (nI 16))]) (σ' := σ) (pc2 := 7) (l2 := [some (.ref 56), some (.int a)]) (t := []) (fun f => rfl) (pi_M_inB (p := z_B 17 a) (z_B_in (by omega))) ?_
  rintro _ _ (⟨b1, rfl, rfl⟩ | ⟨b1, rfl, rfl⟩)
  · refine pi_cf 1 (c := nI 1 = 0) (pc' := 13) (l' := [some (.ref 56), some (.int a)]) (st' := []) (σ' := σ) (pc2 := 10) (l2 := [some (.ref 56), some (.int a)]) (st2 := []) (σ2 := σ) (fun f => rfl) (by decide) ?_
    exact (hb b1).elim
  · refine pi_ct 1 (c := nI 0 = 0) (pc' := 10) (l' := [some (.ref 56), some (.int a)]) (st' := []) (σ' := σ) (pc2 := 13) (l2 := [some (.ref 56), some (.int a)]) (st2 := []) (σ2 := σ) (fun f => rfl) (by decide) ?_
    refine pi_rt 2 (v := some (.int (-2))) (σ' := σ) (fun f => rfl) ?_
    exact ⟨rfl, hm, pi_fr_rf⟩
set_option maxRecDepth 20000 in
theorem pi_P_waits0 {xs : Nat → Int32} {L d : Nat} {W : zW} {σ : pi_S} (hm : z_MR W σ) {x : Nat} (hx : x < 17) (h0 : W.nw = 0)  : pi_wp xs L (d + 9) 155 0 [some (.ref 56), some (.int (nI x))] [] σ (fun v s => v = some (.int ((-3))) ∧ z_MR W s ∧ pi_fr z_RC s σ) := by
  have hk := hm.wk
  have hnd8 := hk.wd.nd8
  have hns12 := hk.wd.ns12
  have hn60 := hk.nine
  have hnf := hk.nf
  have hnw := hk.nw
  have hnc := hk.nc
  have hn08 := hk.wd.n0
  have hn140 := hk.wd.n1
  refine pi_ca 4 (m' := 100) (l' := [some (.int (nI x)), some (.int (nI 0)), some (.int (nI 16))]) (σ' := σ) (pc2 := 7) (l2 := [some (.ref 56), some (.int (nI x))]) (t := []) (fun f => rfl) (pi_M_inT ((z_B_in (by omega)).mpr (⟨_, by omega, rfl⟩))) ?_
  rintro _ _ ⟨rfl, rfl⟩
  refine pi_cf 1 (c := nI 1 = 0) (pc' := 13) (l' := [some (.ref 56), some (.int (nI x))]) (st' := []) (σ' := σ) (pc2 := 10) (l2 := [some (.ref 56), some (.int (nI x))]) (st2 := []) (σ2 := σ) (fun f => rfl) (by decide) ?_
  refine pi_go 2 (pc' := 17) (l' := [some (.ref 56), some (.int (nI x))]) (st' := [.int (σ 56 16)]) (σ' := σ) (fun f => rfl) ?_
  refine pi_tp (y := nI W.nw) (hm.nw) ?_
  refine pi_ct 1 (c := nI W.nw = 0) (pc' := 20) (l' := [some (.ref 56), some (.int (nI x))]) (st' := []) (σ' := σ) (pc2 := 25) (l2 := [some (.ref 56), some (.int (nI x))]) (st2 := []) (σ2 := σ) (fun f => rfl) (congrArg nI h0) ?_
  refine pi_rt 3 (v := some (.int (-3))) (σ' := σ) (fun f => rfl) ?_
  exact ⟨rfl, hm, pi_fr_rf⟩
set_option maxRecDepth 20000 in
theorem pi_P_waits1 {xs : Nat → Int32} {L d : Nat} {W : zW} {σ : pi_S} (hm : z_MR W σ) {x : Nat} (hx : x < 17) (h0 : ¬ W.nw = 0)  : pi_wp xs L (d + 9) 155 0 [some (.ref 56), some (.int (nI x))] [] σ (fun v s => v = some (.int (if z_mean W (nI x) (nI W.nw - nI 1) < z_mean W (nI x) (-1) then nI 1 else nI 0)) ∧ z_MR W s ∧ pi_fr z_RC s σ) := by
  have hk := hm.wk
  have hnd8 := hk.wd.nd8
  have hns12 := hk.wd.ns12
  have hn60 := hk.nine
  have hnf := hk.nf
  have hnw := hk.nw
  have hnc := hk.nc
  have hn08 := hk.wd.n0
  have hn140 := hk.wd.n1
  refine pi_ca 4 (m' := 100) (l' := [some (.int (nI x)), some (.int (nI 0)), some (.int (nI 16))]) (σ' := σ) (pc2 := 7) (l2 := [some (.ref 56), some (.int (nI x))]) (t := []) (fun f => rfl) (pi_M_inT ((z_B_in (by omega)).mpr (⟨_, by omega, rfl⟩))) ?_
  rintro _ _ ⟨rfl, rfl⟩
  refine pi_cf 1 (c := nI 1 = 0) (pc' := 13) (l' := [some (.ref 56), some (.int (nI x))]) (st' := []) (σ' := σ) (pc2 := 10) (l2 := [some (.ref 56), some (.int (nI x))]) (st2 := []) (σ2 := σ) (fun f => rfl) (by decide) ?_
  refine pi_go 2 (pc' := 17) (l' := [some (.ref 56), some (.int (nI x))]) (st' := [.int (σ 56 16)]) (σ' := σ) (fun f => rfl) ?_
  refine pi_tp (y := nI W.nw) (hm.nw) ?_
  refine pi_cf 1 (c := nI W.nw = 0) (pc' := 25) (l' := [some (.ref 56), some (.int (nI x))]) (st' := []) (σ' := σ) (pc2 := 20) (l2 := [some (.ref 56), some (.int (nI x))]) (st2 := []) (σ2 := σ) (fun f => rfl) (fun q => h0 ((nI_eq (by omega) (by omega)).mp q)) ?_
  refine pi_go 4 (pc' := 31) (l' := [some (.ref 56), some (.int (nI x))]) (st' := [.int (σ 56 16), .int (nI x), .ref 56]) (σ' := σ) (fun f => rfl) ?_
  refine pi_tp (y := nI W.nw) (hm.nw) ?_
  refine pi_ca 3 (m' := 152) (l' := [some (.ref 56), some (.int (nI x)), some (.int ((nI W.nw) - (nI 1))), none]) (σ' := σ) (pc2 := 36) (l2 := [some (.ref 56), some (.int (nI x))]) (t := []) (fun f => rfl) (pi_M_meanBy hm (nI x) ((nI W.nw) - (nI 1))) ?_
  rintro _ t1 ⟨rfl, gt1, rt1⟩
  refine pi_ca 4 (m' := 152) (l' := [some (.ref 56), some (.int (nI x)), some (.int (-1)), none]) (σ' := t1) (pc2 := 42) (l2 := [some (.ref 56), some (.int (nI x))]) (t := [.int (z_mean W (nI x) ((nI W.nw) - (nI 1)))]) (fun f => rfl) (pi_M_meanBy gt1.mr (nI x) (-1)) ?_
  rintro _ t2 ⟨rfl, gt2, rt2⟩
  refine pi_if 1 (c := z_mean W (nI x) (-1) ≤ z_mean W (nI x) ((nI W.nw) - (nI 1))) (pc' := 49) (l' := [some (.ref 56), some (.int (nI x))]) (st' := []) (σ' := t2) (pc2 := 45) (l2 := [some (.ref 56), some (.int (nI x))]) (st2 := []) (σ2 := t2) (fun f => rfl) (fun h1 => ?_) (fun h1 => ?_)
  · refine pi_rt 2 (v := some (.int (nI 0))) (σ' := t2) (fun f => rfl) ?_
    exact ⟨congrArg (fun z => some (Value.int z)) (if_neg (fun q => Int32.not_lt.mpr h1 q)).symm, gt2.mr, pi_fr_t2 rt2 (pi_fr_t2 rt1 (pi_fr_rf))⟩
  · refine pi_rt 3 (v := some (.int (nI 1))) (σ' := t2) (fun f => rfl) ?_
    exact ⟨congrArg (fun z => some (Value.int z)) (if_pos (Int32.not_le.mp h1)).symm, gt2.mr, pi_fr_t2 rt2 (pi_fr_t2 rt1 (pi_fr_rf))⟩
def zW.der (W V : zW) : zW := (z_u (z_u W.1 6 V.nd) 7 V.ns, z_u (z_u W.2.1 6 V.up) 7 V.lo, z_u W.2.2.1 10 V.hh, z_u (z_u W.2.2.2 1 V.f0) 2 V.f1)
theorem z_pw {f : Nat → Int32} {g : Nat → Nat} {n j v : Nat} {x : Int32} (h : ∀ k, k < n → f k = nI (g k)) (e : x = nI v) : ∀ k, k < n → upd f j x k = nI (z_u g j v k) := by
  intro k hk
  by_cases q : k = j
  · rw [q, z_upd_s, z_u_s, e]
  · rw [z_upd_n _ _ q, z_u_n _ _ q, h k hk]
theorem z_pb {f : Nat → Int32} {n j v m : Nat} (h : ∀ k, k < n → ∃ b, b ≤ m ∧ f k = nI b) (e : v ≤ m) : ∀ k, k < n → ∃ b, b ≤ m ∧ upd f j (nI v) k = nI b := by
  intro k hk
  by_cases q : k = j
  · exact ⟨v, e, by rw [q, z_upd_s]⟩
  · obtain ⟨b, h1, h2⟩ := h k hk
    exact ⟨b, h1, by rw [z_upd_n _ _ q, h2]⟩
theorem z_wk.ty0 {W : zW} (h : z_wk W) {V : zW} {x : Int32} (hw : z_wd (((W.sN 0 (W.n0 + 1)).sI 0 (upd W.tx (0 + W.n0) x)).der V))  : z_wk (((W.sN 0 (W.n0 + 1)).sI 0 (upd W.tx (0 + W.n0) x)).der V) := z_wk.mk
  (wd := hw)
  (nine := h.nine)
  (nf := h.nf)
  (nw := h.nw)
  (nc := h.nc)
  (fa := h.fa)
  (sw := h.sw)
  (ca := h.ca)
  (rt := h.rt)
  (hd := h.hd)
  (pr := h.pr)
  (si := h.si)
theorem z_MR.ty0 {W : zW} {s σ : pi_S} (h : z_MR W σ) {V : zW} {x : Int32} (hw : z_wd (((W.sN 0 (W.n0 + 1)).sI 0 (upd W.tx (0 + W.n0) x)).der V)) (e0 : s 57 0 = nI (W.n0 + 1)) (e1 : s 57 1 = σ 57 1) (e8 : s 58 = upd (σ 58) (0 + W.n0) x) (hs : pi_fs 56 [] s σ) (hr : pi_fr [57, 58] s σ) : z_MR (((W.sN 0 (W.n0 + 1)).sI 0 (upd W.tx (0 + W.n0) x)).der V) s := z_MR.mk
  (wk := h.wk.ty0 hw)
  (n0 := e0)
  (n1 := e1.trans h.n1)
  (tx := e8.trans (congrArg (fun z => upd z _ _) h.tx))
  (rt := (hr 62 (by decide)).trans h.rt)
  (hd := (hr 63 (by decide)).trans h.hd)
  (pr := (hr 64 (by decide)).trans h.pr)
  (nine := (hs 10 (by decide)).trans h.nine)
  (nf := (hs 11 (by decide)).trans h.nf)
  (fa := fun i hi => by
    rw [hr 65 (by decide), hr 66 (by decide), hr 67 (by decide), hr 68 (by decide)]
    exact h.fa i hi)
  (nw := (hs 16 (by decide)).trans h.nw)
  (sw := fun i hi => by
    rw [hr 69 (by decide), hr 70 (by decide)]
    exact h.sw i hi)
  (nc := (hs 19 (by decide)).trans h.nc)
  (ca := fun i hi => by
    rw [hr 71 (by decide), hr 72 (by decide)]
    exact h.ca i hi)
  (rn := (hr 73 (by decide)).trans h.rn)
  (th := fun k hk => (congrFun (hr 77 (by decide)) k).trans (h.th k hk))
  (fo := fun k hk => (congrFun (hr 78 (by decide)) k).trans (h.fo k hk))
  (si := fun k hk => (congrFun (hr 79 (by decide)) k).trans (h.si k hk))
  (it := (hr 80 (by decide)).trans h.it)
  (fi := (hs 34 (by decide)).trans h.fi)
  (j4 := fun k hk => (congrFun (hr 74 (by decide)) k).trans (h.j4 k hk))
  (j5 := fun k hk => (congrFun (hr 75 (by decide)) k).trans (h.j5 k hk))
theorem z_wk.wi0 {W : zW} (h : z_wk W) {V : zW} (hw : z_wd ((W.sN 0 0).der V))  : z_wk ((W.sN 0 0).der V) := z_wk.mk
  (wd := hw)
  (nine := h.nine)
  (nf := h.nf)
  (nw := h.nw)
  (nc := h.nc)
  (fa := h.fa)
  (sw := h.sw)
  (ca := h.ca)
  (rt := h.rt)
  (hd := h.hd)
  (pr := h.pr)
  (si := h.si)
theorem z_MR.wi0 {W : zW} {s σ : pi_S} (h : z_MR W σ) {V : zW} (hw : z_wd ((W.sN 0 0).der V)) (e0 : s 57 0 = nI 0) (e1 : s 57 1 = σ 57 1) (hs : pi_fs 56 [] s σ) (hr : pi_fr [57] s σ) : z_MR ((W.sN 0 0).der V) s := z_MR.mk
  (wk := h.wk.wi0 hw)
  (n0 := e0)
  (n1 := e1.trans h.n1)
  (tx := (hr 58 (by decide)).trans h.tx)
  (rt := (hr 62 (by decide)).trans h.rt)
  (hd := (hr 63 (by decide)).trans h.hd)
  (pr := (hr 64 (by decide)).trans h.pr)
  (nine := (hs 10 (by decide)).trans h.nine)
  (nf := (hs 11 (by decide)).trans h.nf)
  (fa := fun i hi => by
    rw [hr 65 (by decide), hr 66 (by decide), hr 67 (by decide), hr 68 (by decide)]
    exact h.fa i hi)
  (nw := (hs 16 (by decide)).trans h.nw)
  (sw := fun i hi => by
    rw [hr 69 (by decide), hr 70 (by decide)]
    exact h.sw i hi)
  (nc := (hs 19 (by decide)).trans h.nc)
  (ca := fun i hi => by
    rw [hr 71 (by decide), hr 72 (by decide)]
    exact h.ca i hi)
  (rn := (hr 73 (by decide)).trans h.rn)
  (th := fun k hk => (congrFun (hr 77 (by decide)) k).trans (h.th k hk))
  (fo := fun k hk => (congrFun (hr 78 (by decide)) k).trans (h.fo k hk))
  (si := fun k hk => (congrFun (hr 79 (by decide)) k).trans (h.si k hk))
  (it := (hr 80 (by decide)).trans h.it)
  (fi := (hs 34 (by decide)).trans h.fi)
  (j4 := fun k hk => (congrFun (hr 74 (by decide)) k).trans (h.j4 k hk))
  (j5 := fun k hk => (congrFun (hr 75 (by decide)) k).trans (h.j5 k hk))
theorem z_wk.ty1 {W : zW} (h : z_wk W) {V : zW} {x : Int32} (hw : z_wd (((W.sN 1 (W.n1 + 1)).sI 0 (upd W.tx (40 + W.n1) x)).der V))  : z_wk (((W.sN 1 (W.n1 + 1)).sI 0 (upd W.tx (40 + W.n1) x)).der V) := z_wk.mk
  (wd := hw)
  (nine := h.nine)
  (nf := h.nf)
  (nw := h.nw)
  (nc := h.nc)
  (fa := h.fa)
  (sw := h.sw)
  (ca := h.ca)
  (rt := h.rt)
  (hd := h.hd)
  (pr := h.pr)
  (si := h.si)
theorem z_MR.ty1 {W : zW} {s σ : pi_S} (h : z_MR W σ) {V : zW} {x : Int32} (hw : z_wd (((W.sN 1 (W.n1 + 1)).sI 0 (upd W.tx (40 + W.n1) x)).der V)) (e0 : s 57 1 = nI (W.n1 + 1)) (e1 : s 57 0 = σ 57 0) (e8 : s 58 = upd (σ 58) (40 + W.n1) x) (hs : pi_fs 56 [] s σ) (hr : pi_fr [57, 58] s σ) : z_MR (((W.sN 1 (W.n1 + 1)).sI 0 (upd W.tx (40 + W.n1) x)).der V) s := z_MR.mk
  (wk := h.wk.ty1 hw)
  (n0 := e1.trans h.n0)
  (n1 := e0)
  (tx := e8.trans (congrArg (fun z => upd z _ _) h.tx))
  (rt := (hr 62 (by decide)).trans h.rt)
  (hd := (hr 63 (by decide)).trans h.hd)
  (pr := (hr 64 (by decide)).trans h.pr)
  (nine := (hs 10 (by decide)).trans h.nine)
  (nf := (hs 11 (by decide)).trans h.nf)
  (fa := fun i hi => by
    rw [hr 65 (by decide), hr 66 (by decide), hr 67 (by decide), hr 68 (by decide)]
    exact h.fa i hi)
  (nw := (hs 16 (by decide)).trans h.nw)
  (sw := fun i hi => by
    rw [hr 69 (by decide), hr 70 (by decide)]
    exact h.sw i hi)
  (nc := (hs 19 (by decide)).trans h.nc)
  (ca := fun i hi => by
    rw [hr 71 (by decide), hr 72 (by decide)]
    exact h.ca i hi)
  (rn := (hr 73 (by decide)).trans h.rn)
  (th := fun k hk => (congrFun (hr 77 (by decide)) k).trans (h.th k hk))
  (fo := fun k hk => (congrFun (hr 78 (by decide)) k).trans (h.fo k hk))
  (si := fun k hk => (congrFun (hr 79 (by decide)) k).trans (h.si k hk))
  (it := (hr 80 (by decide)).trans h.it)
  (fi := (hs 34 (by decide)).trans h.fi)
  (j4 := fun k hk => (congrFun (hr 74 (by decide)) k).trans (h.j4 k hk))
  (j5 := fun k hk => (congrFun (hr 75 (by decide)) k).trans (h.j5 k hk))
theorem z_wk.wi1 {W : zW} (h : z_wk W) {V : zW} (hw : z_wd ((W.sN 1 0).der V))  : z_wk ((W.sN 1 0).der V) := z_wk.mk
  (wd := hw)
  (nine := h.nine)
  (nf := h.nf)
  (nw := h.nw)
  (nc := h.nc)
  (fa := h.fa)
  (sw := h.sw)
  (ca := h.ca)
  (rt := h.rt)
  (hd := h.hd)
  (pr := h.pr)
  (si := h.si)
theorem z_MR.wi1 {W : zW} {s σ : pi_S} (h : z_MR W σ) {V : zW} (hw : z_wd ((W.sN 1 0).der V)) (e0 : s 57 1 = nI 0) (e1 : s 57 0 = σ 57 0) (hs : pi_fs 56 [] s σ) (hr : pi_fr [57] s σ) : z_MR ((W.sN 1 0).der V) s := z_MR.mk
  (wk := h.wk.wi1 hw)
  (n0 := e1.trans h.n0)
  (n1 := e0)
  (tx := (hr 58 (by decide)).trans h.tx)
  (rt := (hr 62 (by decide)).trans h.rt)
  (hd := (hr 63 (by decide)).trans h.hd)
  (pr := (hr 64 (by decide)).trans h.pr)
  (nine := (hs 10 (by decide)).trans h.nine)
  (nf := (hs 11 (by decide)).trans h.nf)
  (fa := fun i hi => by
    rw [hr 65 (by decide), hr 66 (by decide), hr 67 (by decide), hr 68 (by decide)]
    exact h.fa i hi)
  (nw := (hs 16 (by decide)).trans h.nw)
  (sw := fun i hi => by
    rw [hr 69 (by decide), hr 70 (by decide)]
    exact h.sw i hi)
  (nc := (hs 19 (by decide)).trans h.nc)
  (ca := fun i hi => by
    rw [hr 71 (by decide), hr 72 (by decide)]
    exact h.ca i hi)
  (rn := (hr 73 (by decide)).trans h.rn)
  (th := fun k hk => (congrFun (hr 77 (by decide)) k).trans (h.th k hk))
  (fo := fun k hk => (congrFun (hr 78 (by decide)) k).trans (h.fo k hk))
  (si := fun k hk => (congrFun (hr 79 (by decide)) k).trans (h.si k hk))
  (it := (hr 80 (by decide)).trans h.it)
  (fi := (hs 34 (by decide)).trans h.fi)
  (j4 := fun k hk => (congrFun (hr 74 (by decide)) k).trans (h.j4 k hk))
  (j5 := fun k hk => (congrFun (hr 75 (by decide)) k).trans (h.j5 k hk))
theorem z_wk.se0 {W : zW} (h : z_wk W) {k b : Nat} (hb : b ≤ 9)  : z_wk (W.sI 1 (upd W.rt k (nI b))) := z_wk.mk
  (wd := z_wd.mk h.wd.n0 h.wd.n1 h.wd.dr h.wd.hh h.wd.sr h.wd.us)
  (nine := h.nine)
  (nf := h.nf)
  (nw := h.nw)
  (nc := h.nc)
  (fa := h.fa)
  (sw := h.sw)
  (ca := h.ca)
  (rt := z_pb h.rt hb)
  (hd := h.hd)
  (pr := h.pr)
  (si := h.si)
theorem z_MR.se0 {W : zW} {s σ : pi_S} (h : z_MR W σ) {k b : Nat} (hb : b ≤ 9) (e : s 62 = upd (σ 62) k (nI b)) (hs : pi_fs 56 [] s σ) (hr : pi_fr [62] s σ) : z_MR (W.sI 1 (upd W.rt k (nI b))) s := z_MR.mk
  (wk := h.wk.se0 hb)
  (n0 := (congrFun (hr 57 (by decide)) 0).trans h.n0)
  (n1 := (congrFun (hr 57 (by decide)) 1).trans h.n1)
  (tx := (hr 58 (by decide)).trans h.tx)
  (rt := e.trans (congrArg (fun z => upd z _ _) h.rt))
  (hd := (hr 63 (by decide)).trans h.hd)
  (pr := (hr 64 (by decide)).trans h.pr)
  (nine := (hs 10 (by decide)).trans h.nine)
  (nf := (hs 11 (by decide)).trans h.nf)
  (fa := fun i hi => by
    rw [hr 65 (by decide), hr 66 (by decide), hr 67 (by decide), hr 68 (by decide)]
    exact h.fa i hi)
  (nw := (hs 16 (by decide)).trans h.nw)
  (sw := fun i hi => by
    rw [hr 69 (by decide), hr 70 (by decide)]
    exact h.sw i hi)
  (nc := (hs 19 (by decide)).trans h.nc)
  (ca := fun i hi => by
    rw [hr 71 (by decide), hr 72 (by decide)]
    exact h.ca i hi)
  (rn := (hr 73 (by decide)).trans h.rn)
  (th := fun k hk => (congrFun (hr 77 (by decide)) k).trans (h.th k hk))
  (fo := fun k hk => (congrFun (hr 78 (by decide)) k).trans (h.fo k hk))
  (si := fun k hk => (congrFun (hr 79 (by decide)) k).trans (h.si k hk))
  (it := (hr 80 (by decide)).trans h.it)
  (fi := (hs 34 (by decide)).trans h.fi)
  (j4 := fun k hk => (congrFun (hr 74 (by decide)) k).trans (h.j4 k hk))
  (j5 := fun k hk => (congrFun (hr 75 (by decide)) k).trans (h.j5 k hk))
theorem z_wk.se1 {W : zW} (h : z_wk W) {k b : Nat} (hb : b ≤ 99)  : z_wk (W.sI 2 (upd W.hd k (nI b))) := z_wk.mk
  (wd := z_wd.mk h.wd.n0 h.wd.n1 h.wd.dr h.wd.hh h.wd.sr h.wd.us)
  (nine := h.nine)
  (nf := h.nf)
  (nw := h.nw)
  (nc := h.nc)
  (fa := h.fa)
  (sw := h.sw)
  (ca := h.ca)
  (rt := h.rt)
  (hd := z_pb h.hd hb)
  (pr := h.pr)
  (si := h.si)
theorem z_MR.se1 {W : zW} {s σ : pi_S} (h : z_MR W σ) {k b : Nat} (hb : b ≤ 99) (e : s 63 = upd (σ 63) k (nI b)) (hs : pi_fs 56 [] s σ) (hr : pi_fr [63] s σ) : z_MR (W.sI 2 (upd W.hd k (nI b))) s := z_MR.mk
  (wk := h.wk.se1 hb)
  (n0 := (congrFun (hr 57 (by decide)) 0).trans h.n0)
  (n1 := (congrFun (hr 57 (by decide)) 1).trans h.n1)
  (tx := (hr 58 (by decide)).trans h.tx)
  (rt := (hr 62 (by decide)).trans h.rt)
  (hd := e.trans (congrArg (fun z => upd z _ _) h.hd))
  (pr := (hr 64 (by decide)).trans h.pr)
  (nine := (hs 10 (by decide)).trans h.nine)
  (nf := (hs 11 (by decide)).trans h.nf)
  (fa := fun i hi => by
    rw [hr 65 (by decide), hr 66 (by decide), hr 67 (by decide), hr 68 (by decide)]
    exact h.fa i hi)
  (nw := (hs 16 (by decide)).trans h.nw)
  (sw := fun i hi => by
    rw [hr 69 (by decide), hr 70 (by decide)]
    exact h.sw i hi)
  (nc := (hs 19 (by decide)).trans h.nc)
  (ca := fun i hi => by
    rw [hr 71 (by decide), hr 72 (by decide)]
    exact h.ca i hi)
  (rn := (hr 73 (by decide)).trans h.rn)
  (th := fun k hk => (congrFun (hr 77 (by decide)) k).trans (h.th k hk))
  (fo := fun k hk => (congrFun (hr 78 (by decide)) k).trans (h.fo k hk))
  (si := fun k hk => (congrFun (hr 79 (by decide)) k).trans (h.si k hk))
  (it := (hr 80 (by decide)).trans h.it)
  (fi := (hs 34 (by decide)).trans h.fi)
  (j4 := fun k hk => (congrFun (hr 74 (by decide)) k).trans (h.j4 k hk))
  (j5 := fun k hk => (congrFun (hr 75 (by decide)) k).trans (h.j5 k hk))
theorem z_wk.se2 {W : zW} (h : z_wk W) {k b : Nat} (hb : b ≤ 9)  : z_wk (W.sI 3 (upd W.pr k (nI b))) := z_wk.mk
  (wd := z_wd.mk h.wd.n0 h.wd.n1 h.wd.dr h.wd.hh h.wd.sr h.wd.us)
  (nine := h.nine)
  (nf := h.nf)
  (nw := h.nw)
  (nc := h.nc)
  (fa := h.fa)
  (sw := h.sw)
  (ca := h.ca)
  (rt := h.rt)
  (hd := h.hd)
  (pr := z_pb h.pr hb)
  (si := h.si)
theorem z_MR.se2 {W : zW} {s σ : pi_S} (h : z_MR W σ) {k b : Nat} (hb : b ≤ 9) (e : s 64 = upd (σ 64) k (nI b)) (hs : pi_fs 56 [] s σ) (hr : pi_fr [64] s σ) : z_MR (W.sI 3 (upd W.pr k (nI b))) s := z_MR.mk
  (wk := h.wk.se2 hb)
  (n0 := (congrFun (hr 57 (by decide)) 0).trans h.n0)
  (n1 := (congrFun (hr 57 (by decide)) 1).trans h.n1)
  (tx := (hr 58 (by decide)).trans h.tx)
  (rt := (hr 62 (by decide)).trans h.rt)
  (hd := (hr 63 (by decide)).trans h.hd)
  (pr := e.trans (congrArg (fun z => upd z _ _) h.pr))
  (nine := (hs 10 (by decide)).trans h.nine)
  (nf := (hs 11 (by decide)).trans h.nf)
  (fa := fun i hi => by
    rw [hr 65 (by decide), hr 66 (by decide), hr 67 (by decide), hr 68 (by decide)]
    exact h.fa i hi)
  (nw := (hs 16 (by decide)).trans h.nw)
  (sw := fun i hi => by
    rw [hr 69 (by decide), hr 70 (by decide)]
    exact h.sw i hi)
  (nc := (hs 19 (by decide)).trans h.nc)
  (ca := fun i hi => by
    rw [hr 71 (by decide), hr 72 (by decide)]
    exact h.ca i hi)
  (rn := (hr 73 (by decide)).trans h.rn)
  (th := fun k hk => (congrFun (hr 77 (by decide)) k).trans (h.th k hk))
  (fo := fun k hk => (congrFun (hr 78 (by decide)) k).trans (h.fo k hk))
  (si := fun k hk => (congrFun (hr 79 (by decide)) k).trans (h.si k hk))
  (it := (hr 80 (by decide)).trans h.it)
  (fi := (hs 34 (by decide)).trans h.fi)
  (j4 := fun k hk => (congrFun (hr 74 (by decide)) k).trans (h.j4 k hk))
  (j5 := fun k hk => (congrFun (hr 75 (by decide)) k).trans (h.j5 k hk))
theorem z_wk.se3 {W : zW} (h : z_wk W) {b : Nat} (hb : b < 60)  : z_wk (W.sN 2 b) := z_wk.mk
  (wd := z_wd.mk h.wd.n0 h.wd.n1 h.wd.dr h.wd.hh h.wd.sr h.wd.us)
  (nine := hb)
  (nf := h.nf)
  (nw := h.nw)
  (nc := h.nc)
  (fa := h.fa)
  (sw := h.sw)
  (ca := h.ca)
  (rt := h.rt)
  (hd := h.hd)
  (pr := h.pr)
  (si := h.si)
theorem z_MR.se3 {W : zW} {s σ : pi_S} (h : z_MR W σ) {b : Nat} (hb : b < 60) (e : s 56 10 = nI b) (hs : pi_fs 56 [10] s σ) (hr : pi_fr [56] s σ) : z_MR (W.sN 2 b) s := z_MR.mk
  (wk := h.wk.se3 hb)
  (n0 := (congrFun (hr 57 (by decide)) 0).trans h.n0)
  (n1 := (congrFun (hr 57 (by decide)) 1).trans h.n1)
  (tx := (hr 58 (by decide)).trans h.tx)
  (rt := (hr 62 (by decide)).trans h.rt)
  (hd := (hr 63 (by decide)).trans h.hd)
  (pr := (hr 64 (by decide)).trans h.pr)
  (nine := e)
  (nf := (hs 11 (by decide)).trans h.nf)
  (fa := fun i hi => by
    rw [hr 65 (by decide), hr 66 (by decide), hr 67 (by decide), hr 68 (by decide)]
    exact h.fa i hi)
  (nw := (hs 16 (by decide)).trans h.nw)
  (sw := fun i hi => by
    rw [hr 69 (by decide), hr 70 (by decide)]
    exact h.sw i hi)
  (nc := (hs 19 (by decide)).trans h.nc)
  (ca := fun i hi => by
    rw [hr 71 (by decide), hr 72 (by decide)]
    exact h.ca i hi)
  (rn := (hr 73 (by decide)).trans h.rn)
  (th := fun k hk => (congrFun (hr 77 (by decide)) k).trans (h.th k hk))
  (fo := fun k hk => (congrFun (hr 78 (by decide)) k).trans (h.fo k hk))
  (si := fun k hk => (congrFun (hr 79 (by decide)) k).trans (h.si k hk))
  (it := (hr 80 (by decide)).trans h.it)
  (fi := (hs 34 (by decide)).trans h.fi)
  (j4 := fun k hk => (congrFun (hr 74 (by decide)) k).trans (h.j4 k hk))
  (j5 := fun k hk => (congrFun (hr 75 (by decide)) k).trans (h.j5 k hk))
theorem z_wk.re {W : zW} (h : z_wk W) {g : Nat → Int32} (hg : ∀ k, k < 8 → ∃ b, b ≤ 99 ∧ g k = nI b)  : z_wk (W.sI 2 g) := z_wk.mk
  (wd := z_wd.mk h.wd.n0 h.wd.n1 h.wd.dr h.wd.hh h.wd.sr h.wd.us)
  (nine := h.nine)
  (nf := h.nf)
  (nw := h.nw)
  (nc := h.nc)
  (fa := h.fa)
  (sw := h.sw)
  (ca := h.ca)
  (rt := h.rt)
  (hd := hg)
  (pr := h.pr)
  (si := h.si)
theorem z_MR.re {W : zW} {s σ : pi_S} (h : z_MR W σ) {g : Nat → Int32} (hg : ∀ k, k < 8 → ∃ b, b ≤ 99 ∧ g k = nI b) (e : s 63 = g) (hs : pi_fs 56 [] s σ) (hr : pi_fr [63] s σ) : z_MR (W.sI 2 g) s := z_MR.mk
  (wk := h.wk.re hg)
  (n0 := (congrFun (hr 57 (by decide)) 0).trans h.n0)
  (n1 := (congrFun (hr 57 (by decide)) 1).trans h.n1)
  (tx := (hr 58 (by decide)).trans h.tx)
  (rt := (hr 62 (by decide)).trans h.rt)
  (hd := e)
  (pr := (hr 64 (by decide)).trans h.pr)
  (nine := (hs 10 (by decide)).trans h.nine)
  (nf := (hs 11 (by decide)).trans h.nf)
  (fa := fun i hi => by
    rw [hr 65 (by decide), hr 66 (by decide), hr 67 (by decide), hr 68 (by decide)]
    exact h.fa i hi)
  (nw := (hs 16 (by decide)).trans h.nw)
  (sw := fun i hi => by
    rw [hr 69 (by decide), hr 70 (by decide)]
    exact h.sw i hi)
  (nc := (hs 19 (by decide)).trans h.nc)
  (ca := fun i hi => by
    rw [hr 71 (by decide), hr 72 (by decide)]
    exact h.ca i hi)
  (rn := (hr 73 (by decide)).trans h.rn)
  (th := fun k hk => (congrFun (hr 77 (by decide)) k).trans (h.th k hk))
  (fo := fun k hk => (congrFun (hr 78 (by decide)) k).trans (h.fo k hk))
  (si := fun k hk => (congrFun (hr 79 (by decide)) k).trans (h.si k hk))
  (it := (hr 80 (by decide)).trans h.it)
  (fi := (hs 34 (by decide)).trans h.fi)
  (j4 := fun k hk => (congrFun (hr 74 (by decide)) k).trans (h.j4 k hk))
  (j5 := fun k hk => (congrFun (hr 75 (by decide)) k).trans (h.j5 k hk))
theorem z_wk.sweep {W : zW} (h : z_wk W) {m : Int32} {p : Nat} (hn : W.nw < 24) (hp : p < 12)  : z_wk (((W.sN 4 (W.nw + 1)).sI 6 (z_u W.sm W.nw m)).sF 2 (z_u W.ws W.nw p)) := z_wk.mk
  (wd := z_wd.mk h.wd.n0 h.wd.n1 h.wd.dr h.wd.hh h.wd.sr h.wd.us)
  (nine := h.nine)
  (nf := h.nf)
  (nw := show W.nw + 1 ≤ 24 by omega)
  (nc := h.nc)
  (fa := h.fa)
  (sw := fun i hi => by
    have hi1 : i < W.nw + 1 := hi
    show z_u W.ws W.nw p i < 12
    by_cases q : i = W.nw
    · rw [q, z_u_s]; exact hp
    · rw [z_u_n _ _ q]; exact h.sw i (by omega))
  (ca := h.ca)
  (rt := h.rt)
  (hd := h.hd)
  (pr := h.pr)
  (si := h.si)
theorem z_MR.sweep {W : zW} {s σ : pi_S} (h : z_MR W σ) {m : Int32} {p : Nat} (hn : W.nw < 24) (hp : p < 12) (e1 : s 69 = upd (σ 69) W.nw m) (e2 : s 70 = upd (σ 70) W.nw (nI p)) (e3 : s 56 16 = nI (W.nw + 1)) (hs : pi_fs 56 [16] s σ) (hr : pi_fr [56, 69, 70] s σ) : z_MR (((W.sN 4 (W.nw + 1)).sI 6 (z_u W.sm W.nw m)).sF 2 (z_u W.ws W.nw p)) s := z_MR.mk
  (wk := h.wk.sweep hn hp)
  (n0 := (congrFun (hr 57 (by decide)) 0).trans h.n0)
  (n1 := (congrFun (hr 57 (by decide)) 1).trans h.n1)
  (tx := (hr 58 (by decide)).trans h.tx)
  (rt := (hr 62 (by decide)).trans h.rt)
  (hd := (hr 63 (by decide)).trans h.hd)
  (pr := (hr 64 (by decide)).trans h.pr)
  (nine := (hs 10 (by decide)).trans h.nine)
  (nf := (hs 11 (by decide)).trans h.nf)
  (fa := fun i hi => by
    rw [hr 65 (by decide), hr 66 (by decide), hr 67 (by decide), hr 68 (by decide)]
    exact h.fa i hi)
  (nw := e3)
  (sw := fun i hi => by
    have hi1 : i < W.nw + 1 := hi
    show s 69 i = z_u W.sm W.nw m i ∧ s 70 i = nI (z_u W.ws W.nw p i)
    rw [e1, e2]
    by_cases q : i = W.nw
    · rw [q, z_u_s, z_u_s, z_upd_s, z_upd_s]
      exact ⟨rfl, rfl⟩
    · rw [z_u_n _ _ q, z_u_n _ _ q, z_upd_n _ _ q, z_upd_n _ _ q]
      exact h.sw i (by omega))
  (nc := (hs 19 (by decide)).trans h.nc)
  (ca := fun i hi => by
    rw [hr 71 (by decide), hr 72 (by decide)]
    exact h.ca i hi)
  (rn := (hr 73 (by decide)).trans h.rn)
  (th := fun k hk => (congrFun (hr 77 (by decide)) k).trans (h.th k hk))
  (fo := fun k hk => (congrFun (hr 78 (by decide)) k).trans (h.fo k hk))
  (si := fun k hk => (congrFun (hr 79 (by decide)) k).trans (h.si k hk))
  (it := (hr 80 (by decide)).trans h.it)
  (fi := (hs 34 (by decide)).trans h.fi)
  (j4 := fun k hk => (congrFun (hr 74 (by decide)) k).trans (h.j4 k hk))
  (j5 := fun k hk => (congrFun (hr 75 (by decide)) k).trans (h.j5 k hk))
theorem z_wk.cart {W : zW} (h : z_wk W) {m : Int32} {p : Nat} (hn : W.nc < 8) (hp : p < 8)  : z_wk (((W.sN 5 (W.nc + 1)).sI 7 (z_u W.cm W.nc m)).sF 3 (z_u W.cd W.nc p)) := z_wk.mk
  (wd := z_wd.mk h.wd.n0 h.wd.n1 h.wd.dr h.wd.hh h.wd.sr h.wd.us)
  (nine := h.nine)
  (nf := h.nf)
  (nw := h.nw)
  (nc := show W.nc + 1 ≤ 8 by omega)
  (fa := h.fa)
  (sw := h.sw)
  (ca := fun i hi => by
    have hi1 : i < W.nc + 1 := hi
    show z_u W.cd W.nc p i < 8
    by_cases q : i = W.nc
    · rw [q, z_u_s]; exact hp
    · rw [z_u_n _ _ q]; exact h.ca i (by omega))
  (rt := h.rt)
  (hd := h.hd)
  (pr := h.pr)
  (si := h.si)
theorem z_MR.cart {W : zW} {s σ : pi_S} (h : z_MR W σ) {m : Int32} {p : Nat} (hn : W.nc < 8) (hp : p < 8) (e1 : s 71 = upd (σ 71) W.nc m) (e2 : s 72 = upd (σ 72) W.nc (nI p)) (e3 : s 56 19 = nI (W.nc + 1)) (hs : pi_fs 56 [19] s σ) (hr : pi_fr [56, 71, 72] s σ) : z_MR (((W.sN 5 (W.nc + 1)).sI 7 (z_u W.cm W.nc m)).sF 3 (z_u W.cd W.nc p)) s := z_MR.mk
  (wk := h.wk.cart hn hp)
  (n0 := (congrFun (hr 57 (by decide)) 0).trans h.n0)
  (n1 := (congrFun (hr 57 (by decide)) 1).trans h.n1)
  (tx := (hr 58 (by decide)).trans h.tx)
  (rt := (hr 62 (by decide)).trans h.rt)
  (hd := (hr 63 (by decide)).trans h.hd)
  (pr := (hr 64 (by decide)).trans h.pr)
  (nine := (hs 10 (by decide)).trans h.nine)
  (nf := (hs 11 (by decide)).trans h.nf)
  (fa := fun i hi => by
    rw [hr 65 (by decide), hr 66 (by decide), hr 67 (by decide), hr 68 (by decide)]
    exact h.fa i hi)
  (nw := (hs 16 (by decide)).trans h.nw)
  (sw := fun i hi => by
    rw [hr 69 (by decide), hr 70 (by decide)]
    exact h.sw i hi)
  (nc := e3)
  (ca := fun i hi => by
    have hi1 : i < W.nc + 1 := hi
    show s 71 i = z_u W.cm W.nc m i ∧ s 72 i = nI (z_u W.cd W.nc p i)
    rw [e1, e2]
    by_cases q : i = W.nc
    · rw [q, z_u_s, z_u_s, z_upd_s, z_upd_s]
      exact ⟨rfl, rfl⟩
    · rw [z_u_n _ _ q, z_u_n _ _ q, z_upd_n _ _ q, z_upd_n _ _ q]
      exact h.ca i (by omega))
  (rn := (hr 73 (by decide)).trans h.rn)
  (th := fun k hk => (congrFun (hr 77 (by decide)) k).trans (h.th k hk))
  (fo := fun k hk => (congrFun (hr 78 (by decide)) k).trans (h.fo k hk))
  (si := fun k hk => (congrFun (hr 79 (by decide)) k).trans (h.si k hk))
  (it := (hr 80 (by decide)).trans h.it)
  (fi := (hs 34 (by decide)).trans h.fi)
  (j4 := fun k hk => (congrFun (hr 74 (by decide)) k).trans (h.j4 k hk))
  (j5 := fun k hk => (congrFun (hr 75 (by decide)) k).trans (h.j5 k hk))
theorem z_wk.rain {W : zW} (h : z_wk W) {k : Nat} {x : Int32}  : z_wk (W.sI 8 (upd W.rn k x)) := z_wk.mk
  (wd := z_wd.mk h.wd.n0 h.wd.n1 h.wd.dr h.wd.hh h.wd.sr h.wd.us)
  (nine := h.nine)
  (nf := h.nf)
  (nw := h.nw)
  (nc := h.nc)
  (fa := h.fa)
  (sw := h.sw)
  (ca := h.ca)
  (rt := h.rt)
  (hd := h.hd)
  (pr := h.pr)
  (si := h.si)
theorem z_MR.rain {W : zW} {s σ : pi_S} (h : z_MR W σ) {k : Nat} {x : Int32} (e : s 73 = upd (σ 73) k x) (hs : pi_fs 56 [] s σ) (hr : pi_fr [73] s σ) : z_MR (W.sI 8 (upd W.rn k x)) s := z_MR.mk
  (wk := h.wk.rain )
  (n0 := (congrFun (hr 57 (by decide)) 0).trans h.n0)
  (n1 := (congrFun (hr 57 (by decide)) 1).trans h.n1)
  (tx := (hr 58 (by decide)).trans h.tx)
  (rt := (hr 62 (by decide)).trans h.rt)
  (hd := (hr 63 (by decide)).trans h.hd)
  (pr := (hr 64 (by decide)).trans h.pr)
  (nine := (hs 10 (by decide)).trans h.nine)
  (nf := (hs 11 (by decide)).trans h.nf)
  (fa := fun i hi => by
    rw [hr 65 (by decide), hr 66 (by decide), hr 67 (by decide), hr 68 (by decide)]
    exact h.fa i hi)
  (nw := (hs 16 (by decide)).trans h.nw)
  (sw := fun i hi => by
    rw [hr 69 (by decide), hr 70 (by decide)]
    exact h.sw i hi)
  (nc := (hs 19 (by decide)).trans h.nc)
  (ca := fun i hi => by
    rw [hr 71 (by decide), hr 72 (by decide)]
    exact h.ca i hi)
  (rn := e.trans (congrArg (fun z => upd z _ _) h.rn))
  (th := fun k hk => (congrFun (hr 77 (by decide)) k).trans (h.th k hk))
  (fo := fun k hk => (congrFun (hr 78 (by decide)) k).trans (h.fo k hk))
  (si := fun k hk => (congrFun (hr 79 (by decide)) k).trans (h.si k hk))
  (it := (hr 80 (by decide)).trans h.it)
  (fi := (hs 34 (by decide)).trans h.fi)
  (j4 := fun k hk => (congrFun (hr 74 (by decide)) k).trans (h.j4 k hk))
  (j5 := fun k hk => (congrFun (hr 75 (by decide)) k).trans (h.j5 k hk))
theorem z_wk.un0 {W : zW} (h : z_wk W)   : z_wk (W.sN 3 (W.nf - 1)) := z_wk.mk
  (wd := z_wd.mk h.wd.n0 h.wd.n1 h.wd.dr h.wd.hh h.wd.sr h.wd.us)
  (nine := h.nine)
  (nf := show W.nf - 1 ≤ _ from Nat.le_trans (Nat.sub_le _ _) h.nf)
  (nw := h.nw)
  (nc := h.nc)
  (fa := fun i hi => h.fa i (Nat.lt_of_lt_of_le hi (Nat.sub_le _ _)))
  (sw := h.sw)
  (ca := h.ca)
  (rt := h.rt)
  (hd := h.hd)
  (pr := h.pr)
  (si := h.si)
theorem z_MR.un0 {W : zW} {s σ : pi_S} (h : z_MR W σ)   (hn : ¬ W.nf = 0) (e : s 56 11 = nI (W.nf - 1)) (hs : pi_fs 56 [11] s σ) (hr : pi_fr [56] s σ) : z_MR (W.sN 3 (W.nf - 1)) s := z_MR.mk
  (wk := h.wk.un0 )
  (n0 := (congrFun (hr 57 (by decide)) 0).trans h.n0)
  (n1 := (congrFun (hr 57 (by decide)) 1).trans h.n1)
  (tx := (hr 58 (by decide)).trans h.tx)
  (rt := (hr 62 (by decide)).trans h.rt)
  (hd := (hr 63 (by decide)).trans h.hd)
  (pr := (hr 64 (by decide)).trans h.pr)
  (nine := (hs 10 (by decide)).trans h.nine)
  (nf := e)
  (fa := fun i hi => by
    have hi1 : i < W.nf - 1 := hi
    rw [hr 65 (by decide), hr 66 (by decide), hr 67 (by decide), hr 68 (by decide)]
    exact h.fa i (by omega))
  (nw := (hs 16 (by decide)).trans h.nw)
  (sw := fun i hi => by
    rw [hr 69 (by decide), hr 70 (by decide)]
    exact h.sw i hi)
  (nc := (hs 19 (by decide)).trans h.nc)
  (ca := fun i hi => by
    rw [hr 71 (by decide), hr 72 (by decide)]
    exact h.ca i hi)
  (rn := (hr 73 (by decide)).trans h.rn)
  (th := fun k hk => (congrFun (hr 77 (by decide)) k).trans (h.th k hk))
  (fo := fun k hk => (congrFun (hr 78 (by decide)) k).trans (h.fo k hk))
  (si := fun k hk => (congrFun (hr 79 (by decide)) k).trans (h.si k hk))
  (it := (hr 80 (by decide)).trans h.it)
  (fi := (hs 34 (by decide)).trans h.fi)
  (j4 := fun k hk => (congrFun (hr 74 (by decide)) k).trans (h.j4 k hk))
  (j5 := fun k hk => (congrFun (hr 75 (by decide)) k).trans (h.j5 k hk))
theorem z_wk.un1 {W : zW} (h : z_wk W)   : z_wk (W.sN 4 (W.nw - 1)) := z_wk.mk
  (wd := z_wd.mk h.wd.n0 h.wd.n1 h.wd.dr h.wd.hh h.wd.sr h.wd.us)
  (nine := h.nine)
  (nf := h.nf)
  (nw := show W.nw - 1 ≤ _ from Nat.le_trans (Nat.sub_le _ _) h.nw)
  (nc := h.nc)
  (fa := h.fa)
  (sw := fun i hi => h.sw i (Nat.lt_of_lt_of_le hi (Nat.sub_le _ _)))
  (ca := h.ca)
  (rt := h.rt)
  (hd := h.hd)
  (pr := h.pr)
  (si := h.si)
theorem z_MR.un1 {W : zW} {s σ : pi_S} (h : z_MR W σ)   (hn : ¬ W.nw = 0) (e : s 56 16 = nI (W.nw - 1)) (hs : pi_fs 56 [16] s σ) (hr : pi_fr [56] s σ) : z_MR (W.sN 4 (W.nw - 1)) s := z_MR.mk
  (wk := h.wk.un1 )
  (n0 := (congrFun (hr 57 (by decide)) 0).trans h.n0)
  (n1 := (congrFun (hr 57 (by decide)) 1).trans h.n1)
  (tx := (hr 58 (by decide)).trans h.tx)
  (rt := (hr 62 (by decide)).trans h.rt)
  (hd := (hr 63 (by decide)).trans h.hd)
  (pr := (hr 64 (by decide)).trans h.pr)
  (nine := (hs 10 (by decide)).trans h.nine)
  (nf := (hs 11 (by decide)).trans h.nf)
  (fa := fun i hi => by
    rw [hr 65 (by decide), hr 66 (by decide), hr 67 (by decide), hr 68 (by decide)]
    exact h.fa i hi)
  (nw := e)
  (sw := fun i hi => by
    have hi1 : i < W.nw - 1 := hi
    rw [hr 69 (by decide), hr 70 (by decide)]
    exact h.sw i (by omega))
  (nc := (hs 19 (by decide)).trans h.nc)
  (ca := fun i hi => by
    rw [hr 71 (by decide), hr 72 (by decide)]
    exact h.ca i hi)
  (rn := (hr 73 (by decide)).trans h.rn)
  (th := fun k hk => (congrFun (hr 77 (by decide)) k).trans (h.th k hk))
  (fo := fun k hk => (congrFun (hr 78 (by decide)) k).trans (h.fo k hk))
  (si := fun k hk => (congrFun (hr 79 (by decide)) k).trans (h.si k hk))
  (it := (hr 80 (by decide)).trans h.it)
  (fi := (hs 34 (by decide)).trans h.fi)
  (j4 := fun k hk => (congrFun (hr 74 (by decide)) k).trans (h.j4 k hk))
  (j5 := fun k hk => (congrFun (hr 75 (by decide)) k).trans (h.j5 k hk))
theorem z_wk.un2 {W : zW} (h : z_wk W)   : z_wk (W.sN 5 (W.nc - 1)) := z_wk.mk
  (wd := z_wd.mk h.wd.n0 h.wd.n1 h.wd.dr h.wd.hh h.wd.sr h.wd.us)
  (nine := h.nine)
  (nf := h.nf)
  (nw := h.nw)
  (nc := show W.nc - 1 ≤ _ from Nat.le_trans (Nat.sub_le _ _) h.nc)
  (fa := h.fa)
  (sw := h.sw)
  (ca := fun i hi => h.ca i (Nat.lt_of_lt_of_le hi (Nat.sub_le _ _)))
  (rt := h.rt)
  (hd := h.hd)
  (pr := h.pr)
  (si := h.si)
theorem z_MR.un2 {W : zW} {s σ : pi_S} (h : z_MR W σ)   (hn : ¬ W.nc = 0) (e : s 56 19 = nI (W.nc - 1)) (hs : pi_fs 56 [19] s σ) (hr : pi_fr [56] s σ) : z_MR (W.sN 5 (W.nc - 1)) s := z_MR.mk
  (wk := h.wk.un2 )
  (n0 := (congrFun (hr 57 (by decide)) 0).trans h.n0)
  (n1 := (congrFun (hr 57 (by decide)) 1).trans h.n1)
  (tx := (hr 58 (by decide)).trans h.tx)
  (rt := (hr 62 (by decide)).trans h.rt)
  (hd := (hr 63 (by decide)).trans h.hd)
  (pr := (hr 64 (by decide)).trans h.pr)
  (nine := (hs 10 (by decide)).trans h.nine)
  (nf := (hs 11 (by decide)).trans h.nf)
  (fa := fun i hi => by
    rw [hr 65 (by decide), hr 66 (by decide), hr 67 (by decide), hr 68 (by decide)]
    exact h.fa i hi)
  (nw := (hs 16 (by decide)).trans h.nw)
  (sw := fun i hi => by
    rw [hr 69 (by decide), hr 70 (by decide)]
    exact h.sw i hi)
  (nc := e)
  (ca := fun i hi => by
    have hi1 : i < W.nc - 1 := hi
    rw [hr 71 (by decide), hr 72 (by decide)]
    exact h.ca i (by omega))
  (rn := (hr 73 (by decide)).trans h.rn)
  (th := fun k hk => (congrFun (hr 77 (by decide)) k).trans (h.th k hk))
  (fo := fun k hk => (congrFun (hr 78 (by decide)) k).trans (h.fo k hk))
  (si := fun k hk => (congrFun (hr 79 (by decide)) k).trans (h.si k hk))
  (it := (hr 80 (by decide)).trans h.it)
  (fi := (hs 34 (by decide)).trans h.fi)
  (j4 := fun k hk => (congrFun (hr 74 (by decide)) k).trans (h.j4 k hk))
  (j5 := fun k hk => (congrFun (hr 75 (by decide)) k).trans (h.j5 k hk))
theorem z_wk.fnd {W : zW} (h : z_wk W) {x : Int32}  : z_wk (W.sS 0 x) := z_wk.mk
  (wd := z_wd.mk h.wd.n0 h.wd.n1 h.wd.dr h.wd.hh h.wd.sr h.wd.us)
  (nine := h.nine)
  (nf := h.nf)
  (nw := h.nw)
  (nc := h.nc)
  (fa := h.fa)
  (sw := h.sw)
  (ca := h.ca)
  (rt := h.rt)
  (hd := h.hd)
  (pr := h.pr)
  (si := h.si)
theorem z_MR.fnd {W : zW} {s σ : pi_S} (h : z_MR W σ) {x : Int32} (e : s 56 34 = x) (hs : pi_fs 56 [34] s σ) (hr : pi_fr [56] s σ) : z_MR (W.sS 0 x) s := z_MR.mk
  (wk := h.wk.fnd )
  (n0 := (congrFun (hr 57 (by decide)) 0).trans h.n0)
  (n1 := (congrFun (hr 57 (by decide)) 1).trans h.n1)
  (tx := (hr 58 (by decide)).trans h.tx)
  (rt := (hr 62 (by decide)).trans h.rt)
  (hd := (hr 63 (by decide)).trans h.hd)
  (pr := (hr 64 (by decide)).trans h.pr)
  (nine := (hs 10 (by decide)).trans h.nine)
  (nf := (hs 11 (by decide)).trans h.nf)
  (fa := fun i hi => by
    rw [hr 65 (by decide), hr 66 (by decide), hr 67 (by decide), hr 68 (by decide)]
    exact h.fa i hi)
  (nw := (hs 16 (by decide)).trans h.nw)
  (sw := fun i hi => by
    rw [hr 69 (by decide), hr 70 (by decide)]
    exact h.sw i hi)
  (nc := (hs 19 (by decide)).trans h.nc)
  (ca := fun i hi => by
    rw [hr 71 (by decide), hr 72 (by decide)]
    exact h.ca i hi)
  (rn := (hr 73 (by decide)).trans h.rn)
  (th := fun k hk => (congrFun (hr 77 (by decide)) k).trans (h.th k hk))
  (fo := fun k hk => (congrFun (hr 78 (by decide)) k).trans (h.fo k hk))
  (si := fun k hk => (congrFun (hr 79 (by decide)) k).trans (h.si k hk))
  (it := (hr 80 (by decide)).trans h.it)
  (fi := e)
  (j4 := fun k hk => (congrFun (hr 74 (by decide)) k).trans (h.j4 k hk))
  (j5 := fun k hk => (congrFun (hr 75 (by decide)) k).trans (h.j5 k hk))
theorem z_wk.sheet {W : zW} (h : z_wk W) {k f n : Nat} {g : Nat → Int32} (hf : f < 3) (hn : n ≤ 48)  : z_wk ((((W.sF 8 (z_u W.th k 1)).sF 4 (z_u W.fo k f)).sF 5 (z_u W.si k n)).sI 9 g) := z_wk.mk
  (wd := z_wd.mk h.wd.n0 h.wd.n1 h.wd.dr h.wd.hh h.wd.sr h.wd.us)
  (nine := h.nine)
  (nf := h.nf)
  (nw := h.nw)
  (nc := h.nc)
  (fa := h.fa)
  (sw := h.sw)
  (ca := h.ca)
  (rt := h.rt)
  (hd := h.hd)
  (pr := h.pr)
  (si := fun j hj => by
    show z_u W.si k n j ≤ 48 ∧ z_u W.fo k f j < 3 ∧ z_u W.th k 1 j < 2
    by_cases q : j = k
    · rw [q, z_u_s, z_u_s, z_u_s]
      exact ⟨hn, hf, by omega⟩
    · rw [z_u_n _ _ q, z_u_n _ _ q, z_u_n _ _ q]
      exact h.si j hj)
theorem z_MR.sheet {W : zW} {s σ : pi_S} (h : z_MR W σ) {k f n : Nat} {g : Nat → Int32} (hf : f < 3) (hn : n ≤ 48) (e7 : s 77 = upd (σ 77) k (nI 1)) (e8 : s 78 = upd (σ 78) k (nI f)) (e9 : s 79 = upd (σ 79) k (nI n)) (e : s 80 = g) (hs : pi_fs 56 [] s σ) (hr : pi_fr [77, 78, 79, 80] s σ) : z_MR ((((W.sF 8 (z_u W.th k 1)).sF 4 (z_u W.fo k f)).sF 5 (z_u W.si k n)).sI 9 g) s := z_MR.mk
  (wk := h.wk.sheet hf hn)
  (n0 := (congrFun (hr 57 (by decide)) 0).trans h.n0)
  (n1 := (congrFun (hr 57 (by decide)) 1).trans h.n1)
  (tx := (hr 58 (by decide)).trans h.tx)
  (rt := (hr 62 (by decide)).trans h.rt)
  (hd := (hr 63 (by decide)).trans h.hd)
  (pr := (hr 64 (by decide)).trans h.pr)
  (nine := (hs 10 (by decide)).trans h.nine)
  (nf := (hs 11 (by decide)).trans h.nf)
  (fa := fun i hi => by
    rw [hr 65 (by decide), hr 66 (by decide), hr 67 (by decide), hr 68 (by decide)]
    exact h.fa i hi)
  (nw := (hs 16 (by decide)).trans h.nw)
  (sw := fun i hi => by
    rw [hr 69 (by decide), hr 70 (by decide)]
    exact h.sw i hi)
  (nc := (hs 19 (by decide)).trans h.nc)
  (ca := fun i hi => by
    rw [hr 71 (by decide), hr 72 (by decide)]
    exact h.ca i hi)
  (rn := (hr 73 (by decide)).trans h.rn)
  (th := fun j hj => by rw [e7]; exact z_pw h.th rfl j hj)
  (fo := fun j hj => by rw [e8]; exact z_pw h.fo rfl j hj)
  (si := fun j hj => by rw [e9]; exact z_pw h.si rfl j hj)
  (it := e)
  (fi := (hs 34 (by decide)).trans h.fi)
  (j4 := fun k hk => (congrFun (hr 74 (by decide)) k).trans (h.j4 k hk))
  (j5 := fun k hk => (congrFun (hr 75 (by decide)) k).trans (h.j5 k hk))
theorem z_wk.lose {W : zW} (h : z_wk W) {k : Nat}  : z_wk (W.sF 8 (z_u W.th k 0)) := z_wk.mk
  (wd := z_wd.mk h.wd.n0 h.wd.n1 h.wd.dr h.wd.hh h.wd.sr h.wd.us)
  (nine := h.nine)
  (nf := h.nf)
  (nw := h.nw)
  (nc := h.nc)
  (fa := h.fa)
  (sw := h.sw)
  (ca := h.ca)
  (rt := h.rt)
  (hd := h.hd)
  (pr := h.pr)
  (si := fun j hj => by
    show W.si j ≤ 48 ∧ W.fo j < 3 ∧ z_u W.th k 0 j < 2
    by_cases q : j = k
    · rw [q, z_u_s]
      have := h.si k (by omega)
      exact ⟨this.1, this.2.1, by omega⟩
    · rw [z_u_n _ _ q]
      exact h.si j hj)
theorem z_MR.lose {W : zW} {s σ : pi_S} (h : z_MR W σ) {k : Nat} (e7 : s 77 = upd (σ 77) k (nI 0)) (hs : pi_fs 56 [] s σ) (hr : pi_fr [77] s σ) : z_MR (W.sF 8 (z_u W.th k 0)) s := z_MR.mk
  (wk := h.wk.lose )
  (n0 := (congrFun (hr 57 (by decide)) 0).trans h.n0)
  (n1 := (congrFun (hr 57 (by decide)) 1).trans h.n1)
  (tx := (hr 58 (by decide)).trans h.tx)
  (rt := (hr 62 (by decide)).trans h.rt)
  (hd := (hr 63 (by decide)).trans h.hd)
  (pr := (hr 64 (by decide)).trans h.pr)
  (nine := (hs 10 (by decide)).trans h.nine)
  (nf := (hs 11 (by decide)).trans h.nf)
  (fa := fun i hi => by
    rw [hr 65 (by decide), hr 66 (by decide), hr 67 (by decide), hr 68 (by decide)]
    exact h.fa i hi)
  (nw := (hs 16 (by decide)).trans h.nw)
  (sw := fun i hi => by
    rw [hr 69 (by decide), hr 70 (by decide)]
    exact h.sw i hi)
  (nc := (hs 19 (by decide)).trans h.nc)
  (ca := fun i hi => by
    rw [hr 71 (by decide), hr 72 (by decide)]
    exact h.ca i hi)
  (rn := (hr 73 (by decide)).trans h.rn)
  (th := fun j hj => by rw [e7]; exact z_pw h.th rfl j hj)
  (fo := fun k hk => (congrFun (hr 78 (by decide)) k).trans (h.fo k hk))
  (si := fun k hk => (congrFun (hr 79 (by decide)) k).trans (h.si k hk))
  (it := (hr 80 (by decide)).trans h.it)
  (fi := (hs 34 (by decide)).trans h.fi)
  (j4 := fun k hk => (congrFun (hr 74 (by decide)) k).trans (h.j4 k hk))
  (j5 := fun k hk => (congrFun (hr 75 (by decide)) k).trans (h.j5 k hk))
theorem z_wk.it_ {W : zW} (h : z_wk W) {g : Nat → Int32}  : z_wk (W.sI 9 g) := z_wk.mk
  (wd := z_wd.mk h.wd.n0 h.wd.n1 h.wd.dr h.wd.hh h.wd.sr h.wd.us)
  (nine := h.nine)
  (nf := h.nf)
  (nw := h.nw)
  (nc := h.nc)
  (fa := h.fa)
  (sw := h.sw)
  (ca := h.ca)
  (rt := h.rt)
  (hd := h.hd)
  (pr := h.pr)
  (si := h.si)
theorem z_MR.it_ {W : zW} {s σ : pi_S} (h : z_MR W σ) {g : Nat → Int32} (e : s 80 = g) (hs : pi_fs 56 [] s σ) (hr : pi_fr [80, 81] s σ) : z_MR (W.sI 9 g) s := z_MR.mk
  (wk := h.wk.it_ )
  (n0 := (congrFun (hr 57 (by decide)) 0).trans h.n0)
  (n1 := (congrFun (hr 57 (by decide)) 1).trans h.n1)
  (tx := (hr 58 (by decide)).trans h.tx)
  (rt := (hr 62 (by decide)).trans h.rt)
  (hd := (hr 63 (by decide)).trans h.hd)
  (pr := (hr 64 (by decide)).trans h.pr)
  (nine := (hs 10 (by decide)).trans h.nine)
  (nf := (hs 11 (by decide)).trans h.nf)
  (fa := fun i hi => by
    rw [hr 65 (by decide), hr 66 (by decide), hr 67 (by decide), hr 68 (by decide)]
    exact h.fa i hi)
  (nw := (hs 16 (by decide)).trans h.nw)
  (sw := fun i hi => by
    rw [hr 69 (by decide), hr 70 (by decide)]
    exact h.sw i hi)
  (nc := (hs 19 (by decide)).trans h.nc)
  (ca := fun i hi => by
    rw [hr 71 (by decide), hr 72 (by decide)]
    exact h.ca i hi)
  (rn := (hr 73 (by decide)).trans h.rn)
  (th := fun k hk => (congrFun (hr 77 (by decide)) k).trans (h.th k hk))
  (fo := fun k hk => (congrFun (hr 78 (by decide)) k).trans (h.fo k hk))
  (si := fun k hk => (congrFun (hr 79 (by decide)) k).trans (h.si k hk))
  (it := e)
  (fi := (hs 34 (by decide)).trans h.fi)
  (j4 := fun k hk => (congrFun (hr 74 (by decide)) k).trans (h.j4 k hk))
  (j5 := fun k hk => (congrFun (hr 75 (by decide)) k).trans (h.j5 k hk))
