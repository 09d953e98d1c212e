set_option maxRecDepth 20000 in
theorem pi_P_set0_bad {xs : Nat → Int32} {L d : Nat} {W : zW} {σ : pi_S} (hm : z_MR W σ) {b c : Int32} (hb : ¬ (z_B 4 (nI 0) ∧ z_B 5 b ∧ z_B 10 c))  : pi_wp xs L (d + 9) 119 0 [some (.ref 56), some (.int (nI 0)), some (.int b), some (.int c), none, none, none] [] σ (fun v s => v = some (.int (-2)) ∧ z_MR W s ∧ pi_fr z_RC s σ) := by
  have hk := hm.wk
  have hnd8 := hk.wd.nd8
  have hns12 := hk.wd.ns12
  have hn60 := hk.nine
  have hnf := hk.nf
  have hnw := hk.nw
  have hnc := hk.nc
  have hn08 := hk.wd.n0
  have hn140 := hk.wd.n1
  refine pi_ct 2 (c := nI 0 = 0) (pc' := 4) (l' := [some (.ref 56), some (.int (nI 0)), some (.int b), some (.int c), none, none, none]) (st' := []) (σ' := σ) (pc2 := 8) (l2 := [some (.ref 56), some (.int (nI 0)), some (.int b), some (.int c), none, none, none]) (st2 := []) (σ2 := σ) (fun f => rfl) (by decide) ?_
  refine pi_ct 5 (c := nI 0 = 0) (pc' := 30) (l' := [some (.ref 56), some (.int (nI 0)), some (.int b), some (.int c), some (.int (nI 4)), none, none]) (st' := []) (σ' := σ) (pc2 := 25) (l2 := [some (.ref 56), some (.int (nI 0)), some (.int b), some (.int c), some (.int (nI 4)), none, none]) (st2 := []) (σ2 := σ) (fun f => rfl) (by decide) ?_
  refine pi_ca 7 (m' := 100) (l' := [some (.int (nI 0)), some (.int (nI 0)), some (.int (nI 3))]) (σ' := σ) (pc2 := 55) (l2 := [some (.ref 56), some (.int (nI 0)), some (.int b), some (.int c), some (.int (nI 4)), some (.int (nI 9)), none]) (t := []) (fun f => rfl) (pi_M_inB (p := z_B 4 (nI 0)) (z_B_in (by omega))) ?_
  rintro _ _ (⟨b1, rfl, rfl⟩ | ⟨b1, rfl, rfl⟩)
  · refine pi_cf 1 (c := nI 1 = 0) (pc' := 58) (l' := [some (.ref 56), some (.int (nI 0)), some (.int b), some (.int c), some (.int (nI 4)), some (.int (nI 9)), none]) (st' := []) (σ' := σ) (pc2 := 87) (l2 := [some (.ref 56), some (.int (nI 0)), some (.int b), some (.int c), some (.int (nI 4)), some (.int (nI 9)), none]) (st2 := []) (σ2 := σ) (fun f => rfl) (by decide) ?_
    refine pi_ca 4 (m' := 100) (l' := [some (.int b), some (.int (nI 0)), some (.int (nI 4))]) (σ' := σ) (pc2 := 65) (l2 := [some (.ref 56), some (.int (nI 0)), some (.int b), some (.int c), some (.int (nI 4)), some (.int (nI 9)), none]) (t := []) (fun f => rfl) (pi_M_inB (p := z_B 5 b) (z_B_in (by omega))) ?_
    rintro _ _ (⟨b2, rfl, rfl⟩ | ⟨b2, rfl, rfl⟩)
    · refine pi_cf 1 (c := nI 1 = 0) (pc' := 68) (l' := [some (.ref 56), some (.int (nI 0)), some (.int b), some (.int c), some (.int (nI 4)), some (.int (nI 9)), none]) (st' := []) (σ' := σ) (pc2 := 87) (l2 := [some (.ref 56), some (.int (nI 0)), some (.int b), some (.int c), some (.int (nI 4)), some (.int (nI 9)), none]) (st2 := []) (σ2 := σ) (fun f => rfl) (by decide) ?_
      refine pi_cf 4 (c := nI 0 = nI 2) (pc' := 78) (l' := [some (.ref 56), some (.int (nI 0)), some (.int b), some (.int c), some (.int (nI 4)), some (.int (nI 9)), none]) (st' := [.int c]) (σ' := σ) (pc2 := 74) (l2 := [some (.ref 56), some (.int (nI 0)), some (.int b), some (.int c), some (.int (nI 4)), some (.int (nI 9)), none]) (st2 := [.int c]) (σ2 := σ) (fun f => rfl) (by decide) ?_
      refine pi_ca 3 (m' := 100) (l' := [some (.int c), some (.int (nI 0)), some (.int (nI 9))]) (σ' := σ) (pc2 := 84) (l2 := [some (.ref 56), some (.int (nI 0)), some (.int b), some (.int c), some (.int (nI 4)), some (.int (nI 9)), none]) (t := []) (fun f => rfl) (pi_M_inB (p := z_B 10 c) (z_B_in (by omega))) ?_
      rintro _ _ (⟨b3, rfl, rfl⟩ | ⟨b3, rfl, rfl⟩)
      · refine pi_cf 1 (c := nI 1 = 0) (pc' := 90) (l' := [some (.ref 56), some (.int (nI 0)), some (.int b), some (.int c), some (.int (nI 4)), some (.int (nI 9)), none]) (st' := []) (σ' := σ) (pc2 := 87) (l2 := [some (.ref 56), some (.int (nI 0)), some (.int b), some (.int c), some (.int (nI 4)), some (.int (nI 9)), none]) (st2 := []) (σ2 := σ) (fun f => rfl) (by decide) ?_
        exact (hb ⟨b1, b2, b3⟩).elim
      · refine pi_ct 1 (c := nI 0 = 0) (pc' := 87) (l' := [some (.ref 56), some (.int (nI 0)), some (.int b), some (.int c), some (.int (nI 4)), some (.int (nI 9)), none]) (st' := []) (σ' := σ) (pc2 := 90) (l2 := [some (.ref 56), some (.int (nI 0)), some (.int b), some (.int c), some (.int (nI 4)), some (.int (nI 9)), none]) (st2 := []) (σ2 := σ) (fun f => rfl) (by decide) ?_
        refine pi_rt 2 (v := some (.int (-2))) (σ' := σ) (fun f => rfl) ?_
        exact ⟨rfl, hm, pi_fr_rf⟩
    · refine pi_ct 1 (c := nI 0 = 0) (pc' := 87) (l' := [some (.ref 56), some (.int (nI 0)), some (.int b), some (.int c), some (.int (nI 4)), some (.int (nI 9)), none]) (st' := []) (σ' := σ) (pc2 := 68) (l2 := [some (.ref 56), some (.int (nI 0)), some (.int b), some (.int c), some (.int (nI 4)), some (.int (nI 9)), none]) (st2 := []) (σ2 := σ) (fun f => rfl) (by decide) ?_
      refine pi_rt 2 (v := some (.int (-2))) (σ' := σ) (fun f => rfl) ?_
      exact ⟨rfl, hm, pi_fr_rf⟩
  · refine pi_ct 1 (c := nI 0 = 0) (pc' := 87) (l' := [some (.ref 56), some (.int (nI 0)), some (.int b), some (.int c), some (.int (nI 4)), some (.int (nI 9)), none]) (st' := []) (σ' := σ) (pc2 := 58) (l2 := [some (.ref 56), some (.int (nI 0)), some (.int b), some (.int c), some (.int (nI 4)), some (.int (nI 9)), none]) (st2 := []) (σ2 := σ) (fun f => rfl) (by decide) ?_
    refine pi_rt 2 (v := some (.int (-2))) (σ' := σ) (fun f => rfl) ?_
    exact ⟨rfl, hm, pi_fr_rf⟩
set_option maxRecDepth 20000 in
theorem pi_P_set1_bad {xs : Nat → Int32} {L d : Nat} {W : zW} {σ : pi_S} (hm : z_MR W σ) {b c : Int32} (hb : ¬ (z_B 4 (nI 1) ∧ z_B 8 b ∧ z_B 100 c))  : pi_wp xs L (d + 9) 119 0 [some (.ref 56), some (.int (nI 1)), some (.int b), some (.int c), none, none, none] [] σ (fun v s => v = some (.int (-2)) ∧ z_MR W s ∧ pi_fr z_RC s σ) := by
  have hk := hm.wk
  have hnd8 := hk.wd.nd8
  have hns12 := hk.wd.ns12
  have hn60 := hk.nine
  have hnf := hk.nf
  have hnw := hk.nw
  have hnc := hk.nc
  have hn08 := hk.wd.n0
  have hn140 := hk.wd.n1
  refine pi_cf 2 (c := nI 1 = 0) (pc' := 8) (l' := [some (.ref 56), some (.int (nI 1)), some (.int b), some (.int c), none, none, none]) (st' := []) (σ' := σ) (pc2 := 4) (l2 := [some (.ref 56), some (.int (nI 1)), some (.int b), some (.int c), none, none, none]) (st2 := []) (σ2 := σ) (fun f => rfl) (by decide) ?_
  refine pi_cf 3 (c := nI 1 = nI 3) (pc' := 17) (l' := [some (.ref 56), some (.int (nI 1)), some (.int b), some (.int c), none, none, none]) (st' := []) (σ' := σ) (pc2 := 13) (l2 := [some (.ref 56), some (.int (nI 1)), some (.int b), some (.int c), none, none, none]) (st2 := []) (σ2 := σ) (fun f => rfl) (by decide) ?_
  refine pi_cf 4 (c := nI 1 = 0) (pc' := 25) (l' := [some (.ref 56), some (.int (nI 1)), some (.int b), some (.int c), some (.int (nI 7)), none, none]) (st' := []) (σ' := σ) (pc2 := 30) (l2 := [some (.ref 56), some (.int (nI 1)), some (.int b), some (.int c), some (.int (nI 7)), none, none]) (st2 := []) (σ2 := σ) (fun f => rfl) (by decide) ?_
  refine pi_cf 3 (c := nI 1 = nI 2) (pc' := 35) (l' := [some (.ref 56), some (.int (nI 1)), some (.int b), some (.int c), some (.int (nI 7)), none, none]) (st' := []) (σ' := σ) (pc2 := 30) (l2 := [some (.ref 56), some (.int (nI 1)), some (.int b), some (.int c), some (.int (nI 7)), none, none]) (st2 := []) (σ2 := σ) (fun f => rfl) (by decide) ?_
  refine pi_ct 3 (c := nI 1 = nI 1) (pc' := 40) (l' := [some (.ref 56), some (.int (nI 1)), some (.int b), some (.int c), some (.int (nI 7)), none, none]) (st' := []) (σ' := σ) (pc2 := 45) (l2 := [some (.ref 56), some (.int (nI 1)), some (.int b), some (.int c), some (.int (nI 7)), none, none]) (st2 := []) (σ2 := σ) (fun f => rfl) (by decide) ?_
  refine pi_ca 7 (m' := 100) (l' := [some (.int (nI 1)), some (.int (nI 0)), some (.int (nI 3))]) (σ' := σ) (pc2 := 55) (l2 := [some (.ref 56), some (.int (nI 1)), some (.int b), some (.int c), some (.int (nI 7)), some (.int (nI 99)), none]) (t := []) (fun f => rfl) (pi_M_inB (p := z_B 4 (nI 1)) (z_B_in (by omega))) ?_
  rintro _ _ (⟨b1, rfl, rfl⟩ | ⟨b1, rfl, rfl⟩)
  · refine pi_cf 1 (c := nI 1 = 0) (pc' := 58) (l' := [some (.ref 56), some (.int (nI 1)), some (.int b), some (.int c), some (.int (nI 7)), some (.int (nI 99)), none]) (st' := []) (σ' := σ) (pc2 := 87) (l2 := [some (.ref 56), some (.int (nI 1)), some (.int b), some (.int c), some (.int (nI 7)), some (.int (nI 99)), none]) (st2 := []) (σ2 := σ) (fun f => rfl) (by decide) ?_
    refine pi_ca 4 (m' := 100) (l' := [some (.int b), some (.int (nI 0)), some (.int (nI 7))]) (σ' := σ) (pc2 := 65) (l2 := [some (.ref 56), some (.int (nI 1)), some (.int b), some (.int c), some (.int (nI 7)), some (.int (nI 99)), none]) (t := []) (fun f => rfl) (pi_M_inB (p := z_B 8 b) (z_B_in (by omega))) ?_
    rintro _ _ (⟨b2, rfl, rfl⟩ | ⟨b2, rfl, rfl⟩)
    · refine pi_cf 1 (c := nI 1 = 0) (pc' := 68) (l' := [some (.ref 56), some (.int (nI 1)), some (.int b), some (.int c), some (.int (nI 7)), some (.int (nI 99)), none]) (st' := []) (σ' := σ) (pc2 := 87) (l2 := [some (.ref 56), some (.int (nI 1)), some (.int b), some (.int c), some (.int (nI 7)), some (.int (nI 99)), none]) (st2 := []) (σ2 := σ) (fun f => rfl) (by decide) ?_
      refine pi_cf 4 (c := nI 1 = nI 2) (pc' := 78) (l' := [some (.ref 56), some (.int (nI 1)), some (.int b), some (.int c), some (.int (nI 7)), some (.int (nI 99)), none]) (st' := [.int c]) (σ' := σ) (pc2 := 74) (l2 := [some (.ref 56), some (.int (nI 1)), some (.int b), some (.int c), some (.int (nI 7)), some (.int (nI 99)), none]) (st2 := [.int c]) (σ2 := σ) (fun f => rfl) (by decide) ?_
      refine pi_ca 3 (m' := 100) (l' := [some (.int c), some (.int (nI 0)), some (.int (nI 99))]) (σ' := σ) (pc2 := 84) (l2 := [some (.ref 56), some (.int (nI 1)), some (.int b), some (.int c), some (.int (nI 7)), some (.int (nI 99)), none]) (t := []) (fun f => rfl) (pi_M_inB (p := z_B 100 c) (z_B_in (by omega))) ?_
      rintro _ _ (⟨b3, rfl, rfl⟩ | ⟨b3, rfl, rfl⟩)
      · refine pi_cf 1 (c := nI 1 = 0) (pc' := 90) (l' := [some (.ref 56), some (.int (nI 1)), some (.int b), some (.int c), some (.int (nI 7)), some (.int (nI 99)), none]) (st' := []) (σ' := σ) (pc2 := 87) (l2 := [some (.ref 56), some (.int (nI 1)), some (.int b), some (.int c), some (.int (nI 7)), some (.int (nI 99)), none]) (st2 := []) (σ2 := σ) (fun f => rfl) (by decide) ?_
        exact (hb ⟨b1, b2, b3⟩).elim
      · refine pi_ct 1 (c := nI 0 = 0) (pc' := 87) (l' := [some (.ref 56), some (.int (nI 1)), some (.int b), some (.int c), some (.int (nI 7)), some (.int (nI 99)), none]) (st' := []) (σ' := σ) (pc2 := 90) (l2 := [some (.ref 56), some (.int (nI 1)), some (.int b), some (.int c), some (.int (nI 7)), some (.int (nI 99)), none]) (st2 := []) (σ2 := σ) (fun f => rfl) (by decide) ?_
        refine pi_rt 2 (v := some (.int (-2))) (σ' := σ) (fun f => rfl) ?_
        exact ⟨rfl, hm, pi_fr_rf⟩
    · refine pi_ct 1 (c := nI 0 = 0) (pc' := 87) (l' := [some (.ref 56), some (.int (nI 1)), some (.int b), some (.int c), some (.int (nI 7)), some (.int (nI 99)), none]) (st' := []) (σ' := σ) (pc2 := 68) (l2 := [some (.ref 56), some (.int (nI 1)), some (.int b), some (.int c), some (.int (nI 7)), some (.int (nI 99)), none]) (st2 := []) (σ2 := σ) (fun f => rfl) (by decide) ?_
      refine pi_rt 2 (v := some (.int (-2))) (σ' := σ) (fun f => rfl) ?_
      exact ⟨rfl, hm, pi_fr_rf⟩
  · refine pi_ct 1 (c := nI 0 = 0) (pc' := 87) (l' := [some (.ref 56), some (.int (nI 1)), some (.int b), some (.int c), some (.int (nI 7)), some (.int (nI 99)), none]) (st' := []) (σ' := σ) (pc2 := 58) (l2 := [some (.ref 56), some (.int (nI 1)), some (.int b), some (.int c), some (.int (nI 7)), some (.int (nI 99)), none]) (st2 := []) (σ2 := σ) (fun f => rfl) (by decide) ?_
    refine pi_rt 2 (v := some (.int (-2))) (σ' := σ) (fun f => rfl) ?_
    exact ⟨rfl, hm, pi_fr_rf⟩
set_option maxRecDepth 20000 in
theorem pi_P_set2_bad {xs : Nat → Int32} {L d : Nat} {W : zW} {σ : pi_S} (hm : z_MR W σ) {b c : Int32} (hb : ¬ (z_B 4 (nI 2) ∧ z_B 8 b ∧ z_P 9 c))  : pi_wp xs L (d + 9) 119 0 [some (.ref 56), some (.int (nI 2)), some (.int b), some (.int c), none, none, none] [] σ (fun v s => v = some (.int (-2)) ∧ z_MR W s ∧ pi_fr z_RC s σ) := by
  have hk := hm.wk
  have hnd8 := hk.wd.nd8
  have hns12 := hk.wd.ns12
  have hn60 := hk.nine
  have hnf := hk.nf
  have hnw := hk.nw
  have hnc := hk.nc
  have hn08 := hk.wd.n0
  have hn140 := hk.wd.n1
  refine pi_cf 2 (c := nI 2 = 0) (pc' := 8) (l' := [some (.ref 56), some (.int (nI 2)), some (.int b), some (.int c), none, none, none]) (st' := []) (σ' := σ) (pc2 := 4) (l2 := [some (.ref 56), some (.int (nI 2)), some (.int b), some (.int c), none, none, none]) (st2 := []) (σ2 := σ) (fun f => rfl) (by decide) ?_
  refine pi_cf 3 (c := nI 2 = nI 3) (pc' := 17) (l' := [some (.ref 56), some (.int (nI 2)), some (.int b), some (.int c), none, none, none]) (st' := []) (σ' := σ) (pc2 := 13) (l2 := [some (.ref 56), some (.int (nI 2)), some (.int b), some (.int c), none, none, none]) (st2 := []) (σ2 := σ) (fun f => rfl) (by decide) ?_
  refine pi_cf 4 (c := nI 2 = 0) (pc' := 25) (l' := [some (.ref 56), some (.int (nI 2)), some (.int b), some (.int c), some (.int (nI 7)), none, none]) (st' := []) (σ' := σ) (pc2 := 30) (l2 := [some (.ref 56), some (.int (nI 2)), some (.int b), some (.int c), some (.int (nI 7)), none, none]) (st2 := []) (σ2 := σ) (fun f => rfl) (by decide) ?_
  refine pi_ct 3 (c := nI 2 = nI 2) (pc' := 30) (l' := [some (.ref 56), some (.int (nI 2)), some (.int b), some (.int c), some (.int (nI 7)), none, none]) (st' := []) (σ' := σ) (pc2 := 35) (l2 := [some (.ref 56), some (.int (nI 2)), some (.int b), some (.int c), some (.int (nI 7)), none, none]) (st2 := []) (σ2 := σ) (fun f => rfl) (by decide) ?_
  refine pi_ca 7 (m' := 100) (l' := [some (.int (nI 2)), some (.int (nI 0)), some (.int (nI 3))]) (σ' := σ) (pc2 := 55) (l2 := [some (.ref 56), some (.int (nI 2)), some (.int b), some (.int c), some (.int (nI 7)), some (.int (nI 9)), none]) (t := []) (fun f => rfl) (pi_M_inB (p := z_B 4 (nI 2)) (z_B_in (by omega))) ?_
  rintro _ _ (⟨b1, rfl, rfl⟩ | ⟨b1, rfl, rfl⟩)
  · refine pi_cf 1 (c := nI 1 = 0) (pc' := 58) (l' := [some (.ref 56), some (.int (nI 2)), some (.int b), some (.int c), some (.int (nI 7)), some (.int (nI 9)), none]) (st' := []) (σ' := σ) (pc2 := 87) (l2 := [some (.ref 56), some (.int (nI 2)), some (.int b), some (.int c), some (.int (nI 7)), some (.int (nI 9)), none]) (st2 := []) (σ2 := σ) (fun f => rfl) (by decide) ?_
    refine pi_ca 4 (m' := 100) (l' := [some (.int b), some (.int (nI 0)), some (.int (nI 7))]) (σ' := σ) (pc2 := 65) (l2 := [some (.ref 56), some (.int (nI 2)), some (.int b), some (.int c), some (.int (nI 7)), some (.int (nI 9)), none]) (t := []) (fun f => rfl) (pi_M_inB (p := z_B 8 b) (z_B_in (by omega))) ?_
    rintro _ _ (⟨b2, rfl, rfl⟩ | ⟨b2, rfl, rfl⟩)
    · refine pi_cf 1 (c := nI 1 = 0) (pc' := 68) (l' := [some (.ref 56), some (.int (nI 2)), some (.int b), some (.int c), some (.int (nI 7)), some (.int (nI 9)), none]) (st' := []) (σ' := σ) (pc2 := 87) (l2 := [some (.ref 56), some (.int (nI 2)), some (.int b), some (.int c), some (.int (nI 7)), some (.int (nI 9)), none]) (st2 := []) (σ2 := σ) (fun f => rfl) (by decide) ?_
      refine pi_ct 4 (c := nI 2 = nI 2) (pc' := 74) (l' := [some (.ref 56), some (.int (nI 2)), some (.int b), some (.int c), some (.int (nI 7)), some (.int (nI 9)), none]) (st' := [.int c]) (σ' := σ) (pc2 := 78) (l2 := [some (.ref 56), some (.int (nI 2)), some (.int b), some (.int c), some (.int (nI 7)), some (.int (nI 9)), none]) (st2 := [.int c]) (σ2 := σ) (fun f => rfl) (by decide) ?_
      refine pi_ca 4 (m' := 100) (l' := [some (.int c), some (.int (nI 1)), some (.int (nI 9))]) (σ' := σ) (pc2 := 84) (l2 := [some (.ref 56), some (.int (nI 2)), some (.int b), some (.int c), some (.int (nI 7)), some (.int (nI 9)), none]) (t := []) (fun f => rfl) (pi_M_inB (p := z_P 9 c) (z_P_in (by omega))) ?_
      rintro _ _ (⟨b3, rfl, rfl⟩ | ⟨b3, rfl, rfl⟩)
      · refine pi_cf 1 (c := nI 1 = 0) (pc' := 90) (l' := [some (.ref 56), some (.int (nI 2)), some (.int b), some (.int c), some (.int (nI 7)), some (.int (nI 9)), none]) (st' := []) (σ' := σ) (pc2 := 87) (l2 := [some (.ref 56), some (.int (nI 2)), some (.int b), some (.int c), some (.int (nI 7)), some (.int (nI 9)), none]) (st2 := []) (σ2 := σ) (fun f => rfl) (by decide) ?_
        exact (hb ⟨b1, b2, b3⟩).elim
      · refine pi_ct 1 (c := nI 0 = 0) (pc' := 87) (l' := [some (.ref 56), some (.int (nI 2)), some (.int b), some (.int c), some (.int (nI 7)), some (.int (nI 9)), none]) (st' := []) (σ' := σ) (pc2 := 90) (l2 := [some (.ref 56), some (.int (nI 2)), some (.int b), some (.int c), some (.int (nI 7)), some (.int (nI 9)), none]) (st2 := []) (σ2 := σ) (fun f => rfl) (by decide) ?_
        refine pi_rt 2 (v := some (.int (-2))) (σ' := σ) (fun f => rfl) ?_
        exact ⟨rfl, hm, pi_fr_rf⟩
    · refine pi_ct 1 (c := nI 0 = 0) (pc' := 87) (l' := [some (.ref 56), some (.int (nI 2)), some (.int b), some (.int c), some (.int (nI 7)), some (.int (nI 9)), none]) (st' := []) (σ' := σ) (pc2 := 68) (l2 := [some (.ref 56), some (.int (nI 2)), some (.int b), some (.int c), some (.int (nI 7)), some (.int (nI 9)), none]) (st2 := []) (σ2 := σ) (fun f => rfl) (by decide) ?_
      refine pi_rt 2 (v := some (.int (-2))) (σ' := σ) (fun f => rfl) ?_
      exact ⟨rfl, hm, pi_fr_rf⟩
  · refine pi_ct 1 (c := nI 0 = 0) (pc' := 87) (l' := [some (.ref 56), some (.int (nI 2)), some (.int b), some (.int c), some (.int (nI 7)), some (.int (nI 9)), none]) (st' := []) (σ' := σ) (pc2 := 58) (l2 := [some (.ref 56), some (.int (nI 2)), some (.int b), some (.int c), some (.int (nI 7)), some (.int (nI 9)), none]) (st2 := []) (σ2 := σ) (fun f => rfl) (by decide) ?_
    refine pi_rt 2 (v := some (.int (-2))) (σ' := σ) (fun f => rfl) ?_
    exact ⟨rfl, hm, pi_fr_rf⟩
set_option maxRecDepth 20000 in
theorem pi_P_set3_bad {xs : Nat → Int32} {L d : Nat} {W : zW} {σ : pi_S} (hm : z_MR W σ) {b c : Int32} (hb : ¬ (z_B 4 (nI 3) ∧ z_B 1 b ∧ z_B 60 c))  : pi_wp xs L (d + 9) 119 0 [some (.ref 56), some (.int (nI 3)), some (.int b), some (.int c), none, none, none] [] σ (fun v s => v = some (.int (-2)) ∧ z_MR W s ∧ pi_fr z_RC s σ) := by
  have hk := hm.wk
  have hnd8 := hk.wd.nd8
  have hns12 := hk.wd.ns12
  have hn60 := hk.nine
  have hnf := hk.nf
  have hnw := hk.nw
  have hnc := hk.nc
  have hn08 := hk.wd.n0
  have hn140 := hk.wd.n1
  refine pi_cf 2 (c := nI 3 = 0) (pc' := 8) (l' := [some (.ref 56), some (.int (nI 3)), some (.int b), some (.int c), none, none, none]) (st' := []) (σ' := σ) (pc2 := 4) (l2 := [some (.ref 56), some (.int (nI 3)), some (.int b), some (.int c), none, none, none]) (st2 := []) (σ2 := σ) (fun f => rfl) (by decide) ?_
  refine pi_ct 3 (c := nI 3 = nI 3) (pc' := 13) (l' := [some (.ref 56), some (.int (nI 3)), some (.int b), some (.int c), none, none, none]) (st' := []) (σ' := σ) (pc2 := 17) (l2 := [some (.ref 56), some (.int (nI 3)), some (.int b), some (.int c), none, none, none]) (st2 := []) (σ2 := σ) (fun f => rfl) (by decide) ?_
  refine pi_cf 5 (c := nI 3 = 0) (pc' := 25) (l' := [some (.ref 56), some (.int (nI 3)), some (.int b), some (.int c), some (.int (nI 0)), none, none]) (st' := []) (σ' := σ) (pc2 := 30) (l2 := [some (.ref 56), some (.int (nI 3)), some (.int b), some (.int c), some (.int (nI 0)), none, none]) (st2 := []) (σ2 := σ) (fun f => rfl) (by decide) ?_
  refine pi_cf 3 (c := nI 3 = nI 2) (pc' := 35) (l' := [some (.ref 56), some (.int (nI 3)), some (.int b), some (.int c), some (.int (nI 0)), none, none]) (st' := []) (σ' := σ) (pc2 := 30) (l2 := [some (.ref 56), some (.int (nI 3)), some (.int b), some (.int c), some (.int (nI 0)), none, none]) (st2 := []) (σ2 := σ) (fun f => rfl) (by decide) ?_
  refine pi_cf 3 (c := nI 3 = nI 1) (pc' := 45) (l' := [some (.ref 56), some (.int (nI 3)), some (.int b), some (.int c), some (.int (nI 0)), none, none]) (st' := []) (σ' := σ) (pc2 := 40) (l2 := [some (.ref 56), some (.int (nI 3)), some (.int b), some (.int c), some (.int (nI 0)), none, none]) (st2 := []) (σ2 := σ) (fun f => rfl) (by decide) ?_
  refine pi_ca 6 (m' := 100) (l' := [some (.int (nI 3)), some (.int (nI 0)), some (.int (nI 3))]) (σ' := σ) (pc2 := 55) (l2 := [some (.ref 56), some (.int (nI 3)), some (.int b), some (.int c), some (.int (nI 0)), some (.int (nI 59)), none]) (t := []) (fun f => rfl) (pi_M_inB (p := z_B 4 (nI 3)) (z_B_in (by omega))) ?_
  rintro _ _ (⟨b1, rfl, rfl⟩ | ⟨b1, rfl, rfl⟩)
  · refine pi_cf 1 (c := nI 1 = 0) (pc' := 58) (l' := [some (.ref 56), some (.int (nI 3)), some (.int b), some (.int c), some (.int (nI 0)), some (.int (nI 59)), none]) (st' := []) (σ' := σ) (pc2 := 87) (l2 := [some (.ref 56), some (.int (nI 3)), some (.int b), some (.int c), some (.int (nI 0)), some (.int (nI 59)), none]) (st2 := []) (σ2 := σ) (fun f => rfl) (by decide) ?_
    refine pi_ca 4 (m' := 100) (l' := [some (.int b), some (.int (nI 0)), some (.int (nI 0))]) (σ' := σ) (pc2 := 65) (l2 := [some (.ref 56), some (.int (nI 3)), some (.int b), some (.int c), some (.int (nI 0)), some (.int (nI 59)), none]) (t := []) (fun f => rfl) (pi_M_inB (p := z_B 1 b) (z_B_in (by omega))) ?_
    rintro _ _ (⟨b2, rfl, rfl⟩ | ⟨b2, rfl, rfl⟩)
    · refine pi_cf 1 (c := nI 1 = 0) (pc' := 68) (l' := [some (.ref 56), some (.int (nI 3)), some (.int b), some (.int c), some (.int (nI 0)), some (.int (nI 59)), none]) (st' := []) (σ' := σ) (pc2 := 87) (l2 := [some (.ref 56), some (.int (nI 3)), some (.int b), some (.int c), some (.int (nI 0)), some (.int (nI 59)), none]) (st2 := []) (σ2 := σ) (fun f => rfl) (by decide) ?_
      refine pi_cf 4 (c := nI 3 = nI 2) (pc' := 78) (l' := [some (.ref 56), some (.int (nI 3)), some (.int b), some (.int c), some (.int (nI 0)), some (.int (nI 59)), none]) (st' := [.int c]) (σ' := σ) (pc2 := 74) (l2 := [some (.ref 56), some (.int (nI 3)), some (.int b), some (.int c), some (.int (nI 0)), some (.int (nI 59)), none]) (st2 := [.int c]) (σ2 := σ) (fun f => rfl) (by decide) ?_
      refine pi_ca 3 (m' := 100) (l' := [some (.int c), some (.int (nI 0)), some (.int (nI 59))]) (σ' := σ) (pc2 := 84) (l2 := [some (.ref 56), some (.int (nI 3)), some (.int b), some (.int c), some (.int (nI 0)), some (.int (nI 59)), none]) (t := []) (fun f => rfl) (pi_M_inB (p := z_B 60 c) (z_B_in (by omega))) ?_
      rintro _ _ (⟨b3, rfl, rfl⟩ | ⟨b3, rfl, rfl⟩)
      · refine pi_cf 1 (c := nI 1 = 0) (pc' := 90) (l' := [some (.ref 56), some (.int (nI 3)), some (.int b), some (.int c), some (.int (nI 0)), some (.int (nI 59)), none]) (st' := []) (σ' := σ) (pc2 := 87) (l2 := [some (.ref 56), some (.int (nI 3)), some (.int b), some (.int c), some (.int (nI 0)), some (.int (nI 59)), none]) (st2 := []) (σ2 := σ) (fun f => rfl) (by decide) ?_
        exact (hb ⟨b1, b2, b3⟩).elim
      · refine pi_ct 1 (c := nI 0 = 0) (pc' := 87) (l' := [some (.ref 56), some (.int (nI 3)), some (.int b), some (.int c), some (.int (nI 0)), some (.int (nI 59)), none]) (st' := []) (σ' := σ) (pc2 := 90) (l2 := [some (.ref 56), some (.int (nI 3)), some (.int b), some (.int c), some (.int (nI 0)), some (.int (nI 59)), none]) (st2 := []) (σ2 := σ) (fun f => rfl) (by decide) ?_
        refine pi_rt 2 (v := some (.int (-2))) (σ' := σ) (fun f => rfl) ?_
        exact ⟨rfl, hm, pi_fr_rf⟩
    · refine pi_ct 1 (c := nI 0 = 0) (pc' := 87) (l' := [some (.ref 56), some (.int (nI 3)), some (.int b), some (.int c), some (.int (nI 0)), some (.int (nI 59)), none]) (st' := []) (σ' := σ) (pc2 := 68) (l2 := [some (.ref 56), some (.int (nI 3)), some (.int b), some (.int c), some (.int (nI 0)), some (.int (nI 59)), none]) (st2 := []) (σ2 := σ) (fun f => rfl) (by decide) ?_
      refine pi_rt 2 (v := some (.int (-2))) (σ' := σ) (fun f => rfl) ?_
      exact ⟨rfl, hm, pi_fr_rf⟩
  · refine pi_ct 1 (c := nI 0 = 0) (pc' := 87) (l' := [some (.ref 56), some (.int (nI 3)), some (.int b), some (.int c), some (.int (nI 0)), some (.int (nI 59)), none]) (st' := []) (σ' := σ) (pc2 := 58) (l2 := [some (.ref 56), some (.int (nI 3)), some (.int b), some (.int c), some (.int (nI 0)), some (.int (nI 59)), none]) (st2 := []) (σ2 := σ) (fun f => rfl) (by decide) ?_
    refine pi_rt 2 (v := some (.int (-2))) (σ' := σ) (fun f => rfl) ?_
    exact ⟨rfl, hm, pi_fr_rf⟩
set_option maxRecDepth 20000 in
theorem pi_P_setx_bad {xs : Nat → Int32} {L d : Nat} {W : zW} {σ : pi_S} (hm : z_MR W σ) {a b c : Int32} (hb : ¬ z_B 4 a)  : pi_wp xs L (d + 9) 119 0 [some (.ref 56), some (.int a), some (.int b), some (.int c), none, none, none] [] σ (fun v s => v = some (.int (-2)) ∧ z_MR W s ∧ pi_fr z_RC s σ) := by
  have hk := hm.wk
  have hnd8 := hk.wd.nd8
  have hns12 := hk.wd.ns12
  have hn60 := hk.nine
  have hnf := hk.nf
  have hnw := hk.nw
  have hnc := hk.nc
  have hn08 := hk.wd.n0
  have hn140 := hk.wd.n1
  refine pi_if 2 (c := a = 0) (pc' := 4) (l' := [some (.ref 56), some (.int a), some (.int b), some (.int c), none, none, none]) (st' := []) (σ' := σ) (pc2 := 8) (l2 := [some (.ref 56), some (.int a), some (.int b), some (.int c), none, none, none]) (st2 := []) (σ2 := σ) (fun f => rfl) (fun h1 => ?_) (fun h1 => ?_)
  · refine pi_if 5 (c := a = 0) (pc' := 30) (l' := [some (.ref 56), some (.int a), some (.int b), some (.int c), some (.int (nI 4)), none, none]) (st' := []) (σ' := σ) (pc2 := 25) (l2 := [some (.ref 56), some (.int a), some (.int b), some (.int c), some (.int (nI 4)), none, none]) (st2 := []) (σ2 := σ) (fun f => rfl) (fun h2 => ?_) (fun h2 => ?_)
    · refine pi_ca 7 (m' := 100) (l' := [some (.int a), some (.int (nI 0)), some (.int (nI 3))]) (σ' := σ) (pc2 := 55) (l2 := [some (.ref 56), some (.int a), some (.int b), some (.int c), some (.int (nI 4)), some (.int (nI 9)), none]) (t := []) (fun f => rfl) (pi_M_inB (p := z_B 4 a) (z_B_in (by omega))) ?_
      rintro _ _ (⟨b3, rfl, rfl⟩ | ⟨b3, rfl, rfl⟩)
      · refine pi_cf 1 (c := nI 1 = 0) (pc' := 58) (l' := [some (.ref 56), some (.int a), some (.int b), some (.int c), some (.int (nI 4)), some (.int (nI 9)), none]) (st' := []) (σ' := σ) (pc2 := 87) (l2 := [some (.ref 56), some (.int a), some (.int b), some (.int c), some (.int (nI 4)), some (.int (nI 9)), none]) (st2 := []) (σ2 := σ) (fun f => rfl) (by decide) ?_
        exact (hb b3).elim
      · refine pi_ct 1 (c := nI 0 = 0) (pc' := 87) (l' := [some (.ref 56), some (.int a), some (.int b), some (.int c), some (.int (nI 4)), some (.int (nI 9)), none]) (st' := []) (σ' := σ) (pc2 := 58) (l2 := [some (.ref 56), some (.int a), some (.int b), some (.int c), some (.int (nI 4)), some (.int (nI 9)), none]) (st2 := []) (σ2 := σ) (fun f => rfl) (by decide) ?_
        refine pi_rt 2 (v := some (.int (-2))) (σ' := σ) (fun f => rfl) ?_
        exact ⟨rfl, hm, pi_fr_rf⟩
    · refine pi_if 3 (c := a = nI 2) (pc' := 30) (l' := [some (.ref 56), some (.int a), some (.int b), some (.int c), some (.int (nI 4)), none, none]) (st' := []) (σ' := σ) (pc2 := 35) (l2 := [some (.ref 56), some (.int a), some (.int b), some (.int c), some (.int (nI 4)), none, none]) (st2 := []) (σ2 := σ) (fun f => rfl) (fun h4 => ?_) (fun h4 => ?_)
      · refine pi_ca 7 (m' := 100) (l' := [some (.int a), some (.int (nI 0)), some (.int (nI 3))]) (σ' := σ) (pc2 := 55) (l2 := [some (.ref 56), some (.int a), some (.int b), some (.int c), some (.int (nI 4)), some (.int (nI 9)), none]) (t := []) (fun f => rfl) (pi_M_inB (p := z_B 4 a) (z_B_in (by omega))) ?_
        rintro _ _ (⟨b5, rfl, rfl⟩ | ⟨b5, rfl, rfl⟩)
        · refine pi_cf 1 (c := nI 1 = 0) (pc' := 58) (l' := [some (.ref 56), some (.int a), some (.int b), some (.int c), some (.int (nI 4)), some (.int (nI 9)), none]) (st' := []) (σ' := σ) (pc2 := 87) (l2 := [some (.ref 56), some (.int a), some (.int b), some (.int c), some (.int (nI 4)), some (.int (nI 9)), none]) (st2 := []) (σ2 := σ) (fun f => rfl) (by decide) ?_
          exact (hb b5).elim
        · refine pi_ct 1 (c := nI 0 = 0) (pc' := 87) (l' := [some (.ref 56), some (.int a), some (.int b), some (.int c), some (.int (nI 4)), some (.int (nI 9)), none]) (st' := []) (σ' := σ) (pc2 := 58) (l2 := [some (.ref 56), some (.int a), some (.int b), some (.int c), some (.int (nI 4)), some (.int (nI 9)), none]) (st2 := []) (σ2 := σ) (fun f => rfl) (by decide) ?_
          refine pi_rt 2 (v := some (.int (-2))) (σ' := σ) (fun f => rfl) ?_
          exact ⟨rfl, hm, pi_fr_rf⟩
      · refine pi_if 3 (c := a = nI 1) (pc' := 40) (l' := [some (.ref 56), some (.int a), some (.int b), some (.int c), some (.int (nI 4)), none, none]) (st' := []) (σ' := σ) (pc2 := 45) (l2 := [some (.ref 56), some (.int a), some (.int b), some (.int c), some (.int (nI 4)), none, none]) (st2 := []) (σ2 := σ) (fun f => rfl) (fun h6 => ?_) (fun h6 => ?_)
        · refine pi_ca 7 (m' := 100) (l' := [some (.int a), some (.int (nI 0)), some (.int (nI 3))]) (σ' := σ) (pc2 := 55) (l2 := [some (.ref 56), some (.int a), some (.int b), some (.int c), some (.int (nI 4)), some (.int (nI 99)), none]) (t := []) (fun f => rfl) (pi_M_inB (p := z_B 4 a) (z_B_in (by omega))) ?_
          rintro _ _ (⟨b7, rfl, rfl⟩ | ⟨b7, rfl, rfl⟩)
          · refine pi_cf 1 (c := nI 1 = 0) (pc' := 58) (l' := [some (.ref 56), some (.int a), some (.int b), some (.int c), some (.int (nI 4)), some (.int (nI 99)), none]) (st' := []) (σ' := σ) (pc2 := 87) (l2 := [some (.ref 56), some (.int a), some (.int b), some (.int c), some (.int (nI 4)), some (.int (nI 99)), none]) (st2 := []) (σ2 := σ) (fun f => rfl) (by decide) ?_
            exact (hb b7).elim
          · refine pi_ct 1 (c := nI 0 = 0) (pc' := 87) (l' := [some (.ref 56), some (.int a), some (.int b), some (.int c), some (.int (nI 4)), some (.int (nI 99)), none]) (st' := []) (σ' := σ) (pc2 := 58) (l2 := [some (.ref 56), some (.int a), some (.int b), some (.int c), some (.int (nI 4)), some (.int (nI 99)), none]) (st2 := []) (σ2 := σ) (fun f => rfl) (by decide) ?_
            refine pi_rt 2 (v := some (.int (-2))) (σ' := σ) (fun f => rfl) ?_
            exact ⟨rfl, hm, pi_fr_rf⟩
        · refine pi_ca 6 (m' := 100) (l' := [some (.int a), some (.int (nI 0)), some (.int (nI 3))]) (σ' := σ) (pc2 := 55) (l2 := [some (.ref 56), some (.int a), some (.int b), some (.int c), some (.int (nI 4)), some (.int (nI 59)), none]) (t := []) (fun f => rfl) (pi_M_inB (p := z_B 4 a) (z_B_in (by omega))) ?_
          rintro _ _ (⟨b8, rfl, rfl⟩ | ⟨b8, rfl, rfl⟩)
          · refine pi_cf 1 (c := nI 1 = 0) (pc' := 58) (l' := [some (.ref 56), some (.int a), some (.int b), some (.int c), some (.int (nI 4)), some (.int (nI 59)), none]) (st' := []) (σ' := σ) (pc2 := 87) (l2 := [some (.ref 56), some (.int a), some (.int b), some (.int c), some (.int (nI 4)), some (.int (nI 59)), none]) (st2 := []) (σ2 := σ) (fun f => rfl) (by decide) ?_
            exact (hb b8).elim
          · refine pi_ct 1 (c := nI 0 = 0) (pc' := 87) (l' := [some (.ref 56), some (.int a), some (.int b), some (.int c), some (.int (nI 4)), some (.int (nI 59)), none]) (st' := []) (σ' := σ) (pc2 := 58) (l2 := [some (.ref 56), some (.int a), some (.int b), some (.int c), some (.int (nI 4)), some (.int (nI 59)), none]) (st2 := []) (σ2 := σ) (fun f => rfl) (by decide) ?_
            refine pi_rt 2 (v := some (.int (-2))) (σ' := σ) (fun f => rfl) ?_
            exact ⟨rfl, hm, pi_fr_rf⟩
  · refine pi_if 3 (c := a = nI 3) (pc' := 13) (l' := [some (.ref 56), some (.int a), some (.int b), some (.int c), none, none, none]) (st' := []) (σ' := σ) (pc2 := 17) (l2 := [some (.ref 56), some (.int a), some (.int b), some (.int c), none, none, none]) (st2 := []) (σ2 := σ) (fun f => rfl) (fun h9 => ?_) (fun h9 => ?_)
    · refine pi_if 5 (c := a = 0) (pc' := 30) (l' := [some (.ref 56), some (.int a), some (.int b), some (.int c), some (.int (nI 0)), none, none]) (st' := []) (σ' := σ) (pc2 := 25) (l2 := [some (.ref 56), some (.int a), some (.int b), some (.int c), some (.int (nI 0)), none, none]) (st2 := []) (σ2 := σ) (fun f => rfl) (fun h10 => ?_) (fun h10 => ?_)
      · refine pi_ca 7 (m' := 100) (l' := [some (.int a), some (.int (nI 0)), some (.int (nI 3))]) (σ' := σ) (pc2 := 55) (l2 := [some (.ref 56), some (.int a), some (.int b), some (.int c), some (.int (nI 0)), some (.int (nI 9)), none]) (t := []) (fun f => rfl) (pi_M_inB (p := z_B 4 a) (z_B_in (by omega))) ?_
        rintro _ _ (⟨b11, rfl, rfl⟩ | ⟨b11, rfl, rfl⟩)
        · refine pi_cf 1 (c := nI 1 = 0) (pc' := 58) (l' := [some (.ref 56), some (.int a), some (.int b), some (.int c), some (.int (nI 0)), some (.int (nI 9)), none]) (st' := []) (σ' := σ) (pc2 := 87) (l2 := [some (.ref 56), some (.int a), some (.int b), some (.int c), some (.int (nI 0)), some (.int (nI 9)), none]) (st2 := []) (σ2 := σ) (fun f => rfl) (by decide) ?_
          exact (hb b11).elim
        · refine pi_ct 1 (c := nI 0 = 0) (pc' := 87) (l' := [some (.ref 56), some (.int a), some (.int b), some (.int c), some (.int (nI 0)), some (.int (nI 9)), none]) (st' := []) (σ' := σ) (pc2 := 58) (l2 := [some (.ref 56), some (.int a), some (.int b), some (.int c), some (.int (nI 0)), some (.int (nI 9)), none]) (st2 := []) (σ2 := σ) (fun f => rfl) (by decide) ?_
          refine pi_rt 2 (v := some (.int (-2))) (σ' := σ) (fun f => rfl) ?_
          exact ⟨rfl, hm, pi_fr_rf⟩
      · refine pi_if 3 (c := a = nI 2) (pc' := 30) (l' := [some (.ref 56), some (.int a), some (.int b), some (.int c), some (.int (nI 0)), none, none]) (st' := []) (σ' := σ) (pc2 := 35) (l2 := [some (.ref 56), some (.int a), some (.int b), some (.int c), some (.int (nI 0)), none, none]) (st2 := []) (σ2 := σ) (fun f => rfl) (fun h12 => ?_) (fun h12 => ?_)
        · refine pi_ca 7 (m' := 100) (l' := [some (.int a), some (.int (nI 0)), some (.int (nI 3))]) (σ' := σ) (pc2 := 55) (l2 := [some (.ref 56), some (.int a), some (.int b), some (.int c), some (.int (nI 0)), some (.int (nI 9)), none]) (t := []) (fun f => rfl) (pi_M_inB (p := z_B 4 a) (z_B_in (by omega))) ?_
          rintro _ _ (⟨b13, rfl, rfl⟩ | ⟨b13, rfl, rfl⟩)
          · refine pi_cf 1 (c := nI 1 = 0) (pc' := 58) (l' := [some (.ref 56), some (.int a), some (.int b), some (.int c), some (.int (nI 0)), some (.int (nI 9)), none]) (st' := []) (σ' := σ) (pc2 := 87) (l2 := [some (.ref 56), some (.int a), some (.int b), some (.int c), some (.int (nI 0)), some (.int (nI 9)), none]) (st2 := []) (σ2 := σ) (fun f => rfl) (by decide) ?_
            exact (hb b13).elim
          · refine pi_ct 1 (c := nI 0 = 0) (pc' := 87) (l' := [some (.ref 56), some (.int a), some (.int b), some (.int c), some (.int (nI 0)), some (.int (nI 9)), none]) (st' := []) (σ' := σ) (pc2 := 58) (l2 := [some (.ref 56), some (.int a), some (.int b), some (.int c), some (.int (nI 0)), some (.int (nI 9)), none]) (st2 := []) (σ2 := σ) (fun f => rfl) (by decide) ?_
            refine pi_rt 2 (v := some (.int (-2))) (σ' := σ) (fun f => rfl) ?_
            exact ⟨rfl, hm, pi_fr_rf⟩
        · refine pi_if 3 (c := a = nI 1) (pc' := 40) (l' := [some (.ref 56), some (.int a), some (.int b), some (.int c), some (.int (nI 0)), none, none]) (st' := []) (σ' := σ) (pc2 := 45) (l2 := [some (.ref 56), some (.int a), some (.int b), some (.int c), some (.int (nI 0)), none, none]) (st2 := []) (σ2 := σ) (fun f => rfl) (fun h14 => ?_) (fun h14 => ?_)
          · refine pi_ca 7 (m' := 100) (l' := [some (.int a), some (.int (nI 0)), some (.int (nI 3))]) (σ' := σ) (pc2 := 55) (l2 := [some (.ref 56), some (.int a), some (.int b), some (.int c), some (.int (nI 0)), some (.int (nI 99)), none]) (t := []) (fun f => rfl) (pi_M_inB (p := z_B 4 a) (z_B_in (by omega))) ?_
            rintro _ _ (⟨b15, rfl, rfl⟩ | ⟨b15, rfl, rfl⟩)
            · refine pi_cf 1 (c := nI 1 = 0) (pc' := 58) (l' := [some (.ref 56), some (.int a), some (.int b), some (.int c), some (.int (nI 0)), some (.int (nI 99)), none]) (st' := []) (σ' := σ) (pc2 := 87) (l2 := [some (.ref 56), some (.int a), some (.int b), some (.int c), some (.int (nI 0)), some (.int (nI 99)), none]) (st2 := []) (σ2 := σ) (fun f => rfl) (by decide) ?_
              exact (hb b15).elim
            · refine pi_ct 1 (c := nI 0 = 0) (pc' := 87) (l' := [some (.ref 56), some (.int a), some (.int b), some (.int c), some (.int (nI 0)), some (.int (nI 99)), none]) (st' := []) (σ' := σ) (pc2 := 58) (l2 := [some (.ref 56), some (.int a), some (.int b), some (.int c), some (.int (nI 0)), some (.int (nI 99)), none]) (st2 := []) (σ2 := σ) (fun f => rfl) (by decide) ?_
              refine pi_rt 2 (v := some (.int (-2))) (σ' := σ) (fun f => rfl) ?_
              exact ⟨rfl, hm, pi_fr_rf⟩
          · refine pi_ca 6 (m' := 100) (l' := [some (.int a), some (.int (nI 0)), some (.int (nI 3))]) (σ' := σ) (pc2 := 55) (l2 := [some (.ref 56), some (.int a), some (.int b), some (.int c), some (.int (nI 0)), some (.int (nI 59)), none]) (t := []) (fun f => rfl) (pi_M_inB (p := z_B 4 a) (z_B_in (by omega))) ?_
            rintro _ _ (⟨b16, rfl, rfl⟩ | ⟨b16, rfl, rfl⟩)
            · refine pi_cf 1 (c := nI 1 = 0) (pc' := 58) (l' := [some (.ref 56), some (.int a), some (.int b), some (.int c), some (.int (nI 0)), some (.int (nI 59)), none]) (st' := []) (σ' := σ) (pc2 := 87) (l2 := [some (.ref 56), some (.int a), some (.int b), some (.int c), some (.int (nI 0)), some (.int (nI 59)), none]) (st2 := []) (σ2 := σ) (fun f => rfl) (by decide) ?_
              exact (hb b16).elim
            · refine pi_ct 1 (c := nI 0 = 0) (pc' := 87) (l' := [some (.ref 56), some (.int a), some (.int b), some (.int c), some (.int (nI 0)), some (.int (nI 59)), none]) (st' := []) (σ' := σ) (pc2 := 58) (l2 := [some (.ref 56), some (.int a), some (.int b), some (.int c), some (.int (nI 0)), some (.int (nI 59)), none]) (st2 := []) (σ2 := σ) (fun f => rfl) (by decide) ?_
              refine pi_rt 2 (v := some (.int (-2))) (σ' := σ) (fun f => rfl) ?_
              exact ⟨rfl, hm, pi_fr_rf⟩
    · refine pi_if 4 (c := a = 0) (pc' := 30) (l' := [some (.ref 56), some (.int a), some (.int b), some (.int c), some (.int (nI 7)), none, none]) (st' := []) (σ' := σ) (pc2 := 25) (l2 := [some (.ref 56), some (.int a), some (.int b), some (.int c), some (.int (nI 7)), none, none]) (st2 := []) (σ2 := σ) (fun f => rfl) (fun h17 => ?_) (fun h17 => ?_)
      · refine pi_ca 7 (m' := 100) (l' := [some (.int a), some (.int (nI 0)), some (.int (nI 3))]) (σ' := σ) (pc2 := 55) (l2 := [some (.ref 56), some (.int a), some (.int b), some (.int c), some (.int (nI 7)), some (.int (nI 9)), none]) (t := []) (fun f => rfl) (pi_M_inB (p := z_B 4 a) (z_B_in (by omega))) ?_
        rintro _ _ (⟨b18, rfl, rfl⟩ | ⟨b18, rfl, rfl⟩)
        · refine pi_cf 1 (c := nI 1 = 0) (pc' := 58) (l' := [some (.ref 56), some (.int a), some (.int b), some (.int c), some (.int (nI 7)), some (.int (nI 9)), none]) (st' := []) (σ' := σ) (pc2 := 87) (l2 := [some (.ref 56), some (.int a), some (.int b), some (.int c), some (.int (nI 7)), some (.int (nI 9)), none]) (st2 := []) (σ2 := σ) (fun f => rfl) (by decide) ?_
          exact (hb b18).elim
        · refine pi_ct 1 (c := nI 0 = 0) (pc' := 87) (l' := [some (.ref 56), some (.int a), some (.int b), some (.int c), some (.int (nI 7)), some (.int (nI 9)), none]) (st' := []) (σ' := σ) (pc2 := 58) (l2 := [some (.ref 56), some (.int a), some (.int b), some (.int c), some (.int (nI 7)), some (.int (nI 9)), none]) (st2 := []) (σ2 := σ) (fun f => rfl) (by decide) ?_
          refine pi_rt 2 (v := some (.int (-2))) (σ' := σ) (fun f => rfl) ?_
          exact ⟨rfl, hm, pi_fr_rf⟩
      · refine pi_if 3 (c := a = nI 2) (pc' := 30) (l' := [some (.ref 56), some (.int a), some (.int b), some (.int c), some (.int (nI 7)), none, none]) (st' := []) (σ' := σ) (pc2 := 35) (l2 := [some (.ref 56), some (.int a), some (.int b), some (.int c), some (.int (nI 7)), none, none]) (st2 := []) (σ2 := σ) (fun f => rfl) (fun h19 => ?_) (fun h19 => ?_)
        · refine pi_ca 7 (m' := 100) (l' := [some (.int a), some (.int (nI 0)), some (.int (nI 3))]) (σ' := σ) (pc2 := 55) (l2 := [some (.ref 56), some (.int a), some (.int b), some (.int c), some (.int (nI 7)), some (.int (nI 9)), none]) (t := []) (fun f => rfl) (pi_M_inB (p := z_B 4 a) (z_B_in (by omega))) ?_
          rintro _ _ (⟨b20, rfl, rfl⟩ | ⟨b20, rfl, rfl⟩)
          · refine pi_cf 1 (c := nI 1 = 0) (pc' := 58) (l' := [some (.ref 56), some (.int a), some (.int b), some (.int c), some (.int (nI 7)), some (.int (nI 9)), none]) (st' := []) (σ' := σ) (pc2 := 87) (l2 := [some (.ref 56), some (.int a), some (.int b), some (.int c), some (.int (nI 7)), some (.int (nI 9)), none]) (st2 := []) (σ2 := σ) (fun f => rfl) (by decide) ?_
            exact (hb b20).elim
          · refine pi_ct 1 (c := nI 0 = 0) (pc' := 87) (l' := [some (.ref 56), some (.int a), some (.int b), some (.int c), some (.int (nI 7)), some (.int (nI 9)), none]) (st' := []) (σ' := σ) (pc2 := 58) (l2 := [some (.ref 56), some (.int a), some (.int b), some (.int c), some (.int (nI 7)), some (.int (nI 9)), none]) (st2 := []) (σ2 := σ) (fun f => rfl) (by decide) ?_
            refine pi_rt 2 (v := some (.int (-2))) (σ' := σ) (fun f => rfl) ?_
            exact ⟨rfl, hm, pi_fr_rf⟩
        · refine pi_if 3 (c := a = nI 1) (pc' := 40) (l' := [some (.ref 56), some (.int a), some (.int b), some (.int c), some (.int (nI 7)), none, none]) (st' := []) (σ' := σ) (pc2 := 45) (l2 := [some (.ref 56), some (.int a), some (.int b), some (.int c), some (.int (nI 7)), none, none]) (st2 := []) (σ2 := σ) (fun f => rfl) (fun h21 => ?_) (fun h21 => ?_)
          · refine pi_ca 7 (m' := 100) (l' := [some (.int a), some (.int (nI 0)), some (.int (nI 3))]) (σ' := σ) (pc2 := 55) (l2 := [some (.ref 56), some (.int a), some (.int b), some (.int c), some (.int (nI 7)), some (.int (nI 99)), none]) (t := []) (fun f => rfl) (pi_M_inB (p := z_B 4 a) (z_B_in (by omega))) ?_
            rintro _ _ (⟨b22, rfl, rfl⟩ | ⟨b22, rfl, rfl⟩)
            · refine pi_cf 1 (c := nI 1 = 0) (pc' := 58) (l' := [some (.ref 56), some (.int a), some (.int b), some (.int c), some (.int (nI 7)), some (.int (nI 99)), none]) (st' := []) (σ' := σ) (pc2 := 87) (l2 := [some (.ref 56), some (.int a), some (.int b), some (.int c), some (.int (nI 7)), some (.int (nI 99)), none]) (st2 := []) (σ2 := σ) (fun f => rfl) (by decide) ?_
              exact (hb b22).elim
            · refine pi_ct 1 (c := nI 0 = 0) (pc' := 87) (l' := [some (.ref 56), some (.int a), some (.int b), some (.int c), some (.int (nI 7)), some (.int (nI 99)), none]) (st' := []) (σ' := σ) (pc2 := 58) (l2 := [some (.ref 56), some (.int a), some (.int b), some (.int c), some (.int (nI 7)), some (.int (nI 99)), none]) (st2 := []) (σ2 := σ) (fun f => rfl) (by decide) ?_
              refine pi_rt 2 (v := some (.int (-2))) (σ' := σ) (fun f => rfl) ?_
              exact ⟨rfl, hm, pi_fr_rf⟩
          · refine pi_ca 6 (m' := 100) (l' := [some (.int a), some (.int (nI 0)), some (.int (nI 3))]) (σ' := σ) (pc2 := 55) (l2 := [some (.ref 56), some (.int a), some (.int b), some (.int c), some (.int (nI 7)), some (.int (nI 59)), none]) (t := []) (fun f => rfl) (pi_M_inB (p := z_B 4 a) (z_B_in (by omega))) ?_
            rintro _ _ (⟨b23, rfl, rfl⟩ | ⟨b23, rfl, rfl⟩)
            · refine pi_cf 1 (c := nI 1 = 0) (pc' := 58) (l' := [some (.ref 56), some (.int a), some (.int b), some (.int c), some (.int (nI 7)), some (.int (nI 59)), none]) (st' := []) (σ' := σ) (pc2 := 87) (l2 := [some (.ref 56), some (.int a), some (.int b), some (.int c), some (.int (nI 7)), some (.int (nI 59)), none]) (st2 := []) (σ2 := σ) (fun f => rfl) (by decide) ?_
              exact (hb b23).elim
            · refine pi_ct 1 (c := nI 0 = 0) (pc' := 87) (l' := [some (.ref 56), some (.int a), some (.int b), some (.int c), some (.int (nI 7)), some (.int (nI 59)), none]) (st' := []) (σ' := σ) (pc2 := 58) (l2 := [some (.ref 56), some (.int a), some (.int b), some (.int c), some (.int (nI 7)), some (.int (nI 59)), none]) (st2 := []) (σ2 := σ) (fun f => rfl) (by decide) ?_
              refine pi_rt 2 (v := some (.int (-2))) (σ' := σ) (fun f => rfl) ?_
              exact ⟨rfl, hm, pi_fr_rf⟩
set_option maxRecDepth 20000 in
theorem pi_M_meets {xs : Nat → Int32} {L d : Nat} {σ : pi_S} (x : Int32)  : pi_wp xs L d 162 0 [some (.ref 56), some (.int x)] [] σ (fun v s => v = some (.int ((-10) - x)) ∧ s 56 34 = x ∧ pi_fs 56 [34] s σ ∧ pi_fr [56] s σ) := by
  refine pi_go 3 (pc' := 5) (l' := [some (.ref 56), some (.int x)]) (st' := []) (σ' := (pi_up σ 56 34 x)) (fun f => rfl) ?_
  generalize es1 : pi_up σ 56 34 x = s1
  refine pi_rt 4 (v := some (.int ((-10) - x))) (σ' := s1) (fun f => rfl) ?_
  exact ⟨rfl, (congrFun (congrFun es1 56) 34).symm.trans (pi_up_ss _ _ _ _), pi_fs_up es1 (by decide) (pi_fs_rf), pi_fr_of es1 (by decide) (pi_fr_rf)⟩
/-- how many holds a sheet gives: as far as it goes, eight, or to what is no hold -/
def z_rs (W : zW) (k n : Nat) : Prop := n ≤ 8 ∧ n ≤ W.si k ∧ (∀ j, j < n → z_B 100 (W.it (48 * k + j))) ∧ (n = 8 ∨ n = W.si k ∨ ¬ z_B 100 (W.it (48 * k + n)))
theorem z_rs_at {W : zW} {k n i : Nat} (h : z_rs W k n) (hi : i ≤ n) (h2 : i = 8 ∨ i = W.si k ∨ ¬ z_B 100 (W.it (48 * k + i))) : n = i := by
  obtain ⟨h8, hs, hp, -⟩ := h
  rcases Nat.lt_or_eq_of_le hi with q | q
  · rcases h2 with h2 | h2 | h2
    · omega
    · omega
    · exact absurd (hp i q) h2
  · exact q.symm
def z_rh (W : zW) (k n : Nat) : Nat → Int32 := pi_lp (fun j f => upd f j (W.it (48 * k + j))) n W.hd
theorem z_rh_b {W : zW} (hk : z_wk W) {k n : Nat} (h : z_rs W k n) : ∀ j, j < 8 → ∃ b, b ≤ 99 ∧ z_rh W k n j = nI b := by
  obtain ⟨h8, hs, hp, -⟩ := h
  refine pi_lp_ind (P := fun (f : Nat → Int32) => ∀ j, j < 8 → ∃ b, b ≤ 99 ∧ f j = nI b) n (fun i hi f hf => ?_) W.hd hk.hd
  obtain ⟨b, hb, e⟩ := hp i hi
  rw [e]
  exact z_pb hf (by omega)
set_option maxRecDepth 20000 in
theorem pi_P_read_null {xs : Nat → Int32} {L d : Nat} {W : zW} {σ : pi_S} (hm : z_MR W σ) {k : Nat} (hk4 : k < 4) (h0 : W.th k = 0)  : pi_wp xs L (d + 9) 120 0 [some (.ref 56), some (.int (nI k)), none] [] σ (fun v s => v = some (.int ((-10) - (nI 1))) ∧ z_MR (W.sS 0 (nI 1)) s ∧ pi_fr z_RC s σ) := by
  have hk := hm.wk
  have hnd8 := hk.wd.nd8
  have hns12 := hk.wd.ns12
  have hn60 := hk.nine
  have hnf := hk.nf
  have hnw := hk.nw
  have hnc := hk.nc
  have hn08 := hk.wd.n0
  have hn140 := hk.wd.n1
  have hsi := hk.si k hk4
  refine pi_ca 2 (m' := 163) (l' := [some (.int (nI k))]) (σ' := σ) (pc2 := 4) (l2 := [some (.ref 56), some (.int (nI k)), none]) (t := []) (fun f => rfl) (pi_M_isSheetT ⟨_, by omega, rfl⟩) ?_
  rintro _ _ ⟨rfl, rfl⟩
  refine pi_cf 1 (c := nI 1 = 0) (pc' := 10) (l' := [some (.ref 56), some (.int (nI k)), none]) (st' := []) (σ' := σ) (pc2 := 7) (l2 := [some (.ref 56), some (.int (nI k)), none]) (st2 := []) (σ2 := σ) (fun f => rfl) (by decide) ?_
  refine pi_ai 4 (u := k) (n := 4) (g := σ 77) (pc' := 16) (l' := [some (.ref 56), some (.int (nI k)), none]) (t := []) (σ' := σ) (fun f => rfl) (by omega) (by omega) ?_
  refine pi_tp (y := nI (W.th k)) ((hm.th k (by omega))) ?_
  refine pi_ct 1 (c := nI (W.th k) = 0) (pc' := 19) (l' := [some (.ref 56), some (.int (nI k)), none]) (st' := []) (σ' := σ) (pc2 := 25) (l2 := [some (.ref 56), some (.int (nI k)), none]) (st2 := []) (σ2 := σ) (fun f => rfl) (congrArg nI h0) ?_
  refine pi_ca 3 (m' := 162) (l' := [some (.ref 56), some (.int (nI 1))]) (σ' := σ) (pc2 := 24) (l2 := [some (.ref 56), some (.int (nI k)), none]) (t := []) (fun f => rfl) (pi_M_meets (nI 1)) ?_
  rintro _ t1 ⟨rfl, et1, kt1, rt1⟩
  refine pi_rt 1 (v := some (.int ((-10) - (nI 1)))) (σ' := t1) (fun f => rfl) ?_
  have hfr : pi_fr [56] t1 σ := pi_fr_tr rt1 (by decide) (pi_fr_rf)
  exact ⟨rfl, hm.fnd (et1) (pi_fs_ca (kt1) (by decide) (pi_fs_rf)) hfr, pi_fr_tr hfr (by decide) pi_fr_rf⟩
set_option maxRecDepth 20000 in
theorem pi_P_read_bad {xs : Nat → Int32} {L d : Nat} {W : zW} {σ : pi_S} (hm : z_MR W σ) {a : Int32} (hb : ¬ (z_B 4 a))  : pi_wp xs L (d + 9) 120 0 [some (.ref 56), some (.int a), none] [] σ (fun v s => v = some (.int (-2)) ∧ z_MR W s ∧ pi_fr z_RC s σ) := by
  have hk := hm.wk
  have hnd8 := hk.wd.nd8
  have hns12 := hk.wd.ns12
  have hn60 := hk.nine
  have hnf := hk.nf
  have hnw := hk.nw
  have hnc := hk.nc
  have hn08 := hk.wd.n0
  have hn140 := hk.wd.n1
  refine pi_ca 2 (m' := 163) (l' := [some (.int a)]) (σ' := σ) (pc2 := 4) (l2 := [some (.ref 56), some (.int a), none]) (t := []) (fun f => rfl) (pi_M_isSheet a) ?_
  rintro _ _ (⟨b1, rfl, rfl⟩ | ⟨b1, rfl, rfl⟩)
  · refine pi_cf 1 (c := nI 1 = 0) (pc' := 10) (l' := [some (.ref 56), some (.int a), none]) (st' := []) (σ' := σ) (pc2 := 7) (l2 := [some (.ref 56), some (.int a), none]) (st2 := []) (σ2 := σ) (fun f => rfl) (by decide) ?_
    exact (hb b1).elim
  · refine pi_ct 1 (c := nI 0 = 0) (pc' := 7) (l' := [some (.ref 56), some (.int a), none]) (st' := []) (σ' := σ) (pc2 := 10) (l2 := [some (.ref 56), some (.int a), none]) (st2 := []) (σ2 := σ) (fun f => rfl) (by decide) ?_
    refine pi_rt 2 (v := some (.int (-2))) (σ' := σ) (fun f => rfl) ?_
    exact ⟨rfl, hm, pi_fr_rf⟩
set_option maxRecDepth 20000 in
theorem pi_P_read {xs : Nat → Int32} {L d : Nat} {W : zW} {σ : pi_S} (hm : z_MR W σ) {k N : Nat} (hk4 : k < 4) (h1 : ¬ W.th k = 0) (hrs : z_rs W k N)  : pi_wp xs L (d + 9) 120 0 [some (.ref 56), some (.int (nI k)), none] [] σ (fun v s => v = some (.int (nI N)) ∧ z_MR (W.sI 2 (z_rh W k N)) s ∧ pi_fr z_RC s σ) := by
  have hk := hm.wk
  have hnd8 := hk.wd.nd8
  have hns12 := hk.wd.ns12
  have hn60 := hk.nine
  have hnf := hk.nf
  have hnw := hk.nw
  have hnc := hk.nc
  have hn08 := hk.wd.n0
  have hn140 := hk.wd.n1
  have hsi := hk.si k hk4
  refine pi_ca 2 (m' := 163) (l' := [some (.int (nI k))]) (σ' := σ) (pc2 := 4) (l2 := [some (.ref 56), some (.int (nI k)), none]) (t := []) (fun f => rfl) (pi_M_isSheetT ⟨_, by omega, rfl⟩) ?_
  rintro _ _ ⟨rfl, rfl⟩
  refine pi_cf 1 (c := nI 1 = 0) (pc' := 10) (l' := [some (.ref 56), some (.int (nI k)), none]) (st' := []) (σ' := σ) (pc2 := 7) (l2 := [some (.ref 56), some (.int (nI k)), none]) (st2 := []) (σ2 := σ) (fun f => rfl) (by decide) ?_
  refine pi_ai 4 (u := k) (n := 4) (g := σ 77) (pc' := 16) (l' := [some (.ref 56), some (.int (nI k)), none]) (t := []) (σ' := σ) (fun f => rfl) (by omega) (by omega) ?_
  refine pi_tp (y := nI (W.th k)) ((hm.th k (by omega))) ?_
  refine pi_cf 1 (c := nI (W.th k) = 0) (pc' := 25) (l' := [some (.ref 56), some (.int (nI k)), none]) (st' := []) (σ' := σ) (pc2 := 19) (l2 := [some (.ref 56), some (.int (nI k)), none]) (st2 := []) (σ2 := σ) (fun f => rfl) (fun q => h1 ((nI_eq (by omega) (by omega)).mp q)) ?_
  refine pi_go 2 (pc' := 27) (l' := [some (.ref 56), some (.int (nI k)), some (.int (nI 0))]) (st' := []) (σ' := σ) (fun f => rfl) ?_
  suffices hl1 : ∀ i, i ≤ N → ∀ (z1 : pi_S), z1 63 = z_rh W k i → pi_fr [63] z1 σ → pi_wp xs L (d + 9) 120 27 [some (.ref 56), some (.int (nI k)), some (.int (nI i))] [] z1 (fun v s => v = some (.int (nI N)) ∧ z_MR (W.sI 2 (z_rh W k N)) s ∧ pi_fr z_RC s σ) from hl1 0 (by omega) _ (hm.hd) (pi_fr_rf)
  refine pi_lp0 ?_ ?_
  · intro z1 fz1_63 hrz1
    have hi8 : N ≤ 8 ∧ N ≤ W.si k := ⟨hrs.1, hrs.2.1⟩
    refine pi_ai 5 (u := k) (n := 4) (g := z1 79) (pc' := 34) (l' := [some (.ref 56), some (.int (nI k)), some (.int (nI N))]) (t := [.int (nI N)]) (σ' := z1) (fun f => rfl) (by omega) (by omega) ?_
    refine pi_tp (y := nI (W.si k)) ((congrFun (hrz1 79 (by decide)) k).trans ((hm.si k (by omega)))) ?_
    refine pi_if 1 (c := nI (W.si k) ≤ nI N) (pc' := 86) (l' := [some (.ref 56), some (.int (nI k)), some (.int (nI N))]) (st' := []) (σ' := z1) (pc2 := 37) (l2 := [some (.ref 56), some (.int (nI k)), some (.int (nI N))]) (st2 := []) (σ2 := z1) (fun f => rfl) (fun h1 => ?_) (fun h1 => ?_)
    · replace h1 : (W.si k) ≤ N := (nI_leI (by omega) (by omega)).mp h1
      refine pi_rt 2 (v := some (.int (nI N))) (σ' := z1) (fun f => rfl) ?_
      have hfr : pi_fr [63] z1 σ := pi_fr_tr hrz1 (by decide) (pi_fr_rf)
      exact ⟨rfl, hm.re (z_rh_b hk hrs) (fz1_63) (pi_fs_fr hrz1 (by decide) (pi_fs_rf)) hfr, pi_fr_tr hfr (by decide) pi_fr_rf⟩
    · replace h1 : ¬ ((W.si k) ≤ N) := fun zq => h1 ((nI_leI (by omega) (by omega)).mpr zq)
      refine pi_if 3 (c := nI 8 ≤ nI N) (pc' := 86) (l' := [some (.ref 56), some (.int (nI k)), some (.int (nI N))]) (st' := []) (σ' := z1) (pc2 := 43) (l2 := [some (.ref 56), some (.int (nI k)), some (.int (nI N))]) (st2 := []) (σ2 := z1) (fun f => rfl) (fun h2 => ?_) (fun h2 => ?_)
      · replace h2 : 8 ≤ N := (nI_leI (by omega) (by omega)).mp h2
        refine pi_rt 2 (v := some (.int (nI N))) (σ' := z1) (fun f => rfl) ?_
        have hfr : pi_fr [63] z1 σ := pi_fr_tr hrz1 (by decide) (pi_fr_rf)
        exact ⟨rfl, hm.re (z_rh_b hk hrs) (fz1_63) (pi_fs_fr hrz1 (by decide) (pi_fs_rf)) hfr, pi_fr_tr hfr (by decide) pi_fr_rf⟩
      · replace h2 : ¬ (8 ≤ N) := fun zq => h2 ((nI_leI (by omega) (by omega)).mpr zq)
        refine pi_go 5 (pc' := 51) (l' := [some (.ref 56), some (.int (nI k)), some (.int (nI N))]) (st' := [.int (nI 48 * nI k), .ref 80]) (σ' := z1) (fun f => rfl) ?_
        refine pi_tp (y := nI (48 * k)) (pk_mul _ _) ?_
        refine pi_go 2 (pc' := 53) (l' := [some (.ref 56), some (.int (nI k)), some (.int (nI N))]) (st' := [.int (nI (48 * k) + nI N), .ref 80]) (σ' := z1) (fun f => rfl) ?_
        refine pi_tp (y := nI (48 * k + N)) (nI_add _ _) ?_
        refine pi_ai 1 (u := 48 * k + N) (n := 192) (g := z1 80) (pc' := 54) (l' := [some (.ref 56), some (.int (nI k)), some (.int (nI N))]) (t := []) (σ' := z1) (fun f => rfl) (by omega) (by omega) ?_
        refine pi_tp (y := W.it (48 * k + N)) ((congrFun (hrz1 80 (by decide)) (48 * k + N)).trans (congrFun (hm.it) (48 * k + N))) ?_
        refine pi_ca 3 (m' := 100) (l' := [some (.int (W.it (48 * k + N))), some (.int (nI 0)), some (.int (nI 99))]) (σ' := z1) (pc2 := 60) (l2 := [some (.ref 56), some (.int (nI k)), some (.int (nI N))]) (t := []) (fun f => rfl) (pi_M_inB (p := z_B 100 (W.it (48 * k + N))) (z_B_in (by omega))) ?_
        rintro _ _ (⟨b3, rfl, rfl⟩ | ⟨b3, rfl, rfl⟩)
        · refine pi_cf 1 (c := nI 1 = 0) (pc' := 63) (l' := [some (.ref 56), some (.int (nI k)), some (.int (nI N))]) (st' := []) (σ' := z1) (pc2 := 86) (l2 := [some (.ref 56), some (.int (nI k)), some (.int (nI N))]) (st2 := []) (σ2 := z1) (fun f => rfl) (by decide) ?_
          exact absurd hrs.2.2.2 (fun q => q.elim (fun q => absurd q (by omega)) (fun q => q.elim (fun q => absurd q (by omega)) (fun q => q b3)))
        · refine pi_ct 1 (c := nI 0 = 0) (pc' := 86) (l' := [some (.ref 56), some (.int (nI k)), some (.int (nI N))]) (st' := []) (σ' := z1) (pc2 := 63) (l2 := [some (.ref 56), some (.int (nI k)), some (.int (nI N))]) (st2 := []) (σ2 := z1) (fun f => rfl) (by decide) ?_
          refine pi_rt 2 (v := some (.int (nI N))) (σ' := z1) (fun f => rfl) ?_
          have hfr : pi_fr [63] z1 σ := pi_fr_tr hrz1 (by decide) (pi_fr_rf)
          exact ⟨rfl, hm.re (z_rh_b hk hrs) (fz1_63) (pi_fs_fr hrz1 (by decide) (pi_fs_rf)) hfr, pi_fr_tr hfr (by decide) pi_fr_rf⟩
  · intro i hi1 ih1 z1 fz1_63 hrz1
    have hj : z_B 100 (W.it (48 * k + i)) := hrs.2.2.1 i hi1
    have hi8 : i < 8 ∧ i < W.si k := ⟨by have := hrs.1; omega, by have := hrs.2.1; omega⟩
    refine pi_ai 5 (u := k) (n := 4) (g := z1 79) (pc' := 34) (l' := [some (.ref 56), some (.int (nI k)), some (.int (nI i))]) (t := [.int (nI i)]) (σ' := z1) (fun f => rfl) (by omega) (by omega) ?_
    refine pi_tp (y := nI (W.si k)) ((congrFun (hrz1 79 (by decide)) k).trans ((hm.si k (by omega)))) ?_
    refine pi_cf 1 (c := nI (W.si k) ≤ nI i) (pc' := 37) (l' := [some (.ref 56), some (.int (nI k)), some (.int (nI i))]) (st' := []) (σ' := z1) (pc2 := 86) (l2 := [some (.ref 56), some (.int (nI k)), some (.int (nI i))]) (st2 := []) (σ2 := z1) (fun f => rfl) (fun zq => absurd ((show nI (W.si k) ≤ nI i ↔ _ from nI_leI (by omega) (by omega)).mp zq) (by omega)) ?_
    refine pi_cf 3 (c := nI 8 ≤ nI i) (pc' := 43) (l' := [some (.ref 56), some (.int (nI k)), some (.int (nI i))]) (st' := []) (σ' := z1) (pc2 := 86) (l2 := [some (.ref 56), some (.int (nI k)), some (.int (nI i))]) (st2 := []) (σ2 := z1) (fun f => rfl) (fun zq => absurd ((show nI 8 ≤ nI i ↔ _ from nI_leI (by omega) (by omega)).mp zq) (by omega)) ?_
    refine pi_go 5 (pc' := 51) (l' := [some (.ref 56), some (.int (nI k)), some (.int (nI i))]) (st' := [.int (nI 48 * nI k), .ref 80]) (σ' := z1) (fun f => rfl) ?_
    refine pi_tp (y := nI (48 * k)) (pk_mul _ _) ?_
    refine pi_go 2 (pc' := 53) (l' := [some (.ref 56), some (.int (nI k)), some (.int (nI i))]) (st' := [.int (nI (48 * k) + nI i), .ref 80]) (σ' := z1) (fun f => rfl) ?_
    refine pi_tp (y := nI (48 * k + i)) (nI_add _ _) ?_
    refine pi_ai 1 (u := 48 * k + i) (n := 192) (g := z1 80) (pc' := 54) (l' := [some (.ref 56), some (.int (nI k)), some (.int (nI i))]) (t := []) (σ' := z1) (fun f => rfl) (by omega) (by omega) ?_
    refine pi_tp (y := W.it (48 * k + i)) ((congrFun (hrz1 80 (by decide)) (48 * k + i)).trans (congrFun (hm.it) (48 * k + i))) ?_
    refine pi_ca 3 (m' := 100) (l' := [some (.int (W.it (48 * k + i))), some (.int (nI 0)), some (.int (nI 99))]) (σ' := z1) (pc2 := 60) (l2 := [some (.ref 56), some (.int (nI k)), some (.int (nI i))]) (t := []) (fun f => rfl) (pi_M_inT ((z_B_in (by omega)).mpr hj)) ?_
    rintro _ _ ⟨rfl, rfl⟩
    refine pi_cf 1 (c := nI 1 = 0) (pc' := 63) (l' := [some (.ref 56), some (.int (nI k)), some (.int (nI i))]) (st' := []) (σ' := z1) (pc2 := 86) (l2 := [some (.ref 56), some (.int (nI k)), some (.int (nI i))]) (st2 := []) (σ2 := z1) (fun f => rfl) (by decide) ?_
    refine pi_go 8 (pc' := 76) (l' := [some (.ref 56), some (.int (nI k)), some (.int (nI i))]) (st' := [.int (nI 48 * nI k), .ref 80, .int (nI i), .ref 63]) (σ' := z1) (fun f => rfl) ?_
    refine pi_tp (y := nI (48 * k)) (pk_mul _ _) ?_
    refine pi_go 2 (pc' := 78) (l' := [some (.ref 56), some (.int (nI k)), some (.int (nI i))]) (st' := [.int (nI (48 * k) + nI i), .ref 80, .int (nI i), .ref 63]) (σ' := z1) (fun f => rfl) ?_
    refine pi_tp (y := nI (48 * k + i)) (nI_add _ _) ?_
    refine pi_ai 1 (u := 48 * k + i) (n := 192) (g := z1 80) (pc' := 79) (l' := [some (.ref 56), some (.int (nI k)), some (.int (nI i))]) (t := [.int (nI i), .ref 63]) (σ' := z1) (fun f => rfl) (by omega) (by omega) ?_
    refine pi_tp (y := W.it (48 * k + i)) ((congrFun (hrz1 80 (by decide)) (48 * k + i)).trans (congrFun (hm.it) (48 * k + i))) ?_
    refine pi_au 1 (u := i) (n := 8) (a := 63) (x := W.it (48 * k + i)) (pc' := 80) (l' := [some (.ref 56), some (.int (nI k)), some (.int (nI i))]) (t := []) (σ' := z1) (fun f => rfl) (by omega) (by omega) ?_
    generalize es2 : pi_up z1 63 i (W.it (48 * k + i)) = s2
    refine pi_go 1 (pc' := 83) (l' := [some (.ref 56), some (.int (nI k)), some (.int (nI i + nI 1))]) (st' := []) (σ' := s2) (fun f => rfl) ?_
    rw [show nI i + nI 1 = nI (i + 1) from nI_add _ 1]
    refine pi_go 1 (pc' := 27) (l' := [some (.ref 56), some (.int (nI k)), some (.int (nI (i + 1)))]) (st' := []) (σ' := s2) (fun f => rfl) ?_
    exact ih1 _ ((congrFun es2 63).symm.trans ((pi_up_self _ _ _ _).trans (congrArg (fun z => upd z i (W.it (48 * k + i))) (fz1_63)))) (pi_fr_of es2 (by decide) (pi_fr_tr hrz1 (by decide) (pi_fr_rf)))
def z_c48 (k n : Nat) (g : Nat → Int32) : Nat → Int32 := pi_lp (fun j f => upd f (48 * k + j) (nI 0)) n g
theorem z_ltz {n : Nat} (h : n < 2 ^ 31) : ¬ nI n < 0 := by
  intro q
  rw [Int32.lt_iff_toInt_lt, nI_toInt h] at q
  have h2 : (0 : Int32).toInt = 0 := by decide
  omega
set_option maxRecDepth 20000 in
theorem pi_P_sheet_bad {xs : Nat → Int32} {L d : Nat} {W : zW} {σ : pi_S} (hm : z_MR W σ) {a b c : Int32} (hb : ¬ (z_B 4 a ∧ z_B 3 b ∧ c ≤ nI 48))  : pi_wp xs L (d + 9) 164 0 [some (.ref 56), some (.int a), some (.int b), some (.int c), none] [] σ (fun v s => v = some (.int (-2)) ∧ z_MR W s ∧ pi_fr z_RC s σ) := by
  have hk := hm.wk
  have hnd8 := hk.wd.nd8
  have hns12 := hk.wd.ns12
  have hn60 := hk.nine
  have hnf := hk.nf
  have hnw := hk.nw
  have hnc := hk.nc
  have hn08 := hk.wd.n0
  have hn140 := hk.wd.n1
  refine pi_ca 2 (m' := 163) (l' := [some (.int a)]) (σ' := σ) (pc2 := 4) (l2 := [some (.ref 56), some (.int a), some (.int b), some (.int c), none]) (t := []) (fun f => rfl) (pi_M_isSheet a) ?_
  rintro _ _ (⟨b1, rfl, rfl⟩ | ⟨b1, rfl, rfl⟩)
  · refine pi_cf 1 (c := nI 1 = 0) (pc' := 7) (l' := [some (.ref 56), some (.int a), some (.int b), some (.int c), none]) (st' := []) (σ' := σ) (pc2 := 22) (l2 := [some (.ref 56), some (.int a), some (.int b), some (.int c), none]) (st2 := []) (σ2 := σ) (fun f => rfl) (by decide) ?_
    refine pi_ca 4 (m' := 100) (l' := [some (.int b), some (.int (nI 0)), some (.int (nI 2))]) (σ' := σ) (pc2 := 13) (l2 := [some (.ref 56), some (.int a), some (.int b), some (.int c), none]) (t := []) (fun f => rfl) (pi_M_inB (p := z_B 3 b) (z_B_in (by omega))) ?_
    rintro _ _ (⟨b2, rfl, rfl⟩ | ⟨b2, rfl, rfl⟩)
    · refine pi_cf 1 (c := nI 1 = 0) (pc' := 16) (l' := [some (.ref 56), some (.int a), some (.int b), some (.int c), none]) (st' := []) (σ' := σ) (pc2 := 22) (l2 := [some (.ref 56), some (.int a), some (.int b), some (.int c), none]) (st2 := []) (σ2 := σ) (fun f => rfl) (by decide) ?_
      refine pi_if 3 (c := c ≤ nI 48) (pc' := 25) (l' := [some (.ref 56), some (.int a), some (.int b), some (.int c), none]) (st' := []) (σ' := σ) (pc2 := 22) (l2 := [some (.ref 56), some (.int a), some (.int b), some (.int c), none]) (st2 := []) (σ2 := σ) (fun f => rfl) (fun h3 => ?_) (fun h3 => ?_)
      · exact (hb ⟨b1, b2, h3⟩).elim
      · refine pi_rt 2 (v := some (.int (-2))) (σ' := σ) (fun f => rfl) ?_
        exact ⟨rfl, hm, pi_fr_rf⟩
    · refine pi_ct 1 (c := nI 0 = 0) (pc' := 22) (l' := [some (.ref 56), some (.int a), some (.int b), some (.int c), none]) (st' := []) (σ' := σ) (pc2 := 16) (l2 := [some (.ref 56), some (.int a), some (.int b), some (.int c), none]) (st2 := []) (σ2 := σ) (fun f => rfl) (by decide) ?_
      refine pi_rt 2 (v := some (.int (-2))) (σ' := σ) (fun f => rfl) ?_
      exact ⟨rfl, hm, pi_fr_rf⟩
  · refine pi_ct 1 (c := nI 0 = 0) (pc' := 22) (l' := [some (.ref 56), some (.int a), some (.int b), some (.int c), none]) (st' := []) (σ' := σ) (pc2 := 7) (l2 := [some (.ref 56), some (.int a), some (.int b), some (.int c), none]) (st2 := []) (σ2 := σ) (fun f => rfl) (by decide) ?_
    refine pi_rt 2 (v := some (.int (-2))) (σ' := σ) (fun f => rfl) ?_
    exact ⟨rfl, hm, pi_fr_rf⟩
set_option maxRecDepth 20000 in
theorem pi_P_sheet_neg {xs : Nat → Int32} {L d : Nat} {W : zW} {σ : pi_S} (hm : z_MR W σ) {k f : Nat} {c : Int32} (hk4 : k < 4) (hf3 : f < 3) (h48 : c ≤ nI 48) (hc : c < 0)  : pi_wp xs L (d + 9) 164 0 [some (.ref 56), some (.int (nI k)), some (.int (nI f)), some (.int c), none] [] σ (fun v s => v = some (.int ((-10) - (nI 5))) ∧ z_MR (W.sS 0 (nI 5)) s ∧ pi_fr z_RC s σ) := by
  have hk := hm.wk
  have hnd8 := hk.wd.nd8
  have hns12 := hk.wd.ns12
  have hn60 := hk.nine
  have hnf := hk.nf
  have hnw := hk.nw
  have hnc := hk.nc
  have hn08 := hk.wd.n0
  have hn140 := hk.wd.n1
  refine pi_ca 2 (m' := 163) (l' := [some (.int (nI k))]) (σ' := σ) (pc2 := 4) (l2 := [some (.ref 56), some (.int (nI k)), some (.int (nI f)), some (.int c), none]) (t := []) (fun f => rfl) (pi_M_isSheetT ⟨_, by omega, rfl⟩) ?_
  rintro _ _ ⟨rfl, rfl⟩
  refine pi_cf 1 (c := nI 1 = 0) (pc' := 7) (l' := [some (.ref 56), some (.int (nI k)), some (.int (nI f)), some (.int c), none]) (st' := []) (σ' := σ) (pc2 := 22) (l2 := [some (.ref 56), some (.int (nI k)), some (.int (nI f)), some (.int c), none]) (st2 := []) (σ2 := σ) (fun f => rfl) (by decide) ?_
  refine pi_ca 4 (m' := 100) (l' := [some (.int (nI f)), some (.int (nI 0)), some (.int (nI 2))]) (σ' := σ) (pc2 := 13) (l2 := [some (.ref 56), some (.int (nI k)), some (.int (nI f)), some (.int c), none]) (t := []) (fun f => rfl) (pi_M_inT ((z_B_in (by omega)).mpr (⟨_, by omega, rfl⟩))) ?_
  rintro _ _ ⟨rfl, rfl⟩
  refine pi_cf 1 (c := nI 1 = 0) (pc' := 16) (l' := [some (.ref 56), some (.int (nI k)), some (.int (nI f)), some (.int c), none]) (st' := []) (σ' := σ) (pc2 := 22) (l2 := [some (.ref 56), some (.int (nI k)), some (.int (nI f)), some (.int c), none]) (st2 := []) (σ2 := σ) (fun f => rfl) (by decide) ?_
  refine pi_ct 3 (c := c ≤ nI 48) (pc' := 25) (l' := [some (.ref 56), some (.int (nI k)), some (.int (nI f)), some (.int c), none]) (st' := []) (σ' := σ) (pc2 := 22) (l2 := [some (.ref 56), some (.int (nI k)), some (.int (nI f)), some (.int c), none]) (st2 := []) (σ2 := σ) (fun f => rfl) (h48) ?_
  refine pi_cf 2 (c := 0 ≤ c) (pc' := 29) (l' := [some (.ref 56), some (.int (nI k)), some (.int (nI f)), some (.int c), none]) (st' := []) (σ' := σ) (pc2 := 35) (l2 := [some (.ref 56), some (.int (nI k)), some (.int (nI f)), some (.int c), none]) (st2 := []) (σ2 := σ) (fun f => rfl) (fun q => Int32.not_lt.mpr q hc) ?_
  refine pi_ca 3 (m' := 162) (l' := [some (.ref 56), some (.int (nI 5))]) (σ' := σ) (pc2 := 34) (l2 := [some (.ref 56), some (.int (nI k)), some (.int (nI f)), some (.int c), none]) (t := []) (fun f => rfl) (pi_M_meets (nI 5)) ?_
  rintro _ t1 ⟨rfl, et1, kt1, rt1⟩
  refine pi_rt 1 (v := some (.int ((-10) - (nI 5)))) (σ' := t1) (fun f => rfl) ?_
  have hfr : pi_fr [56] t1 σ := pi_fr_tr rt1 (by decide) (pi_fr_rf)
  exact ⟨rfl, hm.fnd (et1) (pi_fs_ca (kt1) (by decide) (pi_fs_rf)) hfr, pi_fr_tr hfr (by decide) pi_fr_rf⟩
set_option maxRecDepth 20000 in
theorem pi_P_sheet {xs : Nat → Int32} {L d : Nat} {W : zW} {σ : pi_S} (hm : z_MR W σ) {k f n : Nat} (hk4 : k < 4) (hf3 : f < 3) (hn : n ≤ 48)  : pi_wp xs L (d + 9) 164 0 [some (.ref 56), some (.int (nI k)), some (.int (nI f)), some (.int (nI n)), none] [] σ (fun v s => v = some (.int (nI n)) ∧ z_MR ((((W.sF 8 (z_u W.th k 1)).sF 4 (z_u W.fo k f)).sF 5 (z_u W.si k n)).sI 9 (z_c48 k 48 W.it)) s ∧ pi_fr z_RC s σ) := by
  have hk := hm.wk
  have hnd8 := hk.wd.nd8
  have hns12 := hk.wd.ns12
  have hn60 := hk.nine
  have hnf := hk.nf
  have hnw := hk.nw
  have hnc := hk.nc
  have hn08 := hk.wd.n0
  have hn140 := hk.wd.n1
  have hsi := hk.si k hk4
  refine pi_ca 2 (m' := 163) (l' := [some (.int (nI k))]) (σ' := σ) (pc2 := 4) (l2 := [some (.ref 56), some (.int (nI k)), some (.int (nI f)), some (.int (nI n)), none]) (t := []) (fun f => rfl) (pi_M_isSheetT ⟨_, by omega, rfl⟩) ?_
  rintro _ _ ⟨rfl, rfl⟩
  refine pi_cf 1 (c := nI 1 = 0) (pc' := 7) (l' := [some (.ref 56), some (.int (nI k)), some (.int (nI f)), some (.int (nI n)), none]) (st' := []) (σ' := σ) (pc2 := 22) (l2 := [some (.ref 56), some (.int (nI k)), some (.int (nI f)), some (.int (nI n)), none]) (st2 := []) (σ2 := σ) (fun f => rfl) (by decide) ?_
  refine pi_ca 4 (m' := 100) (l' := [some (.int (nI f)), some (.int (nI 0)), some (.int (nI 2))]) (σ' := σ) (pc2 := 13) (l2 := [some (.ref 56), some (.int (nI k)), some (.int (nI f)), some (.int (nI n)), none]) (t := []) (fun f => rfl) (pi_M_inT ((z_B_in (by omega)).mpr (⟨_, by omega, rfl⟩))) ?_
  rintro _ _ ⟨rfl, rfl⟩
  refine pi_cf 1 (c := nI 1 = 0) (pc' := 16) (l' := [some (.ref 56), some (.int (nI k)), some (.int (nI f)), some (.int (nI n)), none]) (st' := []) (σ' := σ) (pc2 := 22) (l2 := [some (.ref 56), some (.int (nI k)), some (.int (nI f)), some (.int (nI n)), none]) (st2 := []) (σ2 := σ) (fun f => rfl) (by decide) ?_
  refine pi_ct 3 (c := nI n ≤ nI 48) (pc' := 25) (l' := [some (.ref 56), some (.int (nI k)), some (.int (nI f)), some (.int (nI n)), none]) (st' := []) (σ' := σ) (pc2 := 22) (l2 := [some (.ref 56), some (.int (nI k)), some (.int (nI f)), some (.int (nI n)), none]) (st2 := []) (σ2 := σ) (fun f => rfl) ((nI_leI (by omega) (by omega)).mpr hn) ?_
  refine pi_ct 2 (c := 0 ≤ nI n) (pc' := 35) (l' := [some (.ref 56), some (.int (nI k)), some (.int (nI f)), some (.int (nI n)), none]) (st' := []) (σ' := σ) (pc2 := 29) (l2 := [some (.ref 56), some (.int (nI k)), some (.int (nI f)), some (.int (nI n)), none]) (st2 := []) (σ2 := σ) (fun f => rfl) (Int32.not_lt.mp (z_ltz (by omega))) ?_
  refine pi_au 5 (u := k) (n := 4) (a := 77) (x := vp_nar .boolean (nI 1)) (pc' := 42) (l' := [some (.ref 56), some (.int (nI k)), some (.int (nI f)), some (.int (nI n)), none]) (t := []) (σ' := σ) (fun f => rfl) (by omega) (by omega) ?_
  generalize es1 : pi_up σ 77 k (vp_nar .boolean (nI 1)) = s1
  refine pi_au 5 (u := k) (n := 4) (a := 78) (x := nI f) (pc' := 49) (l' := [some (.ref 56), some (.int (nI k)), some (.int (nI f)), some (.int (nI n)), none]) (t := []) (σ' := s1) (fun f => rfl) (by omega) (by omega) ?_
  generalize es2 : pi_up s1 78 k (nI f) = s2
  refine pi_au 5 (u := k) (n := 4) (a := 79) (x := nI n) (pc' := 56) (l' := [some (.ref 56), some (.int (nI k)), some (.int (nI f)), some (.int (nI n)), none]) (t := []) (σ' := s2) (fun f => rfl) (by omega) (by omega) ?_
  generalize es3 : pi_up s2 79 k (nI n) = s3
  refine pi_go 2 (pc' := 59) (l' := [some (.ref 56), some (.int (nI k)), some (.int (nI f)), some (.int (nI n)), some (.int (nI 0))]) (st' := []) (σ' := s3) (fun f => rfl) ?_
  suffices hl4 : ∀ i, i ≤ 48 → ∀ (z4 : pi_S), z4 77 = upd (σ 77) k (nI 1) → z4 78 = upd (σ 78) k (nI f) → z4 79 = upd (σ 79) k (nI n) → z4 80 = z_c48 k i W.it → pi_fr [77, 78, 79, 80] z4 σ → pi_wp xs L (d + 9) 164 59 [some (.ref 56), some (.int (nI k)), some (.int (nI f)), some (.int (nI n)), some (.int (nI i))] [] z4 (fun v s => v = some (.int (nI n)) ∧ z_MR ((((W.sF 8 (z_u W.th k 1)).sF 4 (z_u W.fo k f)).sF 5 (z_u W.si k n)).sI 9 (z_c48 k 48 W.it)) s ∧ pi_fr z_RC s σ) from hl4 0 (by omega) _ ((congrFun es3 77).symm.trans ((pi_up_ne _ _ _ (by decide)).trans ((congrFun es2 77).symm.trans ((pi_up_ne _ _ _ (by decide)).trans ((congrFun es1 77).symm.trans ((pi_up_self _ _ _ _))))))) ((congrFun es3 78).symm.trans ((pi_up_ne _ _ _ (by decide)).trans ((congrFun es2 78).symm.trans ((pi_up_self _ _ _ _).trans (congrArg (fun z => upd z k (nI f)) ((congrFun es1 78).symm.trans ((pi_up_ne _ _ _ (by decide))))))))) ((congrFun es3 79).symm.trans ((pi_up_self _ _ _ _).trans (congrArg (fun z => upd z k (nI n)) ((congrFun es2 79).symm.trans ((pi_up_ne _ _ _ (by decide)).trans ((congrFun es1 79).symm.trans ((pi_up_ne _ _ _ (by decide))))))))) ((congrFun es3 80).symm.trans ((pi_up_ne _ _ _ (by decide)).trans ((congrFun es2 80).symm.trans ((pi_up_ne _ _ _ (by decide)).trans ((congrFun es1 80).symm.trans ((pi_up_ne _ _ _ (by decide)).trans (hm.it))))))) (pi_fr_of es3 (by decide) (pi_fr_of es2 (by decide) (pi_fr_of es1 (by decide) (pi_fr_rf))))
  refine pi_lp0 ?_ ?_
  · intro z4 fz4_77 fz4_78 fz4_79 fz4_80 hrz4
    refine pi_ct 3 (c := nI 48 ≤ nI 48) (pc' := 85) (l' := [some (.ref 56), some (.int (nI k)), some (.int (nI f)), some (.int (nI n)), some (.int (nI 48))]) (st' := []) (σ' := z4) (pc2 := 66) (l2 := [some (.ref 56), some (.int (nI k)), some (.int (nI f)), some (.int (nI n)), some (.int (nI 48))]) (st2 := []) (σ2 := z4) (fun f => rfl) (by decide) ?_
    refine pi_rt 2 (v := some (.int (nI n))) (σ' := z4) (fun f => rfl) ?_
    have hfr : pi_fr [77, 78, 79, 80] z4 σ := pi_fr_tr hrz4 (by decide) (pi_fr_rf)
    exact ⟨rfl, hm.sheet hf3 hn (fz4_77) (fz4_78) (fz4_79) (fz4_80) (pi_fs_fr hrz4 (by decide) (pi_fs_rf)) hfr, pi_fr_tr hfr (by decide) pi_fr_rf⟩
  · intro i hi4 ih4 z4 fz4_77 fz4_78 fz4_79 fz4_80 hrz4
    refine pi_cf 3 (c := nI 48 ≤ nI i) (pc' := 66) (l' := [some (.ref 56), some (.int (nI k)), some (.int (nI f)), some (.int (nI n)), some (.int (nI i))]) (st' := []) (σ' := z4) (pc2 := 85) (l2 := [some (.ref 56), some (.int (nI k)), some (.int (nI f)), some (.int (nI n)), some (.int (nI i))]) (st2 := []) (σ2 := z4) (fun f => rfl) (fun zq => absurd ((show nI 48 ≤ nI i ↔ _ from nI_leI (by omega) (by omega)).mp zq) (by omega)) ?_
    refine pi_go 5 (pc' := 74) (l' := [some (.ref 56), some (.int (nI k)), some (.int (nI f)), some (.int (nI n)), some (.int (nI i))]) (st' := [.int (nI 48 * nI k), .ref 80]) (σ' := z4) (fun f => rfl) ?_
    refine pi_tp (y := nI (48 * k)) (pk_mul _ _) ?_
    refine pi_go 2 (pc' := 77) (l' := [some (.ref 56), some (.int (nI k)), some (.int (nI f)), some (.int (nI n)), some (.int (nI i))]) (st' := [.int (nI (48 * k) + nI i), .ref 80]) (σ' := z4) (fun f => rfl) ?_
    refine pi_tp (y := nI (48 * k + i)) (nI_add _ _) ?_
    refine pi_au 2 (u := 48 * k + i) (n := 192) (a := 80) (x := nI 0) (pc' := 79) (l' := [some (.ref 56), some (.int (nI k)), some (.int (nI f)), some (.int (nI n)), some (.int (nI i))]) (t := []) (σ' := z4) (fun f => rfl) (by omega) (by omega) ?_
    generalize es5 : pi_up z4 80 (48 * k + i) (nI 0) = s5
    refine pi_go 1 (pc' := 82) (l' := [some (.ref 56), some (.int (nI k)), some (.int (nI f)), some (.int (nI n)), some (.int (nI i + nI 1))]) (st' := []) (σ' := s5) (fun f => rfl) ?_
    rw [show nI i + nI 1 = nI (i + 1) from nI_add _ 1]
    refine pi_go 1 (pc' := 59) (l' := [some (.ref 56), some (.int (nI k)), some (.int (nI f)), some (.int (nI n)), some (.int (nI (i + 1)))]) (st' := []) (σ' := s5) (fun f => rfl) ?_
    exact ih4 _ ((congrFun es5 77).symm.trans ((pi_up_ne _ _ _ (by decide)).trans (fz4_77))) ((congrFun es5 78).symm.trans ((pi_up_ne _ _ _ (by decide)).trans (fz4_78))) ((congrFun es5 79).symm.trans ((pi_up_ne _ _ _ (by decide)).trans (fz4_79))) ((congrFun es5 80).symm.trans ((pi_up_self _ _ _ _).trans (congrArg (fun z => upd z (48 * k + i) (nI 0)) (fz4_80)))) (pi_fr_of es5 (by decide) (pi_fr_tr hrz4 (by decide) (pi_fr_rf)))
set_option maxRecDepth 20000 in
theorem pi_P_lose_null {xs : Nat → Int32} {L d : Nat} {W : zW} {σ : pi_S} (hm : z_MR W σ) {k : Nat} (hk4 : k < 4) (h0 : W.th k = 0)  : pi_wp xs L (d + 9) 165 0 [some (.ref 56), some (.int (nI k))] [] σ (fun v s => v = some (.int ((-10) - (nI 1))) ∧ z_MR (W.sS 0 (nI 1)) s ∧ pi_fr z_RC s σ) := by
  have hk := hm.wk
  have hnd8 := hk.wd.nd8
  have hns12 := hk.wd.ns12
  have hn60 := hk.nine
  have hnf := hk.nf
  have hnw := hk.nw
  have hnc := hk.nc
  have hn08 := hk.wd.n0
  have hn140 := hk.wd.n1
  have hsi := hk.si k hk4
  refine pi_ca 2 (m' := 163) (l' := [some (.int (nI k))]) (σ' := σ) (pc2 := 4) (l2 := [some (.ref 56), some (.int (nI k))]) (t := []) (fun f => rfl) (pi_M_isSheetT ⟨_, by omega, rfl⟩) ?_
  rintro _ _ ⟨rfl, rfl⟩
  refine pi_cf 1 (c := nI 1 = 0) (pc' := 10) (l' := [some (.ref 56), some (.int (nI k))]) (st' := []) (σ' := σ) (pc2 := 7) (l2 := [some (.ref 56), some (.int (nI k))]) (st2 := []) (σ2 := σ) (fun f => rfl) (by decide) ?_
  refine pi_ai 4 (u := k) (n := 4) (g := σ 77) (pc' := 16) (l' := [some (.ref 56), some (.int (nI k))]) (t := []) (σ' := σ) (fun f => rfl) (by omega) (by omega) ?_
  refine pi_tp (y := nI (W.th k)) ((hm.th k (by omega))) ?_
  refine pi_ct 1 (c := nI (W.th k) = 0) (pc' := 19) (l' := [some (.ref 56), some (.int (nI k))]) (st' := []) (σ' := σ) (pc2 := 25) (l2 := [some (.ref 56), some (.int (nI k))]) (st2 := []) (σ2 := σ) (fun f => rfl) (congrArg nI h0) ?_
  refine pi_ca 3 (m' := 162) (l' := [some (.ref 56), some (.int (nI 1))]) (σ' := σ) (pc2 := 24) (l2 := [some (.ref 56), some (.int (nI k))]) (t := []) (fun f => rfl) (pi_M_meets (nI 1)) ?_
  rintro _ t1 ⟨rfl, et1, kt1, rt1⟩
  refine pi_rt 1 (v := some (.int ((-10) - (nI 1)))) (σ' := t1) (fun f => rfl) ?_
  have hfr : pi_fr [56] t1 σ := pi_fr_tr rt1 (by decide) (pi_fr_rf)
  exact ⟨rfl, hm.fnd (et1) (pi_fs_ca (kt1) (by decide) (pi_fs_rf)) hfr, pi_fr_tr hfr (by decide) pi_fr_rf⟩
set_option maxRecDepth 20000 in
theorem pi_P_lose_bad {xs : Nat → Int32} {L d : Nat} {W : zW} {σ : pi_S} (hm : z_MR W σ) {a : Int32} (hb : ¬ (z_B 4 a))  : pi_wp xs L (d + 9) 165 0 [some (.ref 56), some (.int a)] [] σ (fun v s => v = some (.int (-2)) ∧ z_MR W s ∧ pi_fr z_RC s σ) := by
  have hk := hm.wk
  have hnd8 := hk.wd.nd8
  have hns12 := hk.wd.ns12
  have hn60 := hk.nine
  have hnf := hk.nf
  have hnw := hk.nw
  have hnc := hk.nc
  have hn08 := hk.wd.n0
  have hn140 := hk.wd.n1
  refine pi_ca 2 (m' := 163) (l' := [some (.int a)]) (σ' := σ) (pc2 := 4) (l2 := [some (.ref 56), some (.int a)]) (t := []) (fun f => rfl) (pi_M_isSheet a) ?_
  rintro _ _ (⟨b1, rfl, rfl⟩ | ⟨b1, rfl, rfl⟩)
  · refine pi_cf 1 (c := nI 1 = 0) (pc' := 10) (l' := [some (.ref 56), some (.int a)]) (st' := []) (σ' := σ) (pc2 := 7) (l2 := [some (.ref 56), some (.int a)]) (st2 := []) (σ2 := σ) (fun f => rfl) (by decide) ?_
    exact (hb b1).elim
  · refine pi_ct 1 (c := nI 0 = 0) (pc' := 7) (l' := [some (.ref 56), some (.int a)]) (st' := []) (σ' := σ) (pc2 := 10) (l2 := [some (.ref 56), some (.int a)]) (st2 := []) (σ2 := σ) (fun f => rfl) (by decide) ?_
    refine pi_rt 2 (v := some (.int (-2))) (σ' := σ) (fun f => rfl) ?_
    exact ⟨rfl, hm, pi_fr_rf⟩
set_option maxRecDepth 20000 in
theorem pi_P_lose {xs : Nat → Int32} {L d : Nat} {W : zW} {σ : pi_S} (hm : z_MR W σ) {k : Nat} (hk4 : k < 4) (h1 : ¬ W.th k = 0)  : pi_wp xs L (d + 9) 165 0 [some (.ref 56), some (.int (nI k))] [] σ (fun v s => v = some (.int (nI (W.si k))) ∧ z_MR (W.sF 8 (z_u W.th k 0)) s ∧ pi_fr z_RC s σ) := by
  have hk := hm.wk
  have hnd8 := hk.wd.nd8
  have hns12 := hk.wd.ns12
  have hn60 := hk.nine
  have hnf := hk.nf
  have hnw := hk.nw
  have hnc := hk.nc
  have hn08 := hk.wd.n0
  have hn140 := hk.wd.n1
  have hsi := hk.si k hk4
  refine pi_ca 2 (m' := 163) (l' := [some (.int (nI k))]) (σ' := σ) (pc2 := 4) (l2 := [some (.ref 56), some (.int (nI k))]) (t := []) (fun f => rfl) (pi_M_isSheetT ⟨_, by omega, rfl⟩) ?_
  rintro _ _ ⟨rfl, rfl⟩
  refine pi_cf 1 (c := nI 1 = 0) (pc' := 10) (l' := [some (.ref 56), some (.int (nI k))]) (st' := []) (σ' := σ) (pc2 := 7) (l2 := [some (.ref 56), some (.int (nI k))]) (st2 := []) (σ2 := σ) (fun f => rfl) (by decide) ?_
  refine pi_ai 4 (u := k) (n := 4) (g := σ 77) (pc' := 16) (l' := [some (.ref 56), some (.int (nI k))]) (t := []) (σ' := σ) (fun f => rfl) (by omega) (by omega) ?_
  refine pi_tp (y := nI (W.th k)) ((hm.th k (by omega))) ?_
  refine pi_cf 1 (c := nI (W.th k) = 0) (pc' := 25) (l' := [some (.ref 56), some (.int (nI k))]) (st' := []) (σ' := σ) (pc2 := 19) (l2 := [some (.ref 56), some (.int (nI k))]) (st2 := []) (σ2 := σ) (fun f => rfl) (fun q => h1 ((nI_eq (by omega) (by omega)).mp q)) ?_
  refine pi_au 5 (u := k) (n := 4) (a := 77) (x := vp_nar .boolean (nI 0)) (pc' := 32) (l' := [some (.ref 56), some (.int (nI k))]) (t := []) (σ' := σ) (fun f => rfl) (by omega) (by omega) ?_
  generalize es1 : pi_up σ 77 k (vp_nar .boolean (nI 0)) = s1
  refine pi_ai 4 (u := k) (n := 4) (g := s1 79) (pc' := 38) (l' := [some (.ref 56), some (.int (nI k))]) (t := []) (σ' := s1) (fun f => rfl) (by omega) (by omega) ?_
  refine pi_tp (y := nI (W.si k)) ((congrFun ((congrFun es1 79).symm.trans (pi_up_ne _ _ _ (by decide))) k).trans ((hm.si k (by omega)))) ?_
  refine pi_rt 1 (v := some (.int (nI (W.si k)))) (σ' := s1) (fun f => rfl) ?_
  have hfr : pi_fr [77] s1 σ := pi_fr_of es1 (by decide) (pi_fr_rf)
  exact ⟨rfl, hm.lose ((congrFun es1 77).symm.trans ((pi_up_self _ _ _ _).trans (congrArg (fun z => upd z _ _) (rfl)))) (pi_fs_ne es1 (by decide) (pi_fs_rf)) hfr, pi_fr_tr hfr (by decide) pi_fr_rf⟩
theorem pi_M_inN0 {xs : Nat → Int32} {L d : Nat} {σ : pi_S} {a : Int32} {b : Nat} (hb : b < 2 ^ 30) (h : ¬ z_B b a) : pi_wp xs L d 100 0 [some (.int a), some (.int (nI 0)), some (.int (nI b - nI 1))] [] σ (fun v s => v = some (.int (nI 0)) ∧ σ = s) :=
  pi_mo (fun v s q => q.elim (fun q => absurd ((z_in_iff hb).mp q.1) h) (fun q => q.2)) (pi_m_in a (nI 0) (nI b - nI 1))
theorem pi_M_inN1 {xs : Nat → Int32} {L d : Nat} {σ : pi_S} {a : Int32} {b : Nat} (hb : b < 2 ^ 30) (h : z_B b a) : pi_wp xs L d 100 0 [some (.int a), some (.int (nI 0)), some (.int (nI b - nI 1))] [] σ (fun v s => v = some (.int (nI 1)) ∧ σ = s) :=
  pi_mo (fun v s q => q.elim (fun q => q.2) (fun q => absurd ((z_in_iff hb).mpr h) q.1)) (pi_m_in a (nI 0) (nI b - nI 1))
set_option maxRecDepth 20000 in
theorem pi_M_lacks1 {xs : Nat → Int32} {L d : Nat} {W : zW} {σ : pi_S} (hm : z_MR W σ) {k f : Nat} {i : Int32} (hk4 : k < 4) (hf3 : f < 3) (h1 : W.th k = 0)  : pi_wp xs L (d + 1) 166 0 [some (.ref 56), some (.int (nI k)), some (.int (nI f)), some (.int i)] [] σ (fun v s => v = some (.int (nI 1)) ∧ σ = s) := by
  have hk := hm.wk
  have hnd8 := hk.wd.nd8
  have hns12 := hk.wd.ns12
  have hn60 := hk.nine
  have hnf := hk.nf
  have hnw := hk.nw
  have hnc := hk.nc
  have hn08 := hk.wd.n0
  have hn140 := hk.wd.n1
  have hsi := hk.si k hk4
  refine pi_ai 4 (u := k) (n := 4) (g := σ 77) (pc' := 6) (l' := [some (.ref 56), some (.int (nI k)), some (.int (nI f)), some (.int i)]) (t := []) (σ' := σ) (fun f => rfl) (by omega) (by omega) ?_
  refine pi_tp (y := nI (W.th k)) ((hm.th k (by omega))) ?_
  refine pi_ct 1 (c := nI (W.th k) = 0) (pc' := 9) (l' := [some (.ref 56), some (.int (nI k)), some (.int (nI f)), some (.int i)]) (st' := []) (σ' := σ) (pc2 := 13) (l2 := [some (.ref 56), some (.int (nI k)), some (.int (nI f)), some (.int i)]) (st2 := []) (σ2 := σ) (fun f => rfl) (congrArg nI h1) ?_
  refine pi_rt 3 (v := some (.int (nI 1))) (σ' := σ) (fun f => rfl) ?_
  exact ⟨rfl, rfl⟩
set_option maxRecDepth 20000 in
theorem pi_M_lacks3 {xs : Nat → Int32} {L d : Nat} {W : zW} {σ : pi_S} (hm : z_MR W σ) {k f : Nat} {i : Int32} (hk4 : k < 4) (hf3 : f < 3) (h1 : ¬ W.th k = 0) (h3 : ¬ W.fo k = f)  : pi_wp xs L (d + 1) 166 0 [some (.ref 56), some (.int (nI k)), some (.int (nI f)), some (.int i)] [] σ (fun v s => v = some (.int (nI 3)) ∧ σ = s) := by
  have hk := hm.wk
  have hnd8 := hk.wd.nd8
  have hns12 := hk.wd.ns12
  have hn60 := hk.nine
  have hnf := hk.nf
  have hnw := hk.nw
  have hnc := hk.nc
  have hn08 := hk.wd.n0
  have hn140 := hk.wd.n1
  have hsi := hk.si k hk4
  refine pi_ai 4 (u := k) (n := 4) (g := σ 77) (pc' := 6) (l' := [some (.ref 56), some (.int (nI k)), some (.int (nI f)), some (.int i)]) (t := []) (σ' := σ) (fun f => rfl) (by omega) (by omega) ?_
  refine pi_tp (y := nI (W.th k)) ((hm.th k (by omega))) ?_
  refine pi_cf 1 (c := nI (W.th k) = 0) (pc' := 13) (l' := [some (.ref 56), some (.int (nI k)), some (.int (nI f)), some (.int i)]) (st' := []) (σ' := σ) (pc2 := 9) (l2 := [some (.ref 56), some (.int (nI k)), some (.int (nI f)), some (.int i)]) (st2 := []) (σ2 := σ) (fun f => rfl) (fun q => h1 ((nI_eq (by omega) (by omega)).mp q)) ?_
  refine pi_ai 4 (u := k) (n := 4) (g := σ 78) (pc' := 19) (l' := [some (.ref 56), some (.int (nI k)), some (.int (nI f)), some (.int i)]) (t := []) (σ' := σ) (fun f => rfl) (by omega) (by omega) ?_
  refine pi_tp (y := nI (W.fo k)) ((hm.fo k (by omega))) ?_
  refine pi_cf 2 (c := nI (W.fo k) = nI f) (pc' := 23) (l' := [some (.ref 56), some (.int (nI k)), some (.int (nI f)), some (.int i)]) (st' := []) (σ' := σ) (pc2 := 27) (l2 := [some (.ref 56), some (.int (nI k)), some (.int (nI f)), some (.int i)]) (st2 := []) (σ2 := σ) (fun f => rfl) (fun q => h3 ((nI_eq (by omega) (by omega)).mp q)) ?_
  refine pi_rt 3 (v := some (.int (nI 3))) (σ' := σ) (fun f => rfl) ?_
  exact ⟨rfl, rfl⟩
set_option maxRecDepth 20000 in
theorem pi_M_lacks2 {xs : Nat → Int32} {L d : Nat} {W : zW} {σ : pi_S} (hm : z_MR W σ) {k f : Nat} {i : Int32} (hk4 : k < 4) (hf3 : f < 3) (h1 : ¬ W.th k = 0) (h3 : W.fo k = f) (h2 : ¬ z_B (W.si k) i)  : pi_wp xs L (d + 1) 166 0 [some (.ref 56), some (.int (nI k)), some (.int (nI f)), some (.int i)] [] σ (fun v s => v = some (.int (nI 2)) ∧ σ = s) := by
  have hk := hm.wk
  have hnd8 := hk.wd.nd8
  have hns12 := hk.wd.ns12
  have hn60 := hk.nine
  have hnf := hk.nf
  have hnw := hk.nw
  have hnc := hk.nc
  have hn08 := hk.wd.n0
  have hn140 := hk.wd.n1
  have hsi := hk.si k hk4
  refine pi_ai 4 (u := k) (n := 4) (g := σ 77) (pc' := 6) (l' := [some (.ref 56), some (.int (nI k)), some (.int (nI f)), some (.int i)]) (t := []) (σ' := σ) (fun f => rfl) (by omega) (by omega) ?_
  refine pi_tp (y := nI (W.th k)) ((hm.th k (by omega))) ?_
  refine pi_cf 1 (c := nI (W.th k) = 0) (pc' := 13) (l' := [some (.ref 56), some (.int (nI k)), some (.int (nI f)), some (.int i)]) (st' := []) (σ' := σ) (pc2 := 9) (l2 := [some (.ref 56), some (.int (nI k)), some (.int (nI f)), some (.int i)]) (st2 := []) (σ2 := σ) (fun f => rfl) (fun q => h1 ((nI_eq (by omega) (by omega)).mp q)) ?_
  refine pi_ai 4 (u := k) (n := 4) (g := σ 78) (pc' := 19) (l' := [some (.ref 56), some (.int (nI k)), some (.int (nI f)), some (.int i)]) (t := []) (σ' := σ) (fun f => rfl) (by omega) (by omega) ?_
  refine pi_tp (y := nI (W.fo k)) ((hm.fo k (by omega))) ?_
  refine pi_ct 2 (c := nI (W.fo k) = nI f) (pc' := 27) (l' := [some (.ref 56), some (.int (nI k)), some (.int (nI f)), some (.int i)]) (st' := []) (σ' := σ) (pc2 := 23) (l2 := [some (.ref 56), some (.int (nI k)), some (.int (nI f)), some (.int i)]) (st2 := []) (σ2 := σ) (fun f => rfl) (congrArg nI h3) ?_
  refine pi_ai 6 (u := k) (n := 4) (g := σ 79) (pc' := 35) (l' := [some (.ref 56), some (.int (nI k)), some (.int (nI f)), some (.int i)]) (t := [.int (nI 0), .int i]) (σ' := σ) (fun f => rfl) (by omega) (by omega) ?_
  refine pi_tp (y := nI (W.si k)) ((hm.si k (by omega))) ?_
  refine pi_ca 3 (m' := 100) (l' := [some (.int i), some (.int (nI 0)), some (.int ((nI (W.si k)) - (nI 1)))]) (σ' := σ) (pc2 := 40) (l2 := [some (.ref 56), some (.int (nI k)), some (.int (nI f)), some (.int i)]) (t := []) (fun f => rfl) (pi_M_inN0 (by omega) h2) ?_
  rintro _ _ ⟨rfl, rfl⟩
  refine pi_ct 1 (c := nI 0 = 0) (pc' := 47) (l' := [some (.ref 56), some (.int (nI k)), some (.int (nI f)), some (.int i)]) (st' := []) (σ' := σ) (pc2 := 43) (l2 := [some (.ref 56), some (.int (nI k)), some (.int (nI f)), some (.int i)]) (st2 := []) (σ2 := σ) (fun f => rfl) (by decide) ?_
  refine pi_rt 2 (v := some (.int (nI 2))) (σ' := σ) (fun f => rfl) ?_
  exact ⟨rfl, rfl⟩
set_option maxRecDepth 20000 in
theorem pi_M_lacks0 {xs : Nat → Int32} {L d : Nat} {W : zW} {σ : pi_S} (hm : z_MR W σ) {k f : Nat} {i : Int32} (hk4 : k < 4) (hf3 : f < 3) (h1 : ¬ W.th k = 0) (h3 : W.fo k = f) (h2 : z_B (W.si k) i)  : pi_wp xs L (d + 1) 166 0 [some (.ref 56), some (.int (nI k)), some (.int (nI f)), some (.int i)] [] σ (fun v s => v = some (.int (nI 0)) ∧ σ = s) := by
  have hk := hm.wk
  have hnd8 := hk.wd.nd8
  have hns12 := hk.wd.ns12
  have hn60 := hk.nine
  have hnf := hk.nf
  have hnw := hk.nw
  have hnc := hk.nc
  have hn08 := hk.wd.n0
  have hn140 := hk.wd.n1
  have hsi := hk.si k hk4
  refine pi_ai 4 (u := k) (n := 4) (g := σ 77) (pc' := 6) (l' := [some (.ref 56), some (.int (nI k)), some (.int (nI f)), some (.int i)]) (t := []) (σ' := σ) (fun f => rfl) (by omega) (by omega) ?_
  refine pi_tp (y := nI (W.th k)) ((hm.th k (by omega))) ?_
  refine pi_cf 1 (c := nI (W.th k) = 0) (pc' := 13) (l' := [some (.ref 56), some (.int (nI k)), some (.int (nI f)), some (.int i)]) (st' := []) (σ' := σ) (pc2 := 9) (l2 := [some (.ref 56), some (.int (nI k)), some (.int (nI f)), some (.int i)]) (st2 := []) (σ2 := σ) (fun f => rfl) (fun q => h1 ((nI_eq (by omega) (by omega)).mp q)) ?_
  refine pi_ai 4 (u := k) (n := 4) (g := σ 78) (pc' := 19) (l' := [some (.ref 56), some (.int (nI k)), some (.int (nI f)), some (.int i)]) (t := []) (σ' := σ) (fun f => rfl) (by omega) (by omega) ?_
  refine pi_tp (y := nI (W.fo k)) ((hm.fo k (by omega))) ?_
  refine pi_ct 2 (c := nI (W.fo k) = nI f) (pc' := 27) (l' := [some (.ref 56), some (.int (nI k)), some (.int (nI f)), some (.int i)]) (st' := []) (σ' := σ) (pc2 := 23) (l2 := [some (.ref 56), some (.int (nI k)), some (.int (nI f)), some (.int i)]) (st2 := []) (σ2 := σ) (fun f => rfl) (congrArg nI h3) ?_
  refine pi_ai 6 (u := k) (n := 4) (g := σ 79) (pc' := 35) (l' := [some (.ref 56), some (.int (nI k)), some (.int (nI f)), some (.int i)]) (t := [.int (nI 0), .int i]) (σ' := σ) (fun f => rfl) (by omega) (by omega) ?_
  refine pi_tp (y := nI (W.si k)) ((hm.si k (by omega))) ?_
  refine pi_ca 3 (m' := 100) (l' := [some (.int i), some (.int (nI 0)), some (.int ((nI (W.si k)) - (nI 1)))]) (σ' := σ) (pc2 := 40) (l2 := [some (.ref 56), some (.int (nI k)), some (.int (nI f)), some (.int i)]) (t := []) (fun f => rfl) (pi_M_inN1 (by omega) h2) ?_
  rintro _ _ ⟨rfl, rfl⟩
  refine pi_cf 1 (c := nI 1 = 0) (pc' := 43) (l' := [some (.ref 56), some (.int (nI k)), some (.int (nI f)), some (.int i)]) (st' := []) (σ' := σ) (pc2 := 47) (l2 := [some (.ref 56), some (.int (nI k)), some (.int (nI f)), some (.int i)]) (st2 := []) (σ2 := σ) (fun f => rfl) (by decide) ?_
  refine pi_rt 3 (v := some (.int (nI 0))) (σ' := σ) (fun f => rfl) ?_
  exact ⟨rfl, rfl⟩
def z_nar (f : Nat) (v : Int32) : Int32 := if f = 0 then v.toInt8.toInt32 else if f = 1 then v.toInt16.toInt32 else v
set_option maxRecDepth 20000 in
theorem pi_M_keep {xs : Nat → Int32} {L d : Nat} {W : zW} {σ : pi_S} {k i : Nat} {x : Int32} (hk4 : k < 4) (hi : i < 48) (hfo : σ 78 k = nI (W.fo k)) (hf3 : W.fo k < 3)  : pi_wp xs L d 167 0 [some (.ref 56), some (.int (nI k)), some (.int (nI i)), some (.int x)] [] σ (fun v s => v = none ∧ s 80 = upd (σ 80) (48 * k + i) (z_nar (W.fo k) x) ∧ pi_fr [80] s σ) := by
  refine pi_go 5 (pc' := 8) (l' := [some (.ref 56), some (.int (nI k)), some (.int (nI i)), some (.int x)]) (st' := [.int (nI 48 * nI k), .ref 80]) (σ' := σ) (fun f => rfl) ?_
  refine pi_tp (y := nI (48 * k)) (pk_mul _ _) ?_
  refine pi_go 2 (pc' := 10) (l' := [some (.ref 56), some (.int (nI k)), some (.int (nI i)), some (.int x)]) (st' := [.int (nI (48 * k) + nI i), .ref 80]) (σ' := σ) (fun f => rfl) ?_
  refine pi_tp (y := nI (48 * k + i)) (nI_add _ _) ?_
  refine pi_ai 4 (u := k) (n := 4) (g := σ 78) (pc' := 16) (l' := [some (.ref 56), some (.int (nI k)), some (.int (nI i)), some (.int x)]) (t := [.int (nI (48 * k + i)), .ref 80]) (σ' := σ) (fun f => rfl) (by omega) (by omega) ?_
  refine pi_tp (y := nI (W.fo k)) (hfo) ?_
  refine pi_if 1 (c := nI (W.fo k) = 0) (pc' := 19) (l' := [some (.ref 56), some (.int (nI k)), some (.int (nI i)), some (.int x)]) (st' := [.int (nI (48 * k + i)), .ref 80]) (σ' := σ) (pc2 := 24) (l2 := [some (.ref 56), some (.int (nI k)), some (.int (nI i)), some (.int x)]) (st2 := [.int (nI (48 * k + i)), .ref 80]) (σ2 := σ) (fun f => rfl) (fun h1 => ?_) (fun h1 => ?_)
  · replace h1 : (W.fo k) = 0 := (show nI (W.fo k) = nI 0 ↔ _ from nI_eq (by omega) (by omega)).mp h1
    refine pi_au 4 (u := 48 * k + i) (n := 192) (a := 80) (x := (Int32.toInt8 x).toInt32) (pc' := 41) (l' := [some (.ref 56), some (.int (nI k)), some (.int (nI i)), some (.int x)]) (t := []) (σ' := σ) (fun f => rfl) (by omega) (by omega) ?_
    generalize es1 : pi_up σ 80 (48 * k + i) ((Int32.toInt8 x).toInt32) = s1
    refine pi_rt 1 (v := none) (σ' := s1) (fun f => rfl) ?_
    exact ⟨rfl, ((congrFun es1 80).symm.trans ((pi_up_self _ _ _ _).trans (congrArg (fun z => upd z _ _) (rfl)))).trans (congrArg (fun z => upd (σ 80) (48 * k + i) z) (show _ = z_nar (W.fo k) x from (if_pos h1).symm)), pi_fr_of es1 (by decide) pi_fr_rf⟩
  · replace h1 : ¬ ((W.fo k) = 0) := fun zq => h1 ((show nI (W.fo k) = nI 0 ↔ _ from nI_eq (by omega) (by omega)).mpr zq)
    refine pi_ai 4 (u := k) (n := 4) (g := σ 78) (pc' := 30) (l' := [some (.ref 56), some (.int (nI k)), some (.int (nI i)), some (.int x)]) (t := [.int (nI (48 * k + i)), .ref 80]) (σ' := σ) (fun f => rfl) (by omega) (by omega) ?_
    refine pi_tp (y := nI (W.fo k)) (hfo) ?_
    refine pi_if 2 (c := nI (W.fo k) = nI 1) (pc' := 34) (l' := [some (.ref 56), some (.int (nI k)), some (.int (nI i)), some (.int x)]) (st' := [.int (nI (48 * k + i)), .ref 80]) (σ' := σ) (pc2 := 39) (l2 := [some (.ref 56), some (.int (nI k)), some (.int (nI i)), some (.int x)]) (st2 := [.int (nI (48 * k + i)), .ref 80]) (σ2 := σ) (fun f => rfl) (fun h2 => ?_) (fun h2 => ?_)
    · replace h2 : (W.fo k) = 1 := (nI_eq (by omega) (by omega)).mp h2
      refine pi_au 4 (u := 48 * k + i) (n := 192) (a := 80) (x := (Int32.toInt16 x).toInt32) (pc' := 41) (l' := [some (.ref 56), some (.int (nI k)), some (.int (nI i)), some (.int x)]) (t := []) (σ' := σ) (fun f => rfl) (by omega) (by omega) ?_
      generalize es2 : pi_up σ 80 (48 * k + i) ((Int32.toInt16 x).toInt32) = s2
      refine pi_rt 1 (v := none) (σ' := s2) (fun f => rfl) ?_
      exact ⟨rfl, ((congrFun es2 80).symm.trans ((pi_up_self _ _ _ _).trans (congrArg (fun z => upd z _ _) (rfl)))).trans (congrArg (fun z => upd (σ 80) (48 * k + i) z) (show _ = z_nar (W.fo k) x from ((if_neg h1).trans (if_pos h2)).symm)), pi_fr_of es2 (by decide) pi_fr_rf⟩
    · replace h2 : ¬ ((W.fo k) = 1) := fun zq => h2 ((nI_eq (by omega) (by omega)).mpr zq)
      refine pi_au 2 (u := 48 * k + i) (n := 192) (a := 80) (x := x) (pc' := 41) (l' := [some (.ref 56), some (.int (nI k)), some (.int (nI i)), some (.int x)]) (t := []) (σ' := σ) (fun f => rfl) (by omega) (by omega) ?_
      generalize es3 : pi_up σ 80 (48 * k + i) x = s3
      refine pi_rt 1 (v := none) (σ' := s3) (fun f => rfl) ?_
      exact ⟨rfl, ((congrFun es3 80).symm.trans ((pi_up_self _ _ _ _).trans (congrArg (fun z => upd z _ _) (rfl)))).trans (congrArg (fun z => upd (σ 80) (48 * k + i) z) (show _ = z_nar (W.fo k) x from ((if_neg h1).trans (if_neg h2)).symm)), pi_fr_of es3 (by decide) pi_fr_rf⟩
set_option maxRecDepth 20000 in
theorem pi_P_put_bad {xs : Nat → Int32} {L d : Nat} {W : zW} {σ : pi_S} (hm : z_MR W σ) {a b c e : Int32} (hb : ¬ (z_B 4 a ∧ z_B 3 b))  : pi_wp xs L (d + 9) 168 0 [some (.ref 56), some (.int a), some (.int b), some (.int c), some (.int e), none] [] σ (fun v s => v = some (.int (-2)) ∧ z_MR W s ∧ pi_fr z_RC s σ) := by
  have hk := hm.wk
  have hnd8 := hk.wd.nd8
  have hns12 := hk.wd.ns12
  have hn60 := hk.nine
  have hnf := hk.nf
  have hnw := hk.nw
  have hnc := hk.nc
  have hn08 := hk.wd.n0
  have hn140 := hk.wd.n1
  refine pi_ca 2 (m' := 163) (l' := [some (.int a)]) (σ' := σ) (pc2 := 4) (l2 := [some (.ref 56), some (.int a), some (.int b), some (.int c), some (.int e), none]) (t := []) (fun f => rfl) (pi_M_isSheet a) ?_
  rintro _ _ (⟨b1, rfl, rfl⟩ | ⟨b1, rfl, rfl⟩)
  · refine pi_cf 1 (c := nI 1 = 0) (pc' := 7) (l' := [some (.ref 56), some (.int a), some (.int b), some (.int c), some (.int e), none]) (st' := []) (σ' := σ) (pc2 := 16) (l2 := [some (.ref 56), some (.int a), some (.int b), some (.int c), some (.int e), none]) (st2 := []) (σ2 := σ) (fun f => rfl) (by decide) ?_
    refine pi_ca 4 (m' := 100) (l' := [some (.int b), some (.int (nI 0)), some (.int (nI 2))]) (σ' := σ) (pc2 := 13) (l2 := [some (.ref 56), some (.int a), some (.int b), some (.int c), some (.int e), none]) (t := []) (fun f => rfl) (pi_M_inB (p := z_B 3 b) (z_B_in (by omega))) ?_
    rintro _ _ (⟨b2, rfl, rfl⟩ | ⟨b2, rfl, rfl⟩)
    · refine pi_cf 1 (c := nI 1 = 0) (pc' := 19) (l' := [some (.ref 56), some (.int a), some (.int b), some (.int c), some (.int e), none]) (st' := []) (σ' := σ) (pc2 := 16) (l2 := [some (.ref 56), some (.int a), some (.int b), some (.int c), some (.int e), none]) (st2 := []) (σ2 := σ) (fun f => rfl) (by decide) ?_
      exact (hb ⟨b1, b2⟩).elim
    · refine pi_ct 1 (c := nI 0 = 0) (pc' := 16) (l' := [some (.ref 56), some (.int a), some (.int b), some (.int c), some (.int e), none]) (st' := []) (σ' := σ) (pc2 := 19) (l2 := [some (.ref 56), some (.int a), some (.int b), some (.int c), some (.int e), none]) (st2 := []) (σ2 := σ) (fun f => rfl) (by decide) ?_
      refine pi_rt 2 (v := some (.int (-2))) (σ' := σ) (fun f => rfl) ?_
      exact ⟨rfl, hm, pi_fr_rf⟩
  · refine pi_ct 1 (c := nI 0 = 0) (pc' := 16) (l' := [some (.ref 56), some (.int a), some (.int b), some (.int c), some (.int e), none]) (st' := []) (σ' := σ) (pc2 := 7) (l2 := [some (.ref 56), some (.int a), some (.int b), some (.int c), some (.int e), none]) (st2 := []) (σ2 := σ) (fun f => rfl) (by decide) ?_
    refine pi_rt 2 (v := some (.int (-2))) (σ' := σ) (fun f => rfl) ?_
    exact ⟨rfl, hm, pi_fr_rf⟩
set_option maxRecDepth 20000 in
theorem pi_P_get_bad {xs : Nat → Int32} {L d : Nat} {W : zW} {σ : pi_S} (hm : z_MR W σ) {a b c : Int32} (hb : ¬ (z_B 4 a ∧ z_B 3 b))  : pi_wp xs L (d + 9) 169 0 [some (.ref 56), some (.int a), some (.int b), some (.int c), none] [] σ (fun v s => v = some (.int (Int32.ofNat 2147483648)) ∧ z_MR W s ∧ pi_fr z_RC s σ) := by
  have hk := hm.wk
  have hnd8 := hk.wd.nd8
  have hns12 := hk.wd.ns12
  have hn60 := hk.nine
  have hnf := hk.nf
  have hnw := hk.nw
  have hnc := hk.nc
  have hn08 := hk.wd.n0
  have hn140 := hk.wd.n1
  refine pi_ca 2 (m' := 163) (l' := [some (.int a)]) (σ' := σ) (pc2 := 4) (l2 := [some (.ref 56), some (.int a), some (.int b), some (.int c), none]) (t := []) (fun f => rfl) (pi_M_isSheet a) ?_
  rintro _ _ (⟨b1, rfl, rfl⟩ | ⟨b1, rfl, rfl⟩)
  · refine pi_cf 1 (c := nI 1 = 0) (pc' := 7) (l' := [some (.ref 56), some (.int a), some (.int b), some (.int c), none]) (st' := []) (σ' := σ) (pc2 := 16) (l2 := [some (.ref 56), some (.int a), some (.int b), some (.int c), none]) (st2 := []) (σ2 := σ) (fun f => rfl) (by decide) ?_
    refine pi_ca 4 (m' := 100) (l' := [some (.int b), some (.int (nI 0)), some (.int (nI 2))]) (σ' := σ) (pc2 := 13) (l2 := [some (.ref 56), some (.int a), some (.int b), some (.int c), none]) (t := []) (fun f => rfl) (pi_M_inB (p := z_B 3 b) (z_B_in (by omega))) ?_
    rintro _ _ (⟨b2, rfl, rfl⟩ | ⟨b2, rfl, rfl⟩)
    · refine pi_cf 1 (c := nI 1 = 0) (pc' := 20) (l' := [some (.ref 56), some (.int a), some (.int b), some (.int c), none]) (st' := []) (σ' := σ) (pc2 := 16) (l2 := [some (.ref 56), some (.int a), some (.int b), some (.int c), none]) (st2 := []) (σ2 := σ) (fun f => rfl) (by decide) ?_
      exact (hb ⟨b1, b2⟩).elim
    · refine pi_ct 1 (c := nI 0 = 0) (pc' := 16) (l' := [some (.ref 56), some (.int a), some (.int b), some (.int c), none]) (st' := []) (σ' := σ) (pc2 := 20) (l2 := [some (.ref 56), some (.int a), some (.int b), some (.int c), none]) (st2 := []) (σ2 := σ) (fun f => rfl) (by decide) ?_
      refine pi_rt 2 (v := some (.int (Int32.ofNat 2147483648))) (σ' := σ) (fun f => rfl) ?_
      exact ⟨rfl, hm, pi_fr_rf⟩
  · refine pi_ct 1 (c := nI 0 = 0) (pc' := 16) (l' := [some (.ref 56), some (.int a), some (.int b), some (.int c), none]) (st' := []) (σ' := σ) (pc2 := 7) (l2 := [some (.ref 56), some (.int a), some (.int b), some (.int c), none]) (st2 := []) (σ2 := σ) (fun f => rfl) (by decide) ?_
    refine pi_rt 2 (v := some (.int (Int32.ofNat 2147483648))) (σ' := σ) (fun f => rfl) ?_
    exact ⟨rfl, hm, pi_fr_rf⟩
set_option maxRecDepth 20000 in
theorem pi_P_put1 {xs : Nat → Int32} {L d : Nat} {W : zW} {σ : pi_S} (hm : z_MR W σ) {k f : Nat} {i x : Int32} (hk4 : k < 4) (hf3 : f < 3) (h1 : W.th k = 0)  : pi_wp xs L (d + 9) 168 0 [some (.ref 56), some (.int (nI k)), some (.int (nI f)), some (.int i), some (.int x), none] [] σ (fun v s => v = some (.int ((-10) - (nI 1))) ∧ z_MR (W.sS 0 (nI 1)) s ∧ pi_fr z_RC s σ) := by
  have hk := hm.wk
  have hnd8 := hk.wd.nd8
  have hns12 := hk.wd.ns12
  have hn60 := hk.nine
  have hnf := hk.nf
  have hnw := hk.nw
  have hnc := hk.nc
  have hn08 := hk.wd.n0
  have hn140 := hk.wd.n1
  refine pi_ca 2 (m' := 163) (l' := [some (.int (nI k))]) (σ' := σ) (pc2 := 4) (l2 := [some (.ref 56), some (.int (nI k)), some (.int (nI f)), some (.int i), some (.int x), none]) (t := []) (fun f => rfl) (pi_M_isSheetT ⟨_, by omega, rfl⟩) ?_
  rintro _ _ ⟨rfl, rfl⟩
  refine pi_cf 1 (c := nI 1 = 0) (pc' := 7) (l' := [some (.ref 56), some (.int (nI k)), some (.int (nI f)), some (.int i), some (.int x), none]) (st' := []) (σ' := σ) (pc2 := 16) (l2 := [some (.ref 56), some (.int (nI k)), some (.int (nI f)), some (.int i), some (.int x), none]) (st2 := []) (σ2 := σ) (fun f => rfl) (by decide) ?_
  refine pi_ca 4 (m' := 100) (l' := [some (.int (nI f)), some (.int (nI 0)), some (.int (nI 2))]) (σ' := σ) (pc2 := 13) (l2 := [some (.ref 56), some (.int (nI k)), some (.int (nI f)), some (.int i), some (.int x), none]) (t := []) (fun f => rfl) (pi_M_inT ((z_B_in (by omega)).mpr (⟨_, by omega, rfl⟩))) ?_
  rintro _ _ ⟨rfl, rfl⟩
  refine pi_cf 1 (c := nI 1 = 0) (pc' := 19) (l' := [some (.ref 56), some (.int (nI k)), some (.int (nI f)), some (.int i), some (.int x), none]) (st' := []) (σ' := σ) (pc2 := 16) (l2 := [some (.ref 56), some (.int (nI k)), some (.int (nI f)), some (.int i), some (.int x), none]) (st2 := []) (σ2 := σ) (fun f => rfl) (by decide) ?_
  refine pi_ca 5 (m' := 166) (l' := [some (.ref 56), some (.int (nI k)), some (.int (nI f)), some (.int i)]) (σ' := σ) (pc2 := 26) (l2 := [some (.ref 56), some (.int (nI k)), some (.int (nI f)), some (.int i), some (.int x), none]) (t := []) (fun f => rfl) (pi_M_lacks1 (i := i) hm hk4 hf3 h1) ?_
  rintro _ _ ⟨rfl, rfl⟩
  refine pi_cf 3 (c := nI 1 ≤ 0) (pc' := 33) (l' := [some (.ref 56), some (.int (nI k)), some (.int (nI f)), some (.int i), some (.int x), some (.int (nI 1))]) (st' := []) (σ' := σ) (pc2 := 40) (l2 := [some (.ref 56), some (.int (nI k)), some (.int (nI f)), some (.int i), some (.int x), some (.int (nI 1))]) (st2 := []) (σ2 := σ) (fun f => rfl) (by decide) ?_
  refine pi_ca 3 (m' := 162) (l' := [some (.ref 56), some (.int (nI 1))]) (σ' := σ) (pc2 := 39) (l2 := [some (.ref 56), some (.int (nI k)), some (.int (nI f)), some (.int i), some (.int x), some (.int (nI 1))]) (t := []) (fun f => rfl) (pi_M_meets (nI 1)) ?_
  rintro _ t1 ⟨rfl, et1, kt1, rt1⟩
  refine pi_rt 1 (v := some (.int ((-10) - (nI 1)))) (σ' := t1) (fun f => rfl) ?_
  have hfr : pi_fr [56] t1 σ := pi_fr_tr rt1 (by decide) (pi_fr_rf)
  exact ⟨rfl, hm.fnd (et1) (pi_fs_ca (kt1) (by decide) (pi_fs_rf)) hfr, pi_fr_tr hfr (by decide) pi_fr_rf⟩
set_option maxRecDepth 20000 in
theorem pi_P_get1 {xs : Nat → Int32} {L d : Nat} {W : zW} {σ : pi_S} (hm : z_MR W σ) {k f : Nat} {i : Int32} (hk4 : k < 4) (hf3 : f < 3) (h1 : W.th k = 0)  : pi_wp xs L (d + 9) 169 0 [some (.ref 56), some (.int (nI k)), some (.int (nI f)), some (.int i), none] [] σ (fun v s => v = some (.int (Int32.ofNat 2147483648)) ∧ z_MR (W.sS 0 (nI 1)) s ∧ pi_fr z_RC s σ) := by
  have hk := hm.wk
  have hnd8 := hk.wd.nd8
  have hns12 := hk.wd.ns12
  have hn60 := hk.nine
  have hnf := hk.nf
  have hnw := hk.nw
  have hnc := hk.nc
  have hn08 := hk.wd.n0
  have hn140 := hk.wd.n1
  refine pi_ca 2 (m' := 163) (l' := [some (.int (nI k))]) (σ' := σ) (pc2 := 4) (l2 := [some (.ref 56), some (.int (nI k)), some (.int (nI f)), some (.int i), none]) (t := []) (fun f => rfl) (pi_M_isSheetT ⟨_, by omega, rfl⟩) ?_
  rintro _ _ ⟨rfl, rfl⟩
  refine pi_cf 1 (c := nI 1 = 0) (pc' := 7) (l' := [some (.ref 56), some (.int (nI k)), some (.int (nI f)), some (.int i), none]) (st' := []) (σ' := σ) (pc2 := 16) (l2 := [some (.ref 56), some (.int (nI k)), some (.int (nI f)), some (.int i), none]) (st2 := []) (σ2 := σ) (fun f => rfl) (by decide) ?_
  refine pi_ca 4 (m' := 100) (l' := [some (.int (nI f)), some (.int (nI 0)), some (.int (nI 2))]) (σ' := σ) (pc2 := 13) (l2 := [some (.ref 56), some (.int (nI k)), some (.int (nI f)), some (.int i), none]) (t := []) (fun f => rfl) (pi_M_inT ((z_B_in (by omega)).mpr (⟨_, by omega, rfl⟩))) ?_
  rintro _ _ ⟨rfl, rfl⟩
  refine pi_cf 1 (c := nI 1 = 0) (pc' := 20) (l' := [some (.ref 56), some (.int (nI k)), some (.int (nI f)), some (.int i), none]) (st' := []) (σ' := σ) (pc2 := 16) (l2 := [some (.ref 56), some (.int (nI k)), some (.int (nI f)), some (.int i), none]) (st2 := []) (σ2 := σ) (fun f => rfl) (by decide) ?_
  refine pi_ca 5 (m' := 166) (l' := [some (.ref 56), some (.int (nI k)), some (.int (nI f)), some (.int i)]) (σ' := σ) (pc2 := 27) (l2 := [some (.ref 56), some (.int (nI k)), some (.int (nI f)), some (.int i), none]) (t := []) (fun f => rfl) (pi_M_lacks1 (i := i) hm hk4 hf3 h1) ?_
  rintro _ _ ⟨rfl, rfl⟩
  refine pi_cf 3 (c := nI 1 ≤ 0) (pc' := 34) (l' := [some (.ref 56), some (.int (nI k)), some (.int (nI f)), some (.int i), some (.int (nI 1))]) (st' := []) (σ' := σ) (pc2 := 44) (l2 := [some (.ref 56), some (.int (nI k)), some (.int (nI f)), some (.int i), some (.int (nI 1))]) (st2 := []) (σ2 := σ) (fun f => rfl) (by decide) ?_
  refine pi_go 3 (pc' := 40) (l' := [some (.ref 56), some (.int (nI k)), some (.int (nI f)), some (.int i), some (.int (nI 1))]) (st' := []) (σ' := (pi_up σ 56 34 (nI 1))) (fun f => rfl) ?_
  generalize es1 : pi_up σ 56 34 (nI 1) = s1
  refine pi_rt 2 (v := some (.int (Int32.ofNat 2147483648))) (σ' := s1) (fun f => rfl) ?_
  have hfr : pi_fr [56] s1 σ := pi_fr_of es1 (by decide) (pi_fr_rf)
  exact ⟨rfl, hm.fnd ((congrFun (congrFun es1 56) 34).symm.trans (pi_up_ss _ _ _ _)) (pi_fs_up es1 (by decide) (pi_fs_rf)) hfr, pi_fr_tr hfr (by decide) pi_fr_rf⟩
set_option maxRecDepth 20000 in
theorem pi_P_put3 {xs : Nat → Int32} {L d : Nat} {W : zW} {σ : pi_S} (hm : z_MR W σ) {k f : Nat} {i x : Int32} (hk4 : k < 4) (hf3 : f < 3) (h1 : ¬ W.th k = 0) (h3 : ¬ W.fo k = f)  : pi_wp xs L (d + 9) 168 0 [some (.ref 56), some (.int (nI k)), some (.int (nI f)), some (.int i), some (.int x), none] [] σ (fun v s => v = some (.int ((-10) - (nI 3))) ∧ z_MR (W.sS 0 (nI 3)) s ∧ pi_fr z_RC s σ) := by
  have hk := hm.wk
  have hnd8 := hk.wd.nd8
  have hns12 := hk.wd.ns12
  have hn60 := hk.nine
  have hnf := hk.nf
  have hnw := hk.nw
  have hnc := hk.nc
  have hn08 := hk.wd.n0
  have hn140 := hk.wd.n1
  refine pi_ca 2 (m' := 163) (l' := [some (.int (nI k))]) (σ' := σ) (pc2 := 4) (l2 := [some (.ref 56), some (.int (nI k)), some (.int (nI f)), some (.int i), some (.int x), none]) (t := []) (fun f => rfl) (pi_M_isSheetT ⟨_, by omega, rfl⟩) ?_
  rintro _ _ ⟨rfl, rfl⟩
  refine pi_cf 1 (c := nI 1 = 0) (pc' := 7) (l' := [some (.ref 56), some (.int (nI k)), some (.int (nI f)), some (.int i), some (.int x), none]) (st' := []) (σ' := σ) (pc2 := 16) (l2 := [some (.ref 56), some (.int (nI k)), some (.int (nI f)), some (.int i), some (.int x), none]) (st2 := []) (σ2 := σ) (fun f => rfl) (by decide) ?_
  refine pi_ca 4 (m' := 100) (l' := [some (.int (nI f)), some (.int (nI 0)), some (.int (nI 2))]) (σ' := σ) (pc2 := 13) (l2 := [some (.ref 56), some (.int (nI k)), some (.int (nI f)), some (.int i), some (.int x), none]) (t := []) (fun f => rfl) (pi_M_inT ((z_B_in (by omega)).mpr (⟨_, by omega, rfl⟩))) ?_
  rintro _ _ ⟨rfl, rfl⟩
  refine pi_cf 1 (c := nI 1 = 0) (pc' := 19) (l' := [some (.ref 56), some (.int (nI k)), some (.int (nI f)), some (.int i), some (.int x), none]) (st' := []) (σ' := σ) (pc2 := 16) (l2 := [some (.ref 56), some (.int (nI k)), some (.int (nI f)), some (.int i), some (.int x), none]) (st2 := []) (σ2 := σ) (fun f => rfl) (by decide) ?_
  refine pi_ca 5 (m' := 166) (l' := [some (.ref 56), some (.int (nI k)), some (.int (nI f)), some (.int i)]) (σ' := σ) (pc2 := 26) (l2 := [some (.ref 56), some (.int (nI k)), some (.int (nI f)), some (.int i), some (.int x), none]) (t := []) (fun f => rfl) (pi_M_lacks3 (i := i) hm hk4 hf3 h1 h3) ?_
  rintro _ _ ⟨rfl, rfl⟩
  refine pi_cf 3 (c := nI 3 ≤ 0) (pc' := 33) (l' := [some (.ref 56), some (.int (nI k)), some (.int (nI f)), some (.int i), some (.int x), some (.int (nI 3))]) (st' := []) (σ' := σ) (pc2 := 40) (l2 := [some (.ref 56), some (.int (nI k)), some (.int (nI f)), some (.int i), some (.int x), some (.int (nI 3))]) (st2 := []) (σ2 := σ) (fun f => rfl) (by decide) ?_
  refine pi_ca 3 (m' := 162) (l' := [some (.ref 56), some (.int (nI 3))]) (σ' := σ) (pc2 := 39) (l2 := [some (.ref 56), some (.int (nI k)), some (.int (nI f)), some (.int i), some (.int x), some (.int (nI 3))]) (t := []) (fun f => rfl) (pi_M_meets (nI 3)) ?_
  rintro _ t1 ⟨rfl, et1, kt1, rt1⟩
  refine pi_rt 1 (v := some (.int ((-10) - (nI 3)))) (σ' := t1) (fun f => rfl) ?_
  have hfr : pi_fr [56] t1 σ := pi_fr_tr rt1 (by decide) (pi_fr_rf)
  exact ⟨rfl, hm.fnd (et1) (pi_fs_ca (kt1) (by decide) (pi_fs_rf)) hfr, pi_fr_tr hfr (by decide) pi_fr_rf⟩
set_option maxRecDepth 20000 in
theorem pi_P_get3 {xs : Nat → Int32} {L d : Nat} {W : zW} {σ : pi_S} (hm : z_MR W σ) {k f : Nat} {i : Int32} (hk4 : k < 4) (hf3 : f < 3) (h1 : ¬ W.th k = 0) (h3 : ¬ W.fo k = f)  : pi_wp xs L (d + 9) 169 0 [some (.ref 56), some (.int (nI k)), some (.int (nI f)), some (.int i), none] [] σ (fun v s => v = some (.int (Int32.ofNat 2147483648)) ∧ z_MR (W.sS 0 (nI 3)) s ∧ pi_fr z_RC s σ) := by
  have hk := hm.wk
  have hnd8 := hk.wd.nd8
  have hns12 := hk.wd.ns12
  have hn60 := hk.nine
  have hnf := hk.nf
  have hnw := hk.nw
  have hnc := hk.nc
  have hn08 := hk.wd.n0
  have hn140 := hk.wd.n1
  refine pi_ca 2 (m' := 163) (l' := [some (.int (nI k))]) (σ' := σ) (pc2 := 4) (l2 := [some (.ref 56), some (.int (nI k)), some (.int (nI f)), some (.int i), none]) (t := []) (fun f => rfl) (pi_M_isSheetT ⟨_, by omega, rfl⟩) ?_
  rintro _ _ ⟨rfl, rfl⟩
  refine pi_cf 1 (c := nI 1 = 0) (pc' := 7) (l' := [some (.ref 56), some (.int (nI k)), some (.int (nI f)), some (.int i), none]) (st' := []) (σ' := σ) (pc2 := 16) (l2 := [some (.ref 56), some (.int (nI k)), some (.int (nI f)), some (.int i), none]) (st2 := []) (σ2 := σ) (fun f => rfl) (by decide) ?_
  refine pi_ca 4 (m' := 100) (l' := [some (.int (nI f)), some (.int (nI 0)), some (.int (nI 2))]) (σ' := σ) (pc2 := 13) (l2 := [some (.ref 56), some (.int (nI k)), some (.int (nI f)), some (.int i), none]) (t := []) (fun f => rfl) (pi_M_inT ((z_B_in (by omega)).mpr (⟨_, by omega, rfl⟩))) ?_
  rintro _ _ ⟨rfl, rfl⟩
  refine pi_cf 1 (c := nI 1 = 0) (pc' := 20) (l' := [some (.ref 56), some (.int (nI k)), some (.int (nI f)), some (.int i), none]) (st' := []) (σ' := σ) (pc2 := 16) (l2 := [some (.ref 56), some (.int (nI k)), some (.int (nI f)), some (.int i), none]) (st2 := []) (σ2 := σ) (fun f => rfl) (by decide) ?_
  refine pi_ca 5 (m' := 166) (l' := [some (.ref 56), some (.int (nI k)), some (.int (nI f)), some (.int i)]) (σ' := σ) (pc2 := 27) (l2 := [some (.ref 56), some (.int (nI k)), some (.int (nI f)), some (.int i), none]) (t := []) (fun f => rfl) (pi_M_lacks3 (i := i) hm hk4 hf3 h1 h3) ?_
  rintro _ _ ⟨rfl, rfl⟩
  refine pi_cf 3 (c := nI 3 ≤ 0) (pc' := 34) (l' := [some (.ref 56), some (.int (nI k)), some (.int (nI f)), some (.int i), some (.int (nI 3))]) (st' := []) (σ' := σ) (pc2 := 44) (l2 := [some (.ref 56), some (.int (nI k)), some (.int (nI f)), some (.int i), some (.int (nI 3))]) (st2 := []) (σ2 := σ) (fun f => rfl) (by decide) ?_
  refine pi_go 3 (pc' := 40) (l' := [some (.ref 56), some (.int (nI k)), some (.int (nI f)), some (.int i), some (.int (nI 3))]) (st' := []) (σ' := (pi_up σ 56 34 (nI 3))) (fun f => rfl) ?_
  generalize es1 : pi_up σ 56 34 (nI 3) = s1
  refine pi_rt 2 (v := some (.int (Int32.ofNat 2147483648))) (σ' := s1) (fun f => rfl) ?_
  have hfr : pi_fr [56] s1 σ := pi_fr_of es1 (by decide) (pi_fr_rf)
  exact ⟨rfl, hm.fnd ((congrFun (congrFun es1 56) 34).symm.trans (pi_up_ss _ _ _ _)) (pi_fs_up es1 (by decide) (pi_fs_rf)) hfr, pi_fr_tr hfr (by decide) pi_fr_rf⟩
set_option maxRecDepth 20000 in
theorem pi_P_put2 {xs : Nat → Int32} {L d : Nat} {W : zW} {σ : pi_S} (hm : z_MR W σ) {k f : Nat} {i x : Int32} (hk4 : k < 4) (hf3 : f < 3) (h1 : ¬ W.th k = 0) (h3 : W.fo k = f) (h2 : ¬ z_B (W.si k) i)  : pi_wp xs L (d + 9) 168 0 [some (.ref 56), some (.int (nI k)), some (.int (nI f)), some (.int i), some (.int x), none] [] σ (fun v s => v = some (.int ((-10) - (nI 2))) ∧ z_MR (W.sS 0 (nI 2)) s ∧ pi_fr z_RC s σ) := by
  have hk := hm.wk
  have hnd8 := hk.wd.nd8
  have hns12 := hk.wd.ns12
  have hn60 := hk.nine
  have hnf := hk.nf
  have hnw := hk.nw
  have hnc := hk.nc
  have hn08 := hk.wd.n0
  have hn140 := hk.wd.n1
  refine pi_ca 2 (m' := 163) (l' := [some (.int (nI k))]) (σ' := σ) (pc2 := 4) (l2 := [some (.ref 56), some (.int (nI k)), some (.int (nI f)), some (.int i), some (.int x), none]) (t := []) (fun f => rfl) (pi_M_isSheetT ⟨_, by omega, rfl⟩) ?_
  rintro _ _ ⟨rfl, rfl⟩
  refine pi_cf 1 (c := nI 1 = 0) (pc' := 7) (l' := [some (.ref 56), some (.int (nI k)), some (.int (nI f)), some (.int i), some (.int x), none]) (st' := []) (σ' := σ) (pc2 := 16) (l2 := [some (.ref 56), some (.int (nI k)), some (.int (nI f)), some (.int i), some (.int x), none]) (st2 := []) (σ2 := σ) (fun f => rfl) (by decide) ?_
  refine pi_ca 4 (m' := 100) (l' := [some (.int (nI f)), some (.int (nI 0)), some (.int (nI 2))]) (σ' := σ) (pc2 := 13) (l2 := [some (.ref 56), some (.int (nI k)), some (.int (nI f)), some (.int i), some (.int x), none]) (t := []) (fun f => rfl) (pi_M_inT ((z_B_in (by omega)).mpr (⟨_, by omega, rfl⟩))) ?_
  rintro _ _ ⟨rfl, rfl⟩
  refine pi_cf 1 (c := nI 1 = 0) (pc' := 19) (l' := [some (.ref 56), some (.int (nI k)), some (.int (nI f)), some (.int i), some (.int x), none]) (st' := []) (σ' := σ) (pc2 := 16) (l2 := [some (.ref 56), some (.int (nI k)), some (.int (nI f)), some (.int i), some (.int x), none]) (st2 := []) (σ2 := σ) (fun f => rfl) (by decide) ?_
  refine pi_ca 5 (m' := 166) (l' := [some (.ref 56), some (.int (nI k)), some (.int (nI f)), some (.int i)]) (σ' := σ) (pc2 := 26) (l2 := [some (.ref 56), some (.int (nI k)), some (.int (nI f)), some (.int i), some (.int x), none]) (t := []) (fun f => rfl) (pi_M_lacks2 (i := i) hm hk4 hf3 h1 h3 h2) ?_
  rintro _ _ ⟨rfl, rfl⟩
  refine pi_cf 3 (c := nI 2 ≤ 0) (pc' := 33) (l' := [some (.ref 56), some (.int (nI k)), some (.int (nI f)), some (.int i), some (.int x), some (.int (nI 2))]) (st' := []) (σ' := σ) (pc2 := 40) (l2 := [some (.ref 56), some (.int (nI k)), some (.int (nI f)), some (.int i), some (.int x), some (.int (nI 2))]) (st2 := []) (σ2 := σ) (fun f => rfl) (by decide) ?_
  refine pi_ca 3 (m' := 162) (l' := [some (.ref 56), some (.int (nI 2))]) (σ' := σ) (pc2 := 39) (l2 := [some (.ref 56), some (.int (nI k)), some (.int (nI f)), some (.int i), some (.int x), some (.int (nI 2))]) (t := []) (fun f => rfl) (pi_M_meets (nI 2)) ?_
  rintro _ t1 ⟨rfl, et1, kt1, rt1⟩
  refine pi_rt 1 (v := some (.int ((-10) - (nI 2)))) (σ' := t1) (fun f => rfl) ?_
  have hfr : pi_fr [56] t1 σ := pi_fr_tr rt1 (by decide) (pi_fr_rf)
  exact ⟨rfl, hm.fnd (et1) (pi_fs_ca (kt1) (by decide) (pi_fs_rf)) hfr, pi_fr_tr hfr (by decide) pi_fr_rf⟩
set_option maxRecDepth 20000 in
theorem pi_P_get2 {xs : Nat → Int32} {L d : Nat} {W : zW} {σ : pi_S} (hm : z_MR W σ) {k f : Nat} {i : Int32} (hk4 : k < 4) (hf3 : f < 3) (h1 : ¬ W.th k = 0) (h3 : W.fo k = f) (h2 : ¬ z_B (W.si k) i)  : pi_wp xs L (d + 9) 169 0 [some (.ref 56), some (.int (nI k)), some (.int (nI f)), some (.int i), none] [] σ (fun v s => v = some (.int (Int32.ofNat 2147483648)) ∧ z_MR (W.sS 0 (nI 2)) s ∧ pi_fr z_RC s σ) := by
  have hk := hm.wk
  have hnd8 := hk.wd.nd8
  have hns12 := hk.wd.ns12
  have hn60 := hk.nine
  have hnf := hk.nf
  have hnw := hk.nw
  have hnc := hk.nc
  have hn08 := hk.wd.n0
  have hn140 := hk.wd.n1
  refine pi_ca 2 (m' := 163) (l' := [some (.int (nI k))]) (σ' := σ) (pc2 := 4) (l2 := [some (.ref 56), some (.int (nI k)), some (.int (nI f)), some (.int i), none]) (t := []) (fun f => rfl) (pi_M_isSheetT ⟨_, by omega, rfl⟩) ?_
  rintro _ _ ⟨rfl, rfl⟩
  refine pi_cf 1 (c := nI 1 = 0) (pc' := 7) (l' := [some (.ref 56), some (.int (nI k)), some (.int (nI f)), some (.int i), none]) (st' := []) (σ' := σ) (pc2 := 16) (l2 := [some (.ref 56), some (.int (nI k)), some (.int (nI f)), some (.int i), none]) (st2 := []) (σ2 := σ) (fun f => rfl) (by decide) ?_
  refine pi_ca 4 (m' := 100) (l' := [some (.int (nI f)), some (.int (nI 0)), some (.int (nI 2))]) (σ' := σ) (pc2 := 13) (l2 := [some (.ref 56), some (.int (nI k)), some (.int (nI f)), some (.int i), none]) (t := []) (fun f => rfl) (pi_M_inT ((z_B_in (by omega)).mpr (⟨_, by omega, rfl⟩))) ?_
  rintro _ _ ⟨rfl, rfl⟩
  refine pi_cf 1 (c := nI 1 = 0) (pc' := 20) (l' := [some (.ref 56), some (.int (nI k)), some (.int (nI f)), some (.int i), none]) (st' := []) (σ' := σ) (pc2 := 16) (l2 := [some (.ref 56), some (.int (nI k)), some (.int (nI f)), some (.int i), none]) (st2 := []) (σ2 := σ) (fun f => rfl) (by decide) ?_
  refine pi_ca 5 (m' := 166) (l' := [some (.ref 56), some (.int (nI k)), some (.int (nI f)), some (.int i)]) (σ' := σ) (pc2 := 27) (l2 := [some (.ref 56), some (.int (nI k)), some (.int (nI f)), some (.int i), none]) (t := []) (fun f => rfl) (pi_M_lacks2 (i := i) hm hk4 hf3 h1 h3 h2) ?_
  rintro _ _ ⟨rfl, rfl⟩
  refine pi_cf 3 (c := nI 2 ≤ 0) (pc' := 34) (l' := [some (.ref 56), some (.int (nI k)), some (.int (nI f)), some (.int i), some (.int (nI 2))]) (st' := []) (σ' := σ) (pc2 := 44) (l2 := [some (.ref 56), some (.int (nI k)), some (.int (nI f)), some (.int i), some (.int (nI 2))]) (st2 := []) (σ2 := σ) (fun f => rfl) (by decide) ?_
  refine pi_go 3 (pc' := 40) (l' := [some (.ref 56), some (.int (nI k)), some (.int (nI f)), some (.int i), some (.int (nI 2))]) (st' := []) (σ' := (pi_up σ 56 34 (nI 2))) (fun f => rfl) ?_
  generalize es1 : pi_up σ 56 34 (nI 2) = s1
  refine pi_rt 2 (v := some (.int (Int32.ofNat 2147483648))) (σ' := s1) (fun f => rfl) ?_
  have hfr : pi_fr [56] s1 σ := pi_fr_of es1 (by decide) (pi_fr_rf)
  exact ⟨rfl, hm.fnd ((congrFun (congrFun es1 56) 34).symm.trans (pi_up_ss _ _ _ _)) (pi_fs_up es1 (by decide) (pi_fs_rf)) hfr, pi_fr_tr hfr (by decide) pi_fr_rf⟩
set_option maxRecDepth 20000 in
theorem pi_P_put {xs : Nat → Int32} {L d : Nat} {W : zW} {σ : pi_S} (hm : z_MR W σ) {k f i : Nat} {x : Int32} (hk4 : k < 4) (hf3 : f < 3) (h1 : ¬ W.th k = 0) (h3 : W.fo k = f) (h2 : i < W.si k)  : pi_wp xs L (d + 9) 168 0 [some (.ref 56), some (.int (nI k)), some (.int (nI f)), some (.int (nI i)), some (.int x), none] [] σ (fun v s => v = some (.int (nI 1)) ∧ z_MR (W.sI 9 (upd W.it (48 * k + i) (z_nar (W.fo k) x))) s ∧ pi_fr z_RC s σ) := by
  have hk := hm.wk
  have hnd8 := hk.wd.nd8
  have hns12 := hk.wd.ns12
  have hn60 := hk.nine
  have hnf := hk.nf
  have hnw := hk.nw
  have hnc := hk.nc
  have hn08 := hk.wd.n0
  have hn140 := hk.wd.n1
  have hsi := hk.si k hk4
  refine pi_ca 2 (m' := 163) (l' := [some (.int (nI k))]) (σ' := σ) (pc2 := 4) (l2 := [some (.ref 56), some (.int (nI k)), some (.int (nI f)), some (.int (nI i)), some (.int x), none]) (t := []) (fun f => rfl) (pi_M_isSheetT ⟨_, by omega, rfl⟩) ?_
  rintro _ _ ⟨rfl, rfl⟩
  refine pi_cf 1 (c := nI 1 = 0) (pc' := 7) (l' := [some (.ref 56), some (.int (nI k)), some (.int (nI f)), some (.int (nI i)), some (.int x), none]) (st' := []) (σ' := σ) (pc2 := 16) (l2 := [some (.ref 56), some (.int (nI k)), some (.int (nI f)), some (.int (nI i)), some (.int x), none]) (st2 := []) (σ2 := σ) (fun f => rfl) (by decide) ?_
  refine pi_ca 4 (m' := 100) (l' := [some (.int (nI f)), some (.int (nI 0)), some (.int (nI 2))]) (σ' := σ) (pc2 := 13) (l2 := [some (.ref 56), some (.int (nI k)), some (.int (nI f)), some (.int (nI i)), some (.int x), none]) (t := []) (fun f => rfl) (pi_M_inT ((z_B_in (by omega)).mpr (⟨_, by omega, rfl⟩))) ?_
  rintro _ _ ⟨rfl, rfl⟩
  refine pi_cf 1 (c := nI 1 = 0) (pc' := 19) (l' := [some (.ref 56), some (.int (nI k)), some (.int (nI f)), some (.int (nI i)), some (.int x), none]) (st' := []) (σ' := σ) (pc2 := 16) (l2 := [some (.ref 56), some (.int (nI k)), some (.int (nI f)), some (.int (nI i)), some (.int x), none]) (st2 := []) (σ2 := σ) (fun f => rfl) (by decide) ?_
  refine pi_ca 5 (m' := 166) (l' := [some (.ref 56), some (.int (nI k)), some (.int (nI f)), some (.int (nI i))]) (σ' := σ) (pc2 := 26) (l2 := [some (.ref 56), some (.int (nI k)), some (.int (nI f)), some (.int (nI i)), some (.int x), none]) (t := []) (fun f => rfl) (pi_M_lacks0 (i := nI i) hm hk4 hf3 h1 h3 ⟨i, h2, rfl⟩) ?_
  rintro _ _ ⟨rfl, rfl⟩
  refine pi_ct 3 (c := nI 0 ≤ 0) (pc' := 40) (l' := [some (.ref 56), some (.int (nI k)), some (.int (nI f)), some (.int (nI i)), some (.int x), some (.int (nI 0))]) (st' := []) (σ' := σ) (pc2 := 33) (l2 := [some (.ref 56), some (.int (nI k)), some (.int (nI f)), some (.int (nI i)), some (.int x), some (.int (nI 0))]) (st2 := []) (σ2 := σ) (fun f => rfl) (by decide) ?_
  refine pi_ca 5 (m' := 167) (l' := [some (.ref 56), some (.int (nI k)), some (.int (nI i)), some (.int x)]) (σ' := σ) (pc2 := 48) (l2 := [some (.ref 56), some (.int (nI k)), some (.int (nI f)), some (.int (nI i)), some (.int x), some (.int (nI 0))]) (t := []) (fun f => rfl) (pi_M_keep (W := W) (k := k) (i := i) (x := x) (by omega) (by omega) ((hm.fo k (by omega))) (hk.si k (by omega)).2.1) ?_
  rintro _ t1 ⟨rfl, et1, rt1⟩
  refine pi_rt 2 (v := some (.int (nI 1))) (σ' := t1) (fun f => rfl) ?_
  have hfr : pi_fr [80] t1 σ := pi_fr_tr rt1 (by decide) (pi_fr_rf)
  exact ⟨rfl, hm.it_ (et1.trans (congrArg (fun z => upd z _ _) (hm.it))) (pi_fs_fr rt1 (by decide) (pi_fs_rf)) (pi_fr_tr hfr (by decide) pi_fr_rf), pi_fr_tr hfr (by decide) pi_fr_rf⟩
set_option maxRecDepth 20000 in
theorem pi_P_get {xs : Nat → Int32} {L d : Nat} {W : zW} {σ : pi_S} (hm : z_MR W σ) {k f i : Nat} (hk4 : k < 4) (hf3 : f < 3) (h1 : ¬ W.th k = 0) (h3 : W.fo k = f) (h2 : i < W.si k)  : pi_wp xs L (d + 9) 169 0 [some (.ref 56), some (.int (nI k)), some (.int (nI f)), some (.int (nI i)), none] [] σ (fun v s => v = some (.int (W.it (48 * k + i))) ∧ z_MR W s ∧ pi_fr z_RC s σ) := by
  have hk := hm.wk
  have hnd8 := hk.wd.nd8
  have hns12 := hk.wd.ns12
  have hn60 := hk.nine
  have hnf := hk.nf
  have hnw := hk.nw
  have hnc := hk.nc
  have hn08 := hk.wd.n0
  have hn140 := hk.wd.n1
  have hsi := hk.si k hk4
  refine pi_ca 2 (m' := 163) (l' := [some (.int (nI k))]) (σ' := σ) (pc2 := 4) (l2 := [some (.ref 56), some (.int (nI k)), some (.int (nI f)), some (.int (nI i)), none]) (t := []) (fun f => rfl) (pi_M_isSheetT ⟨_, by omega, rfl⟩) ?_
  rintro _ _ ⟨rfl, rfl⟩
  refine pi_cf 1 (c := nI 1 = 0) (pc' := 7) (l' := [some (.ref 56), some (.int (nI k)), some (.int (nI f)), some (.int (nI i)), none]) (st' := []) (σ' := σ) (pc2 := 16) (l2 := [some (.ref 56), some (.int (nI k)), some (.int (nI f)), some (.int (nI i)), none]) (st2 := []) (σ2 := σ) (fun f => rfl) (by decide) ?_
  refine pi_ca 4 (m' := 100) (l' := [some (.int (nI f)), some (.int (nI 0)), some (.int (nI 2))]) (σ' := σ) (pc2 := 13) (l2 := [some (.ref 56), some (.int (nI k)), some (.int (nI f)), some (.int (nI i)), none]) (t := []) (fun f => rfl) (pi_M_inT ((z_B_in (by omega)).mpr (⟨_, by omega, rfl⟩))) ?_
  rintro _ _ ⟨rfl, rfl⟩
  refine pi_cf 1 (c := nI 1 = 0) (pc' := 20) (l' := [some (.ref 56), some (.int (nI k)), some (.int (nI f)), some (.int (nI i)), none]) (st' := []) (σ' := σ) (pc2 := 16) (l2 := [some (.ref 56), some (.int (nI k)), some (.int (nI f)), some (.int (nI i)), none]) (st2 := []) (σ2 := σ) (fun f => rfl) (by decide) ?_
  refine pi_ca 5 (m' := 166) (l' := [some (.ref 56), some (.int (nI k)), some (.int (nI f)), some (.int (nI i))]) (σ' := σ) (pc2 := 27) (l2 := [some (.ref 56), some (.int (nI k)), some (.int (nI f)), some (.int (nI i)), none]) (t := []) (fun f => rfl) (pi_M_lacks0 (i := nI i) hm hk4 hf3 h1 h3 ⟨i, h2, rfl⟩) ?_
  rintro _ _ ⟨rfl, rfl⟩
  refine pi_ct 3 (c := nI 0 ≤ 0) (pc' := 44) (l' := [some (.ref 56), some (.int (nI k)), some (.int (nI f)), some (.int (nI i)), some (.int (nI 0))]) (st' := []) (σ' := σ) (pc2 := 34) (l2 := [some (.ref 56), some (.int (nI k)), some (.int (nI f)), some (.int (nI i)), some (.int (nI 0))]) (st2 := []) (σ2 := σ) (fun f => rfl) (by decide) ?_
  refine pi_go 5 (pc' := 52) (l' := [some (.ref 56), some (.int (nI k)), some (.int (nI f)), some (.int (nI i)), some (.int (nI 0))]) (st' := [.int (nI 48 * nI k), .ref 80]) (σ' := σ) (fun f => rfl) ?_
  refine pi_tp (y := nI (48 * k)) (pk_mul _ _) ?_
  refine pi_go 2 (pc' := 54) (l' := [some (.ref 56), some (.int (nI k)), some (.int (nI f)), some (.int (nI i)), some (.int (nI 0))]) (st' := [.int (nI (48 * k) + nI i), .ref 80]) (σ' := σ) (fun f => rfl) ?_
  refine pi_tp (y := nI (48 * k + i)) (nI_add _ _) ?_
  refine pi_ai 1 (u := 48 * k + i) (n := 192) (g := σ 80) (pc' := 55) (l' := [some (.ref 56), some (.int (nI k)), some (.int (nI f)), some (.int (nI i)), some (.int (nI 0))]) (t := []) (σ' := σ) (fun f => rfl) (by omega) (by omega) ?_
  refine pi_tp (y := W.it (48 * k + i)) (congrFun (hm.it) (48 * k + i)) ?_
  refine pi_rt 1 (v := some (.int (W.it (48 * k + i)))) (σ' := σ) (fun f => rfl) ?_
  exact ⟨rfl, hm, pi_fr_rf⟩
