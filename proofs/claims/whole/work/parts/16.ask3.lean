set_option maxRecDepth 20000 in
theorem pi_M_whoOf {xs : Nat → Int32} {L d : Nat} {W : zW} {σ : pi_S} (hm : z_MR W σ) (hnf20 : W.nf ≤ 20) {mi kd dr : Nat} (hmi : mi < 60) (hkd : kd < 5) (hd : dr < 8)  : pi_wp xs L (d + 6) 156 0 [some (.ref 56), some (.int (nI mi)), some (.int (nI kd)), some (.int (nI dr)), none, none, none] [] σ (fun v s => v = some (.int (z_who W (nI mi) kd dr W.nd)) ∧ z_MT W s ∧ pi_fr z_RC s σ) := by
  have hk := hm.wk
  have hnd8 := hk.wd.nd8
  have hns12 := hk.wd.ns12
  have hn60 := hk.nine
  have hnf := hk.nf
  have hnw := hk.nw
  have hnc := hk.nc
  have hn08 := hk.wd.n0
  have hn140 := hk.wd.n1
  refine pi_ca 2 (m' := 132) (l' := [some (.ref 56)]) (σ' := σ) (pc2 := 4) (l2 := [some (.ref 56), some (.int (nI mi)), some (.int (nI kd)), some (.int (nI dr)), none, none, none]) (t := []) (fun f => rfl) (pi_M_runsAll hm ) ?_
  rintro _ t1 ⟨rfl, gt1, et1_4, et1_5, et1_25, et1_26, rt1⟩
  refine pi_go 5 (pc' := 11) (l' := [some (.ref 56), some (.int (nI mi)), some (.int (nI kd)), some (.int (nI dr)), none, none, none]) (st' := [.int (nI 5 * nI dr), .ref 74]) (σ' := t1) (fun f => rfl) ?_
  refine pi_tp (y := nI (5 * dr)) (pk_mul _ _) ?_
  refine pi_go 2 (pc' := 13) (l' := [some (.ref 56), some (.int (nI mi)), some (.int (nI kd)), some (.int (nI dr)), none, none, none]) (st' := [.int (nI (5 * dr) + nI kd), .ref 74]) (σ' := t1) (fun f => rfl) ?_
  refine pi_tp (y := nI (5 * dr + kd)) (nI_add _ _) ?_
  refine pi_ai 1 (u := 5 * dr + kd) (n := 40) (g := t1 74) (pc' := 14) (l' := [some (.ref 56), some (.int (nI mi)), some (.int (nI kd)), some (.int (nI dr)), none, none, none]) (t := []) (σ' := t1) (fun f => rfl) (by omega) (by omega) ?_
  refine pi_tp (y := ((z_A W).1.1.1) (5 * dr + kd)) (congrFun (et1_4) (5 * dr + kd)) ?_
  refine pi_go 5 (pc' := 22) (l' := [some (.ref 56), some (.int (nI mi)), some (.int (nI kd)), some (.int (nI dr)), some (.int (((z_A W).1.1.1) (5 * dr + kd))), some (.int (nI 0)), some (.int (nI 0))]) (st' := []) (σ' := t1) (fun f => rfl) ?_
  suffices hl2 : ∀ yd, yd ≤ W.nd → ∀ (z2 : pi_S), pi_fr z_RC z2 σ → (z_MT W z2 ∧ z2 56 26 = nI 0) → pi_wp xs L (d + 6) 156 22 [some (.ref 56), some (.int (nI mi)), some (.int (nI kd)), some (.int (nI dr)), some (.int ((z_A W).1.1.1 (5 * dr + kd))), some (.int (z_who W (nI mi) kd dr yd)), some (.int (nI yd))] [] z2 (fun v s => v = some (.int (z_who W (nI mi) kd dr W.nd)) ∧ z_MT W s ∧ pi_fr z_RC s σ) from hl2 0 (by omega) _ (pi_fr_t2 rt1 (pi_fr_rf)) (⟨gt1, et1_26⟩)
  refine pi_lp0 ?_ ?_
  · intro z2 hrz2 hx2
    refine pi_go 3 (pc' := 28) (l' := [some (.ref 56), some (.int (nI mi)), some (.int (nI kd)), some (.int (nI dr)), some (.int ((z_A W).1.1.1 (5 * dr + kd))), some (.int (z_who W (nI mi) kd dr W.nd)), some (.int (nI W.nd))]) (st' := [.int (z2 56 2), .int (nI W.nd)]) (σ' := z2) (fun f => rfl) ?_
    refine pi_tp (y := nI W.nd) (hx2.1.d2) ?_
    refine pi_ct 1 (c := nI W.nd ≤ nI W.nd) (pc' := 138) (l' := [some (.ref 56), some (.int (nI mi)), some (.int (nI kd)), some (.int (nI dr)), some (.int ((z_A W).1.1.1 (5 * dr + kd))), some (.int (z_who W (nI mi) kd dr W.nd)), some (.int (nI W.nd))]) (st' := []) (σ' := z2) (pc2 := 31) (l2 := [some (.ref 56), some (.int (nI mi)), some (.int (nI kd)), some (.int (nI dr)), some (.int ((z_A W).1.1.1 (5 * dr + kd))), some (.int (z_who W (nI mi) kd dr W.nd)), some (.int (nI W.nd))]) (st2 := []) (σ2 := z2) (fun f => rfl) ((show nI W.nd ≤ nI W.nd ↔ _ from nI_leI (by omega) (by omega)).mpr (by omega)) ?_
    refine pi_rt 2 (v := some (.int (z_who W (nI mi) kd dr W.nd))) (σ' := z2) (fun f => rfl) ?_
    exact ⟨rfl, hx2.1, pi_fr_t2 hrz2 (pi_fr_rf)⟩
  · intro yd hi2 ih2 z2 hrz2 hx2
    refine pi_go 3 (pc' := 28) (l' := [some (.ref 56), some (.int (nI mi)), some (.int (nI kd)), some (.int (nI dr)), some (.int ((z_A W).1.1.1 (5 * dr + kd))), some (.int (z_who W (nI mi) kd dr yd)), some (.int (nI yd))]) (st' := [.int (z2 56 2), .int (nI yd)]) (σ' := z2) (fun f => rfl) ?_
    refine pi_tp (y := nI W.nd) (hx2.1.d2) ?_
    refine pi_cf 1 (c := nI W.nd ≤ nI yd) (pc' := 31) (l' := [some (.ref 56), some (.int (nI mi)), some (.int (nI kd)), some (.int (nI dr)), some (.int ((z_A W).1.1.1 (5 * dr + kd))), some (.int (z_who W (nI mi) kd dr yd)), some (.int (nI yd))]) (st' := []) (σ' := z2) (pc2 := 138) (l2 := [some (.ref 56), some (.int (nI mi)), some (.int (nI kd)), some (.int (nI dr)), some (.int ((z_A W).1.1.1 (5 * dr + kd))), some (.int (z_who W (nI mi) kd dr yd)), some (.int (nI yd))]) (st2 := []) (σ2 := z2) (fun f => rfl) (fun zq => absurd ((show nI W.nd ≤ nI yd ↔ _ from nI_leI (by omega) (by omega)).mp zq) (by omega)) ?_
    refine pi_go 4 (pc' := 39) (l' := [some (.ref 56), some (.int (nI mi)), some (.int (nI kd)), some (.int (nI dr)), some (.int ((z_A W).1.1.1 (5 * dr + kd))), some (.int (z_who W (nI mi) kd dr yd)), some (.int (nI yd))]) (st' := [.int (z2 56 11), .ref 65]) (σ' := z2) (fun f => rfl) ?_
    refine pi_tp (y := nI W.nf) (hx2.1.mr.nf) ?_
    refine pi_au 2 (u := W.nf) (n := 21) (a := 65) (x := nI mi) (pc' := 41) (l' := [some (.ref 56), some (.int (nI mi)), some (.int (nI kd)), some (.int (nI dr)), some (.int ((z_A W).1.1.1 (5 * dr + kd))), some (.int (z_who W (nI mi) kd dr yd)), some (.int (nI yd))]) (t := []) (σ' := z2) (fun f => rfl) (by omega) (by omega) ?_
    generalize es3 : pi_up z2 65 W.nf (nI mi) = s3
    refine pi_go 4 (pc' := 49) (l' := [some (.ref 56), some (.int (nI mi)), some (.int (nI kd)), some (.int (nI dr)), some (.int ((z_A W).1.1.1 (5 * dr + kd))), some (.int (z_who W (nI mi) kd dr yd)), some (.int (nI yd))]) (st' := [.int (s3 56 11), .ref 66]) (σ' := s3) (fun f => rfl) ?_
    refine pi_tp (y := nI W.nf) ((congrFun ((congrFun es3 56).symm.trans (pi_up_ne _ _ _ (by decide))) 11).trans (hx2.1.mr.nf)) ?_
    refine pi_au 2 (u := W.nf) (n := 21) (a := 66) (x := nI yd) (pc' := 52) (l' := [some (.ref 56), some (.int (nI mi)), some (.int (nI kd)), some (.int (nI dr)), some (.int ((z_A W).1.1.1 (5 * dr + kd))), some (.int (z_who W (nI mi) kd dr yd)), some (.int (nI yd))]) (t := []) (σ' := s3) (fun f => rfl) (by omega) (by omega) ?_
    generalize es4 : pi_up s3 66 W.nf (nI yd) = s4
    refine pi_go 4 (pc' := 60) (l' := [some (.ref 56), some (.int (nI mi)), some (.int (nI kd)), some (.int (nI dr)), some (.int ((z_A W).1.1.1 (5 * dr + kd))), some (.int (z_who W (nI mi) kd dr yd)), some (.int (nI yd))]) (st' := [.int (s4 56 11), .ref 67]) (σ' := s4) (fun f => rfl) ?_
    refine pi_tp (y := nI W.nf) ((congrFun ((congrFun es4 56).symm.trans (pi_up_ne _ _ _ (by decide))) 11).trans ((congrFun ((congrFun es3 56).symm.trans (pi_up_ne _ _ _ (by decide))) 11).trans (hx2.1.mr.nf))) ?_
    refine pi_au 2 (u := W.nf) (n := 21) (a := 67) (x := nI kd) (pc' := 62) (l' := [some (.ref 56), some (.int (nI mi)), some (.int (nI kd)), some (.int (nI dr)), some (.int ((z_A W).1.1.1 (5 * dr + kd))), some (.int (z_who W (nI mi) kd dr yd)), some (.int (nI yd))]) (t := []) (σ' := s4) (fun f => rfl) (by omega) (by omega) ?_
    generalize es5 : pi_up s4 67 W.nf (nI kd) = s5
    refine pi_go 4 (pc' := 70) (l' := [some (.ref 56), some (.int (nI mi)), some (.int (nI kd)), some (.int (nI dr)), some (.int ((z_A W).1.1.1 (5 * dr + kd))), some (.int (z_who W (nI mi) kd dr yd)), some (.int (nI yd))]) (st' := [.int (s5 56 11), .ref 68]) (σ' := s5) (fun f => rfl) ?_
    refine pi_tp (y := nI W.nf) ((congrFun ((congrFun es5 56).symm.trans (pi_up_ne _ _ _ (by decide))) 11).trans ((congrFun ((congrFun es4 56).symm.trans (pi_up_ne _ _ _ (by decide))) 11).trans ((congrFun ((congrFun es3 56).symm.trans (pi_up_ne _ _ _ (by decide))) 11).trans (hx2.1.mr.nf)))) ?_
    refine pi_au 2 (u := W.nf) (n := 21) (a := 68) (x := nI 1) (pc' := 72) (l' := [some (.ref 56), some (.int (nI mi)), some (.int (nI kd)), some (.int (nI dr)), some (.int ((z_A W).1.1.1 (5 * dr + kd))), some (.int (z_who W (nI mi) kd dr yd)), some (.int (nI yd))]) (t := []) (σ' := s5) (fun f => rfl) (by omega) (by omega) ?_
    generalize es6 : pi_up s5 68 W.nf (nI 1) = s6
    refine pi_go 3 (pc' := 77) (l' := [some (.ref 56), some (.int (nI mi)), some (.int (nI kd)), some (.int (nI dr)), some (.int ((z_A W).1.1.1 (5 * dr + kd))), some (.int (z_who W (nI mi) kd dr yd)), some (.int (nI yd))]) (st' := [.int (s6 56 11), .ref 56]) (σ' := s6) (fun f => rfl) ?_
    refine pi_tp (y := nI W.nf) ((congrFun ((congrFun es6 56).symm.trans (pi_up_ne _ _ _ (by decide))) 11).trans ((congrFun ((congrFun es5 56).symm.trans (pi_up_ne _ _ _ (by decide))) 11).trans ((congrFun ((congrFun es4 56).symm.trans (pi_up_ne _ _ _ (by decide))) 11).trans ((congrFun ((congrFun es3 56).symm.trans (pi_up_ne _ _ _ (by decide))) 11).trans (hx2.1.mr.nf))))) ?_
    refine pi_go 2 (pc' := 79) (l' := [some (.ref 56), some (.int (nI mi)), some (.int (nI kd)), some (.int (nI dr)), some (.int ((z_A W).1.1.1 (5 * dr + kd))), some (.int (z_who W (nI mi) kd dr yd)), some (.int (nI yd))]) (st' := [.int (nI W.nf + nI 1), .ref 56]) (σ' := s6) (fun f => rfl) ?_
    refine pi_tp (y := nI (W.nf + 1)) (nI_add _ _) ?_
    refine pi_go 1 (pc' := 82) (l' := [some (.ref 56), some (.int (nI mi)), some (.int (nI kd)), some (.int (nI dr)), some (.int ((z_A W).1.1.1 (5 * dr + kd))), some (.int (z_who W (nI mi) kd dr yd)), some (.int (nI yd))]) (st' := []) (σ' := (pi_up s6 56 11 (nI (W.nf + 1)))) (fun f => rfl) ?_
    generalize es7 : pi_up s6 56 11 (nI (W.nf + 1)) = s7
    refine pi_go 3 (pc' := 87) (l' := [some (.ref 56), some (.int (nI mi)), some (.int (nI kd)), some (.int (nI dr)), some (.int ((z_A W).1.1.1 (5 * dr + kd))), some (.int (z_who W (nI mi) kd dr yd)), some (.int (nI yd))]) (st' := [.int (s7 56 10), .ref 56]) (σ' := s7) (fun f => rfl) ?_
    refine pi_tp (y := nI W.nine) ((congrFun (congrFun es7 56) 10).symm.trans ((pi_up_sn _ _ _ (by decide)).trans ((congrFun ((congrFun es6 56).symm.trans (pi_up_ne _ _ _ (by decide))) 10).trans ((congrFun ((congrFun es5 56).symm.trans (pi_up_ne _ _ _ (by decide))) 10).trans ((congrFun ((congrFun es4 56).symm.trans (pi_up_ne _ _ _ (by decide))) 10).trans ((congrFun ((congrFun es3 56).symm.trans (pi_up_ne _ _ _ (by decide))) 10).trans (hx2.1.mr.nine))))))) ?_
    have hW1 : z_MT (W.fall (nI mi) yd kd (nI 1)) s7 := z_MT.fall hx2.1 hnf20 (by omega) (by omega) (by omega) (by omega) ((congrFun es7 65).symm.trans ((pi_up_ne _ _ _ (by decide)).trans ((congrFun es6 65).symm.trans ((pi_up_ne _ _ _ (by decide)).trans ((congrFun es5 65).symm.trans ((pi_up_ne _ _ _ (by decide)).trans ((congrFun es4 65).symm.trans ((pi_up_ne _ _ _ (by decide)).trans ((congrFun es3 65).symm.trans ((pi_up_self _ _ _ _).trans (congrArg (fun z => upd z _ _) (rfl)))))))))))) ((congrFun es7 66).symm.trans ((pi_up_ne _ _ _ (by decide)).trans ((congrFun es6 66).symm.trans ((pi_up_ne _ _ _ (by decide)).trans ((congrFun es5 66).symm.trans ((pi_up_ne _ _ _ (by decide)).trans ((congrFun es4 66).symm.trans ((pi_up_self _ _ _ _).trans (congrArg (fun z => upd z _ _) ((congrFun es3 66).symm.trans ((pi_up_ne _ _ _ (by decide)).trans (rfl)))))))))))) ((congrFun es7 67).symm.trans ((pi_up_ne _ _ _ (by decide)).trans ((congrFun es6 67).symm.trans ((pi_up_ne _ _ _ (by decide)).trans ((congrFun es5 67).symm.trans ((pi_up_self _ _ _ _).trans (congrArg (fun z => upd z _ _) ((congrFun es4 67).symm.trans ((pi_up_ne _ _ _ (by decide)).trans ((congrFun es3 67).symm.trans ((pi_up_ne _ _ _ (by decide)).trans (rfl)))))))))))) ((congrFun es7 68).symm.trans ((pi_up_ne _ _ _ (by decide)).trans ((congrFun es6 68).symm.trans ((pi_up_self _ _ _ _).trans (congrArg (fun z => upd z _ _) ((congrFun es5 68).symm.trans ((pi_up_ne _ _ _ (by decide)).trans ((congrFun es4 68).symm.trans ((pi_up_ne _ _ _ (by decide)).trans ((congrFun es3 68).symm.trans ((pi_up_ne _ _ _ (by decide)).trans (rfl)))))))))))) ((congrFun (congrFun es7 56) 11).symm.trans (pi_up_ss _ _ _ _)) (pi_fs_up es7 (by decide) (pi_fs_ne es6 (by decide) (pi_fs_ne es5 (by decide) (pi_fs_ne es4 (by decide) (pi_fs_ne es3 (by decide) (pi_fs_rf)))))) (pi_fr_of es7 (by decide) (pi_fr_of es6 (by decide) (pi_fr_of es5 (by decide) (pi_fr_of es4 (by decide) (pi_fr_of es3 (by decide) (pi_fr_rf))))))
    refine pi_ca 3 (m' := 131) (l' := [some (.ref 56), some (.int (nI W.nine)), some (.int (-1)), some (.int (-1)), none, none]) (σ' := s7) (pc2 := 92) (l2 := [some (.ref 56), some (.int (nI mi)), some (.int (nI kd)), some (.int (nI dr)), some (.int ((z_A W).1.1.1 (5 * dr + kd))), some (.int (z_who W (nI mi) kd dr yd)), some (.int (nI yd))]) (t := []) (fun f => rfl) (pi_M_runs (W := (W.fall (nI mi) yd kd (nI 1))) (rw_ := (fun _ => 0)) hW1 ((congrFun (congrFun es7 56) 26).symm.trans ((pi_up_sn _ _ _ (by decide)).trans ((congrFun ((congrFun es6 56).symm.trans (pi_up_ne _ _ _ (by decide))) 26).trans ((congrFun ((congrFun es5 56).symm.trans (pi_up_ne _ _ _ (by decide))) 26).trans ((congrFun ((congrFun es4 56).symm.trans (pi_up_ne _ _ _ (by decide))) 26).trans ((congrFun ((congrFun es3 56).symm.trans (pi_up_ne _ _ _ (by decide))) 26).trans (hx2.2))))))) (by omega) (fun i hi => absurd hi (Nat.not_lt_zero i)) (by omega)) ?_
    rintro _ t8 ⟨rfl, gt8, et8_74, et8_75, et8_25, et8_28, kt8, qt8⟩
    refine pi_go 3 (pc' := 97) (l' := [some (.ref 56), some (.int (nI mi)), some (.int (nI kd)), some (.int (nI dr)), some (.int ((z_A W).1.1.1 (5 * dr + kd))), some (.int (z_who W (nI mi) kd dr yd)), some (.int (nI yd))]) (st' := [.int (t8 56 11), .ref 56]) (σ' := t8) (fun f => rfl) ?_
    refine pi_tp (y := nI (W.nf + 1)) (gt8.mr.nf) ?_
    refine pi_go 3 (pc' := 102) (l' := [some (.ref 56), some (.int (nI mi)), some (.int (nI kd)), some (.int (nI dr)), some (.int ((z_A W).1.1.1 (5 * dr + kd))), some (.int (z_who W (nI mi) kd dr yd)), some (.int (nI yd))]) (st' := []) (σ' := (pi_up t8 56 11 ((nI (W.nf + 1)) - (nI 1)))) (fun f => rfl) ?_
    generalize es9 : pi_up t8 56 11 ((nI (W.nf + 1)) - (nI 1)) = s9
    have hW2 : z_MT W s9 := z_MT.unfall gt8 hk (((congrFun (congrFun es9 56) 11).symm.trans (pi_up_ss _ _ _ _)).trans (nI_pred W.nf)) (pi_fs_up es9 (by decide) (pi_fs_rf)) (pi_fr_of es9 (by decide) (pi_fr_rf))
    refine pi_go 6 (pc' := 111) (l' := [some (.ref 56), some (.int (nI mi)), some (.int (nI kd)), some (.int (nI dr)), some (.int ((z_A W).1.1.1 (5 * dr + kd))), some (.int (z_who W (nI mi) kd dr yd)), some (.int (nI yd))]) (st' := [.int (nI 5 * nI dr), .ref 74, .int (z_who W (nI mi) kd dr yd)]) (σ' := s9) (fun f => rfl) ?_
    refine pi_tp (y := nI (5 * dr)) (pk_mul _ _) ?_
    refine pi_go 2 (pc' := 113) (l' := [some (.ref 56), some (.int (nI mi)), some (.int (nI kd)), some (.int (nI dr)), some (.int ((z_A W).1.1.1 (5 * dr + kd))), some (.int (z_who W (nI mi) kd dr yd)), some (.int (nI yd))]) (st' := [.int (nI (5 * dr) + nI kd), .ref 74, .int (z_who W (nI mi) kd dr yd)]) (σ' := s9) (fun f => rfl) ?_
    refine pi_tp (y := nI (5 * dr + kd)) (nI_add _ _) ?_
    refine pi_ai 1 (u := 5 * dr + kd) (n := 40) (g := s9 74) (pc' := 114) (l' := [some (.ref 56), some (.int (nI mi)), some (.int (nI kd)), some (.int (nI dr)), some (.int ((z_A W).1.1.1 (5 * dr + kd))), some (.int (z_who W (nI mi) kd dr yd)), some (.int (nI yd))]) (t := [.int (z_who W (nI mi) kd dr yd)]) (σ' := s9) (fun f => rfl) (by omega) (by omega) ?_
    refine pi_tp (y := ((z_A (W.fall (nI mi) yd kd (nI 1))).1.1.1) (5 * dr + kd)) ((congrFun ((congrFun es9 74).symm.trans (pi_up_ne _ _ _ (by decide))) (5 * dr + kd)).trans (congrFun (et8_74) (5 * dr + kd))) ?_
    refine pi_if 4 (c := ((z_A (W.fall (nI mi) yd kd (nI 1))).1.1.1) (5 * dr + kd) = ((z_A W).1.1.1 (5 * dr + kd)) + (nI 1)) (pc' := 121) (l' := [some (.ref 56), some (.int (nI mi)), some (.int (nI kd)), some (.int (nI dr)), some (.int ((z_A W).1.1.1 (5 * dr + kd))), some (.int (z_who W (nI mi) kd dr yd)), some (.int (nI yd))]) (st' := [.int (z_who W (nI mi) kd dr yd)]) (σ' := s9) (pc2 := 128) (l2 := [some (.ref 56), some (.int (nI mi)), some (.int (nI kd)), some (.int (nI dr)), some (.int ((z_A W).1.1.1 (5 * dr + kd))), some (.int (z_who W (nI mi) kd dr yd)), some (.int (nI yd))]) (st2 := [.int (z_who W (nI mi) kd dr yd)]) (σ2 := s9) (fun f => rfl) (fun h1 => ?_) (fun h1 => ?_)
    · refine pi_go 7 (pc' := 135) (l' := [some (.ref 56), some (.int (nI mi)), some (.int (nI kd)), some (.int (nI dr)), some (.int ((z_A W).1.1.1 (5 * dr + kd))), some (.int ((z_who W (nI mi) kd dr yd) ||| ((nI 1) <<< (nI yd &&& 31)))), some (.int (nI yd + nI 1))]) (st' := []) (σ' := s9) (fun f => rfl) ?_
      rw [show nI yd + nI 1 = nI (yd + 1) from nI_add _ 1]
      refine pi_go 1 (pc' := 22) (l' := [some (.ref 56), some (.int (nI mi)), some (.int (nI kd)), some (.int (nI dr)), some (.int ((z_A W).1.1.1 (5 * dr + kd))), some (.int ((z_who W (nI mi) kd dr yd) ||| ((nI 1) <<< (nI yd &&& 31)))), some (.int (nI (yd + 1)))]) (st' := []) (σ' := s9) (fun f => rfl) ?_
      rw [show some (Value.int ((z_who W (nI mi) kd dr yd) ||| ((nI 1) <<< (nI yd &&& 31)))) = some (Value.int (z_who W (nI mi) kd dr (yd + 1))) from congrArg (fun z => some (Value.int z)) (by rw [z_who_s, if_pos h1])]
      exact ih2 _ (pi_fr_of es9 (by decide) (pi_fr_tr qt8 (by decide) (pi_fr_of es7 (by decide) (pi_fr_of es6 (by decide) (pi_fr_of es5 (by decide) (pi_fr_of es4 (by decide) (pi_fr_of es3 (by decide) (pi_fr_t2 hrz2 (pi_fr_rf))))))))) (⟨hW2, (congrFun (congrFun es9 56) 26).symm.trans ((pi_up_sn _ _ _ (by decide)).trans ((kt8 26 (by decide)).trans ((congrFun (congrFun es7 56) 26).symm.trans ((pi_up_sn _ _ _ (by decide)).trans ((congrFun ((congrFun es6 56).symm.trans (pi_up_ne _ _ _ (by decide))) 26).trans ((congrFun ((congrFun es5 56).symm.trans (pi_up_ne _ _ _ (by decide))) 26).trans ((congrFun ((congrFun es4 56).symm.trans (pi_up_ne _ _ _ (by decide))) 26).trans ((congrFun ((congrFun es3 56).symm.trans (pi_up_ne _ _ _ (by decide))) 26).trans (hx2.2)))))))))⟩)
    · refine pi_go 4 (pc' := 135) (l' := [some (.ref 56), some (.int (nI mi)), some (.int (nI kd)), some (.int (nI dr)), some (.int ((z_A W).1.1.1 (5 * dr + kd))), some (.int ((z_who W (nI mi) kd dr yd) ||| (nI 0))), some (.int (nI yd + nI 1))]) (st' := []) (σ' := s9) (fun f => rfl) ?_
      rw [show nI yd + nI 1 = nI (yd + 1) from nI_add _ 1]
      refine pi_go 1 (pc' := 22) (l' := [some (.ref 56), some (.int (nI mi)), some (.int (nI kd)), some (.int (nI dr)), some (.int ((z_A W).1.1.1 (5 * dr + kd))), some (.int ((z_who W (nI mi) kd dr yd) ||| (nI 0))), some (.int (nI (yd + 1)))]) (st' := []) (σ' := s9) (fun f => rfl) ?_
      rw [show some (Value.int ((z_who W (nI mi) kd dr yd) ||| (nI 0))) = some (Value.int (z_who W (nI mi) kd dr (yd + 1))) from congrArg (fun z => some (Value.int z)) (by rw [z_who_s, if_neg h1])]
      exact ih2 _ (pi_fr_of es9 (by decide) (pi_fr_tr qt8 (by decide) (pi_fr_of es7 (by decide) (pi_fr_of es6 (by decide) (pi_fr_of es5 (by decide) (pi_fr_of es4 (by decide) (pi_fr_of es3 (by decide) (pi_fr_t2 hrz2 (pi_fr_rf))))))))) (⟨hW2, (congrFun (congrFun es9 56) 26).symm.trans ((pi_up_sn _ _ _ (by decide)).trans ((kt8 26 (by decide)).trans ((congrFun (congrFun es7 56) 26).symm.trans ((pi_up_sn _ _ _ (by decide)).trans ((congrFun ((congrFun es6 56).symm.trans (pi_up_ne _ _ _ (by decide))) 26).trans ((congrFun ((congrFun es5 56).symm.trans (pi_up_ne _ _ _ (by decide))) 26).trans ((congrFun ((congrFun es4 56).symm.trans (pi_up_ne _ _ _ (by decide))) 26).trans ((congrFun ((congrFun es3 56).symm.trans (pi_up_ne _ _ _ (by decide))) 26).trans (hx2.2)))))))))⟩)
set_option maxRecDepth 20000 in
theorem pi_M_isIn {xs : Nat → Int32} {L d : Nat} {σ : pi_S} (b k : Int32)  : pi_wp xs L d 101 0 [some (.int b), some (.int k)] [] σ (fun v s => v = some (.int (if z_bt b k = true then nI 1 else nI 0)) ∧ σ = s) := by
  refine pi_if 7 (c := (b >>> (k &&& 31)) &&& (nI 1) = nI 1) (pc' := 9) (l' := [some (.int b), some (.int k)]) (st' := []) (σ' := σ) (pc2 := 13) (l2 := [some (.int b), some (.int k)]) (st2 := []) (σ2 := σ) (fun f => rfl) (fun h1 => ?_) (fun h1 => ?_)
  · refine pi_rb 3 (c := (nI 1) &&& 1 = nI 1) (v := some (.int (nI 1))) (σ' := σ) (fun f => rfl) (by decide) ?_
    exact ⟨congrArg (fun z => some (Value.int z)) (if_pos (decide_eq_true h1)).symm, rfl⟩
  · refine pi_rb 2 (c := (nI 0) &&& 1 = nI 0) (v := some (.int (nI 0))) (σ' := σ) (fun f => rfl) (by decide) ?_
    exact ⟨congrArg (fun z => some (Value.int z)) (if_neg (fun q => h1 (of_decide_eq_true q))).symm, rfl⟩
theorem pi_M_isIn2 {xs : Nat → Int32} {L d : Nat} {σ : pi_S} (b k : Int32) : pi_wp xs L d 101 0 [some (.int b), some (.int k)] [] σ (fun v s => (z_bt b k = true ∧ v = some (.int (nI 1)) ∧ σ = s) ∨ (¬ z_bt b k = true ∧ v = some (.int (nI 0)) ∧ σ = s)) := by
  refine pi_mo (fun v s => ?_) (pi_M_isIn b k)
  rintro ⟨rfl, rfl⟩
  by_cases q : z_bt b k = true
  · exact Or.inl ⟨q, congrArg (fun z => some (Value.int z)) (if_pos q), rfl⟩
  · exact Or.inr ⟨q, congrArg (fun z => some (Value.int z)) (if_neg q), rfl⟩
set_option maxRecDepth 20000 in
theorem pi_M_reaches {xs : Nat → Int32} {L d : Nat} {W : zW} {σ : pi_S} (ht : z_MT W σ) {dr : Nat} (hd : dr < 2 ^ 30) (cut : Int32)  : pi_wp xs L (d + 1) 143 0 [some (.ref 56), some (.int (nI dr)), some (.int cut), none, none, none, none] [] σ (fun v s => v = some (.int (z_rc W.up W.lo W.ns dr cut)) ∧ z_MT W s ∧ pi_fr z_RC s σ) := by
  have hk := ht.mr.wk
  have hnd8 := hk.wd.nd8
  have hns12 := hk.wd.ns12
  have hn60 := hk.nine
  have hnf := hk.nf
  have hnw := hk.nw
  have hnc := hk.nc
  have hn08 := hk.wd.n0
  have hn140 := hk.wd.n1
  refine pi_go 4 (pc' := 5) (l' := [some (.ref 56), some (.int (nI dr)), some (.int cut), some (.int (nI 0)), some (.int (nI 0)), none, none]) (st' := []) (σ' := σ) (fun f => rfl) ?_
  suffices hl1 : ∀ tu, tu ≤ 8 → ∀ (j5 j6 : Option Value), pi_wp xs L (d + 1) 143 5 [some (.ref 56), some (.int (nI dr)), some (.int cut), some (.int (z_rch W.up W.lo W.ns dr cut tu)), some (.int (nI tu)), j5, j6] [] σ (fun v s => v = some (.int (z_rc W.up W.lo W.ns dr cut)) ∧ z_MT W s ∧ pi_fr z_RC s σ) from hl1 0 (by omega) _ _ 
  refine pi_lp0 ?_ ?_
  · intro j5 j6
    refine pi_ct 3 (c := nI 8 ≤ nI 8) (pc' := 98) (l' := [some (.ref 56), some (.int (nI dr)), some (.int cut), some (.int (z_rch W.up W.lo W.ns dr cut 8)), some (.int (nI 8)), j5, j6]) (st' := []) (σ' := σ) (pc2 := 12) (l2 := [some (.ref 56), some (.int (nI dr)), some (.int cut), some (.int (z_rch W.up W.lo W.ns dr cut 8)), some (.int (nI 8)), j5, j6]) (st2 := []) (σ2 := σ) (fun f => rfl) (by decide) ?_
    refine pi_rt 2 (v := some (.int (z_rch W.up W.lo W.ns dr cut 8))) (σ' := σ) (fun f => rfl) ?_
    exact ⟨rfl, ht, pi_fr_rf⟩
  · intro tu hi1 ih1 j5 j6
    refine pi_cf 3 (c := nI 8 ≤ nI tu) (pc' := 12) (l' := [some (.ref 56), some (.int (nI dr)), some (.int cut), some (.int (z_rch W.up W.lo W.ns dr cut tu)), some (.int (nI tu)), j5, j6]) (st' := []) (σ' := σ) (pc2 := 98) (l2 := [some (.ref 56), some (.int (nI dr)), some (.int cut), some (.int (z_rch W.up W.lo W.ns dr cut tu)), some (.int (nI tu)), j5, j6]) (st2 := []) (σ2 := σ) (fun f => rfl) (fun zq => absurd ((show nI 8 ≤ nI tu ↔ _ from nI_leI (by omega) (by omega)).mp zq) (by omega)) ?_
    refine pi_go 2 (pc' := 15) (l' := [some (.ref 56), some (.int (nI dr)), some (.int cut), some (.int (z_rch W.up W.lo W.ns dr cut tu)), some (.int (nI tu)), some (.int (nI 0)), j6]) (st' := []) (σ' := σ) (fun f => rfl) ?_
    suffices hl2 : ∀ k, k ≤ W.ns → ∀ (j6 : Option Value), pi_wp xs L (d + 1) 143 15 [some (.ref 56), some (.int (nI dr)), some (.int cut), some (.int (pi_lp (z_rc1 W.up W.lo dr cut) k (z_rch W.up W.lo W.ns dr cut tu))), some (.int (nI tu)), some (.int (nI k)), j6] [] σ (fun v s => v = some (.int (z_rc W.up W.lo W.ns dr cut)) ∧ z_MT W s ∧ pi_fr z_RC s σ) from hl2 0 (by omega) _ 
    refine pi_lp0 ?_ ?_
    · intro j6
      refine pi_go 3 (pc' := 21) (l' := [some (.ref 56), some (.int (nI dr)), some (.int cut), some (.int (pi_lp (z_rc1 W.up W.lo dr cut) W.ns (z_rch W.up W.lo W.ns dr cut tu))), some (.int (nI tu)), some (.int (nI W.ns)), j6]) (st' := [.int (σ 56 4), .int (nI W.ns)]) (σ' := σ) (fun f => rfl) ?_
      refine pi_tp (y := nI W.ns) (ht.d4) ?_
      refine pi_ct 1 (c := nI W.ns ≤ nI W.ns) (pc' := 92) (l' := [some (.ref 56), some (.int (nI dr)), some (.int cut), some (.int (pi_lp (z_rc1 W.up W.lo dr cut) W.ns (z_rch W.up W.lo W.ns dr cut tu))), some (.int (nI tu)), some (.int (nI W.ns)), j6]) (st' := []) (σ' := σ) (pc2 := 24) (l2 := [some (.ref 56), some (.int (nI dr)), some (.int cut), some (.int (pi_lp (z_rc1 W.up W.lo dr cut) W.ns (z_rch W.up W.lo W.ns dr cut tu))), some (.int (nI tu)), some (.int (nI W.ns)), j6]) (st2 := []) (σ2 := σ) (fun f => rfl) ((show nI W.ns ≤ nI W.ns ↔ _ from nI_leI (by omega) (by omega)).mpr (by omega)) ?_
      refine pi_go 1 (pc' := 95) (l' := [some (.ref 56), some (.int (nI dr)), some (.int cut), some (.int (pi_lp (z_rc1 W.up W.lo dr cut) W.ns (z_rch W.up W.lo W.ns dr cut tu))), some (.int (nI tu + nI 1)), some (.int (nI W.ns)), j6]) (st' := []) (σ' := σ) (fun f => rfl) ?_
      rw [show nI tu + nI 1 = nI (tu + 1) from nI_add _ 1]
      refine pi_go 1 (pc' := 5) (l' := [some (.ref 56), some (.int (nI dr)), some (.int cut), some (.int (pi_lp (z_rc1 W.up W.lo dr cut) W.ns (z_rch W.up W.lo W.ns dr cut tu))), some (.int (nI (tu + 1))), some (.int (nI W.ns)), j6]) (st' := []) (σ' := σ) (fun f => rfl) ?_
      exact ih1 _ _ 
    · intro k hi2 ih2 j6
      have hul := hk.wd.us k (by omega)
      refine pi_go 3 (pc' := 21) (l' := [some (.ref 56), some (.int (nI dr)), some (.int cut), some (.int (pi_lp (z_rc1 W.up W.lo dr cut) k (z_rch W.up W.lo W.ns dr cut tu))), some (.int (nI tu)), some (.int (nI k)), j6]) (st' := [.int (σ 56 4), .int (nI k)]) (σ' := σ) (fun f => rfl) ?_
      refine pi_tp (y := nI W.ns) (ht.d4) ?_
      refine pi_cf 1 (c := nI W.ns ≤ nI k) (pc' := 24) (l' := [some (.ref 56), some (.int (nI dr)), some (.int cut), some (.int (pi_lp (z_rc1 W.up W.lo dr cut) k (z_rch W.up W.lo W.ns dr cut tu))), some (.int (nI tu)), some (.int (nI k)), j6]) (st' := []) (σ' := σ) (pc2 := 92) (l2 := [some (.ref 56), some (.int (nI dr)), some (.int cut), some (.int (pi_lp (z_rc1 W.up W.lo dr cut) k (z_rch W.up W.lo W.ns dr cut tu))), some (.int (nI tu)), some (.int (nI k)), j6]) (st2 := []) (σ2 := σ) (fun f => rfl) (fun zq => absurd ((show nI W.ns ≤ nI k ↔ _ from nI_leI (by omega) (by omega)).mp zq) (by omega)) ?_
      refine pi_ca 3 (m' := 101) (l' := [some (.int cut), some (.int (nI k))]) (σ' := σ) (pc2 := 30) (l2 := [some (.ref 56), some (.int (nI dr)), some (.int cut), some (.int (pi_lp (z_rc1 W.up W.lo dr cut) k (z_rch W.up W.lo W.ns dr cut tu))), some (.int (nI tu)), some (.int (nI k)), j6]) (t := []) (fun f => rfl) (pi_M_isIn2 cut (nI k)) ?_
      rintro _ _ (⟨b1, rfl, rfl⟩ | ⟨b1, rfl, rfl⟩)
      · refine pi_cf 1 (c := nI 1 = 0) (pc' := 62) (l' := [some (.ref 56), some (.int (nI dr)), some (.int cut), some (.int (pi_lp (z_rc1 W.up W.lo dr cut) k (z_rch W.up W.lo W.ns dr cut tu))), some (.int (nI tu)), some (.int (nI k)), j6]) (st' := []) (σ' := σ) (pc2 := 33) (l2 := [some (.ref 56), some (.int (nI dr)), some (.int cut), some (.int (pi_lp (z_rc1 W.up W.lo dr cut) k (z_rch W.up W.lo W.ns dr cut tu))), some (.int (nI tu)), some (.int (nI k)), j6]) (st2 := []) (σ2 := σ) (fun f => rfl) (by decide) ?_
        refine pi_ct 5 (c := nI 0 = 0) (pc' := 83) (l' := [some (.ref 56), some (.int (nI dr)), some (.int cut), some (.int (pi_lp (z_rc1 W.up W.lo dr cut) k (z_rch W.up W.lo W.ns dr cut tu))), some (.int (nI tu)), some (.int (nI k)), some (.int (nI 0))]) (st' := [.int (pi_lp (z_rc1 W.up W.lo dr cut) k (z_rch W.up W.lo W.ns dr cut tu))]) (σ' := σ) (pc2 := 71) (l2 := [some (.ref 56), some (.int (nI dr)), some (.int cut), some (.int (pi_lp (z_rc1 W.up W.lo dr cut) k (z_rch W.up W.lo W.ns dr cut tu))), some (.int (nI tu)), some (.int (nI k)), some (.int (nI 0))]) (st2 := [.int (pi_lp (z_rc1 W.up W.lo dr cut) k (z_rch W.up W.lo W.ns dr cut tu))]) (σ2 := σ) (fun f => rfl) (by decide) ?_
        refine pi_go 4 (pc' := 89) (l' := [some (.ref 56), some (.int (nI dr)), some (.int cut), some (.int ((pi_lp (z_rc1 W.up W.lo dr cut) k (z_rch W.up W.lo W.ns dr cut tu)) ||| (nI 0))), some (.int (nI tu)), some (.int (nI k + nI 1)), some (.int (nI 0))]) (st' := []) (σ' := σ) (fun f => rfl) ?_
        rw [show nI k + nI 1 = nI (k + 1) from nI_add _ 1]
        refine pi_go 1 (pc' := 15) (l' := [some (.ref 56), some (.int (nI dr)), some (.int cut), some (.int ((pi_lp (z_rc1 W.up W.lo dr cut) k (z_rch W.up W.lo W.ns dr cut tu)) ||| (nI 0))), some (.int (nI tu)), some (.int (nI (k + 1))), some (.int (nI 0))]) (st' := []) (σ' := σ) (fun f => rfl) ?_
        rw [show some (Value.int ((pi_lp (z_rc1 W.up W.lo dr cut) k (z_rch W.up W.lo W.ns dr cut tu)) ||| (nI 0))) = some (Value.int (pi_lp (z_rc1 W.up W.lo dr cut) (k + 1) (z_rch W.up W.lo W.ns dr cut tu))) from congrArg (fun z => some (Value.int z)) (by rw [z_rc1_s, if_pos b1])]
        exact ih2 _ 
      · refine pi_ct 1 (c := nI 0 = 0) (pc' := 33) (l' := [some (.ref 56), some (.int (nI dr)), some (.int cut), some (.int (pi_lp (z_rc1 W.up W.lo dr cut) k (z_rch W.up W.lo W.ns dr cut tu))), some (.int (nI tu)), some (.int (nI k)), j6]) (st' := []) (σ' := σ) (pc2 := 62) (l2 := [some (.ref 56), some (.int (nI dr)), some (.int cut), some (.int (pi_lp (z_rc1 W.up W.lo dr cut) k (z_rch W.up W.lo W.ns dr cut tu))), some (.int (nI tu)), some (.int (nI k)), j6]) (st2 := []) (σ2 := σ) (fun f => rfl) (by decide) ?_
        refine pi_ai 4 (u := k) (n := 12) (g := σ 60) (pc' := 40) (l' := [some (.ref 56), some (.int (nI dr)), some (.int cut), some (.int (pi_lp (z_rc1 W.up W.lo dr cut) k (z_rch W.up W.lo W.ns dr cut tu))), some (.int (nI tu)), some (.int (nI k)), j6]) (t := []) (σ' := σ) (fun f => rfl) (by omega) (by omega) ?_
        refine pi_tp (y := nI (W.up k)) ((ht.st k (by omega)).1) ?_
        refine pi_if 2 (c := nI (W.up k) = nI dr) (pc' := 58) (l' := [some (.ref 56), some (.int (nI dr)), some (.int cut), some (.int (pi_lp (z_rc1 W.up W.lo dr cut) k (z_rch W.up W.lo W.ns dr cut tu))), some (.int (nI tu)), some (.int (nI k)), j6]) (st' := []) (σ' := σ) (pc2 := 44) (l2 := [some (.ref 56), some (.int (nI dr)), some (.int cut), some (.int (pi_lp (z_rc1 W.up W.lo dr cut) k (z_rch W.up W.lo W.ns dr cut tu))), some (.int (nI tu)), some (.int (nI k)), j6]) (st2 := []) (σ2 := σ) (fun f => rfl) (fun h2 => ?_) (fun h2 => ?_)
        · replace h2 : (W.up k) = dr := (nI_eq (by omega) (by omega)).mp h2
          refine pi_cf 6 (c := nI 1 = 0) (pc' := 71) (l' := [some (.ref 56), some (.int (nI dr)), some (.int cut), some (.int (pi_lp (z_rc1 W.up W.lo dr cut) k (z_rch W.up W.lo W.ns dr cut tu))), some (.int (nI tu)), some (.int (nI k)), some (.int (nI 1))]) (st' := [.int (pi_lp (z_rc1 W.up W.lo dr cut) k (z_rch W.up W.lo W.ns dr cut tu))]) (σ' := σ) (pc2 := 83) (l2 := [some (.ref 56), some (.int (nI dr)), some (.int cut), some (.int (pi_lp (z_rc1 W.up W.lo dr cut) k (z_rch W.up W.lo W.ns dr cut tu))), some (.int (nI tu)), some (.int (nI k)), some (.int (nI 1))]) (st2 := [.int (pi_lp (z_rc1 W.up W.lo dr cut) k (z_rch W.up W.lo W.ns dr cut tu))]) (σ2 := σ) (fun f => rfl) (by decide) ?_
          refine pi_ai 5 (u := k) (n := 12) (g := σ 61) (pc' := 79) (l' := [some (.ref 56), some (.int (nI dr)), some (.int cut), some (.int (pi_lp (z_rc1 W.up W.lo dr cut) k (z_rch W.up W.lo W.ns dr cut tu))), some (.int (nI tu)), some (.int (nI k)), some (.int (nI 1))]) (t := [.int (nI 1), .int (pi_lp (z_rc1 W.up W.lo dr cut) k (z_rch W.up W.lo W.ns dr cut tu))]) (σ' := σ) (fun f => rfl) (by omega) (by omega) ?_
          refine pi_tp (y := nI (W.lo k)) ((ht.st k (by omega)).2) ?_
          refine pi_go 5 (pc' := 89) (l' := [some (.ref 56), some (.int (nI dr)), some (.int cut), some (.int ((pi_lp (z_rc1 W.up W.lo dr cut) k (z_rch W.up W.lo W.ns dr cut tu)) ||| ((nI 1) <<< (nI (W.lo k) &&& 31)))), some (.int (nI tu)), some (.int (nI k + nI 1)), some (.int (nI 1))]) (st' := []) (σ' := σ) (fun f => rfl) ?_
          rw [show nI k + nI 1 = nI (k + 1) from nI_add _ 1]
          refine pi_go 1 (pc' := 15) (l' := [some (.ref 56), some (.int (nI dr)), some (.int cut), some (.int ((pi_lp (z_rc1 W.up W.lo dr cut) k (z_rch W.up W.lo W.ns dr cut tu)) ||| ((nI 1) <<< (nI (W.lo k) &&& 31)))), some (.int (nI tu)), some (.int (nI (k + 1))), some (.int (nI 1))]) (st' := []) (σ' := σ) (fun f => rfl) ?_
          rw [show some (Value.int ((pi_lp (z_rc1 W.up W.lo dr cut) k (z_rch W.up W.lo W.ns dr cut tu)) ||| ((nI 1) <<< (nI (W.lo k) &&& 31)))) = some (Value.int (pi_lp (z_rc1 W.up W.lo dr cut) (k + 1) (z_rch W.up W.lo W.ns dr cut tu))) from congrArg (fun z => some (Value.int z)) (by rw [z_rc1_s, if_neg b1, if_pos h2])]
          exact ih2 _ 
        · replace h2 : ¬ ((W.up k) = dr) := fun zq => h2 ((nI_eq (by omega) (by omega)).mpr zq)
          refine pi_ai 5 (u := k) (n := 12) (g := σ 60) (pc' := 52) (l' := [some (.ref 56), some (.int (nI dr)), some (.int cut), some (.int (pi_lp (z_rc1 W.up W.lo dr cut) k (z_rch W.up W.lo W.ns dr cut tu))), some (.int (nI tu)), some (.int (nI k)), j6]) (t := [.int (pi_lp (z_rc1 W.up W.lo dr cut) k (z_rch W.up W.lo W.ns dr cut tu))]) (σ' := σ) (fun f => rfl) (by omega) (by omega) ?_
          refine pi_tp (y := nI (W.up k)) ((ht.st k (by omega)).1) ?_
          refine pi_ca 1 (m' := 101) (l' := [some (.int (pi_lp (z_rc1 W.up W.lo dr cut) k (z_rch W.up W.lo W.ns dr cut tu))), some (.int (nI (W.up k)))]) (σ' := σ) (pc2 := 55) (l2 := [some (.ref 56), some (.int (nI dr)), some (.int cut), some (.int (pi_lp (z_rc1 W.up W.lo dr cut) k (z_rch W.up W.lo W.ns dr cut tu))), some (.int (nI tu)), some (.int (nI k)), j6]) (t := []) (fun f => rfl) (pi_M_isIn2 (pi_lp (z_rc1 W.up W.lo dr cut) k (z_rch W.up W.lo W.ns dr cut tu)) (nI (W.up k))) ?_
          rintro _ _ (⟨b3, rfl, rfl⟩ | ⟨b3, rfl, rfl⟩)
          · refine pi_cf 1 (c := nI 1 = 0) (pc' := 58) (l' := [some (.ref 56), some (.int (nI dr)), some (.int cut), some (.int (pi_lp (z_rc1 W.up W.lo dr cut) k (z_rch W.up W.lo W.ns dr cut tu))), some (.int (nI tu)), some (.int (nI k)), j6]) (st' := []) (σ' := σ) (pc2 := 62) (l2 := [some (.ref 56), some (.int (nI dr)), some (.int cut), some (.int (pi_lp (z_rc1 W.up W.lo dr cut) k (z_rch W.up W.lo W.ns dr cut tu))), some (.int (nI tu)), some (.int (nI k)), j6]) (st2 := []) (σ2 := σ) (fun f => rfl) (by decide) ?_
            refine pi_cf 6 (c := nI 1 = 0) (pc' := 71) (l' := [some (.ref 56), some (.int (nI dr)), some (.int cut), some (.int (pi_lp (z_rc1 W.up W.lo dr cut) k (z_rch W.up W.lo W.ns dr cut tu))), some (.int (nI tu)), some (.int (nI k)), some (.int (nI 1))]) (st' := [.int (pi_lp (z_rc1 W.up W.lo dr cut) k (z_rch W.up W.lo W.ns dr cut tu))]) (σ' := σ) (pc2 := 83) (l2 := [some (.ref 56), some (.int (nI dr)), some (.int cut), some (.int (pi_lp (z_rc1 W.up W.lo dr cut) k (z_rch W.up W.lo W.ns dr cut tu))), some (.int (nI tu)), some (.int (nI k)), some (.int (nI 1))]) (st2 := [.int (pi_lp (z_rc1 W.up W.lo dr cut) k (z_rch W.up W.lo W.ns dr cut tu))]) (σ2 := σ) (fun f => rfl) (by decide) ?_
            refine pi_ai 5 (u := k) (n := 12) (g := σ 61) (pc' := 79) (l' := [some (.ref 56), some (.int (nI dr)), some (.int cut), some (.int (pi_lp (z_rc1 W.up W.lo dr cut) k (z_rch W.up W.lo W.ns dr cut tu))), some (.int (nI tu)), some (.int (nI k)), some (.int (nI 1))]) (t := [.int (nI 1), .int (pi_lp (z_rc1 W.up W.lo dr cut) k (z_rch W.up W.lo W.ns dr cut tu))]) (σ' := σ) (fun f => rfl) (by omega) (by omega) ?_
            refine pi_tp (y := nI (W.lo k)) ((ht.st k (by omega)).2) ?_
            refine pi_go 5 (pc' := 89) (l' := [some (.ref 56), some (.int (nI dr)), some (.int cut), some (.int ((pi_lp (z_rc1 W.up W.lo dr cut) k (z_rch W.up W.lo W.ns dr cut tu)) ||| ((nI 1) <<< (nI (W.lo k) &&& 31)))), some (.int (nI tu)), some (.int (nI k + nI 1)), some (.int (nI 1))]) (st' := []) (σ' := σ) (fun f => rfl) ?_
            rw [show nI k + nI 1 = nI (k + 1) from nI_add _ 1]
            refine pi_go 1 (pc' := 15) (l' := [some (.ref 56), some (.int (nI dr)), some (.int cut), some (.int ((pi_lp (z_rc1 W.up W.lo dr cut) k (z_rch W.up W.lo W.ns dr cut tu)) ||| ((nI 1) <<< (nI (W.lo k) &&& 31)))), some (.int (nI tu)), some (.int (nI (k + 1))), some (.int (nI 1))]) (st' := []) (σ' := σ) (fun f => rfl) ?_
            rw [show some (Value.int ((pi_lp (z_rc1 W.up W.lo dr cut) k (z_rch W.up W.lo W.ns dr cut tu)) ||| ((nI 1) <<< (nI (W.lo k) &&& 31)))) = some (Value.int (pi_lp (z_rc1 W.up W.lo dr cut) (k + 1) (z_rch W.up W.lo W.ns dr cut tu))) from congrArg (fun z => some (Value.int z)) (by rw [z_rc1_s, if_neg b1, if_neg h2, if_pos b3])]
            exact ih2 _ 
          · refine pi_ct 1 (c := nI 0 = 0) (pc' := 62) (l' := [some (.ref 56), some (.int (nI dr)), some (.int cut), some (.int (pi_lp (z_rc1 W.up W.lo dr cut) k (z_rch W.up W.lo W.ns dr cut tu))), some (.int (nI tu)), some (.int (nI k)), j6]) (st' := []) (σ' := σ) (pc2 := 58) (l2 := [some (.ref 56), some (.int (nI dr)), some (.int cut), some (.int (pi_lp (z_rc1 W.up W.lo dr cut) k (z_rch W.up W.lo W.ns dr cut tu))), some (.int (nI tu)), some (.int (nI k)), j6]) (st2 := []) (σ2 := σ) (fun f => rfl) (by decide) ?_
            refine pi_ct 5 (c := nI 0 = 0) (pc' := 83) (l' := [some (.ref 56), some (.int (nI dr)), some (.int cut), some (.int (pi_lp (z_rc1 W.up W.lo dr cut) k (z_rch W.up W.lo W.ns dr cut tu))), some (.int (nI tu)), some (.int (nI k)), some (.int (nI 0))]) (st' := [.int (pi_lp (z_rc1 W.up W.lo dr cut) k (z_rch W.up W.lo W.ns dr cut tu))]) (σ' := σ) (pc2 := 71) (l2 := [some (.ref 56), some (.int (nI dr)), some (.int cut), some (.int (pi_lp (z_rc1 W.up W.lo dr cut) k (z_rch W.up W.lo W.ns dr cut tu))), some (.int (nI tu)), some (.int (nI k)), some (.int (nI 0))]) (st2 := [.int (pi_lp (z_rc1 W.up W.lo dr cut) k (z_rch W.up W.lo W.ns dr cut tu))]) (σ2 := σ) (fun f => rfl) (by decide) ?_
            refine pi_go 4 (pc' := 89) (l' := [some (.ref 56), some (.int (nI dr)), some (.int cut), some (.int ((pi_lp (z_rc1 W.up W.lo dr cut) k (z_rch W.up W.lo W.ns dr cut tu)) ||| (nI 0))), some (.int (nI tu)), some (.int (nI k + nI 1)), some (.int (nI 0))]) (st' := []) (σ' := σ) (fun f => rfl) ?_
            rw [show nI k + nI 1 = nI (k + 1) from nI_add _ 1]
            refine pi_go 1 (pc' := 15) (l' := [some (.ref 56), some (.int (nI dr)), some (.int cut), some (.int ((pi_lp (z_rc1 W.up W.lo dr cut) k (z_rch W.up W.lo W.ns dr cut tu)) ||| (nI 0))), some (.int (nI tu)), some (.int (nI (k + 1))), some (.int (nI 0))]) (st' := []) (σ' := σ) (fun f => rfl) ?_
            rw [show some (Value.int ((pi_lp (z_rc1 W.up W.lo dr cut) k (z_rch W.up W.lo W.ns dr cut tu)) ||| (nI 0))) = some (Value.int (pi_lp (z_rc1 W.up W.lo dr cut) (k + 1) (z_rch W.up W.lo W.ns dr cut tu))) from congrArg (fun z => some (Value.int z)) (by rw [z_rc1_s, if_neg b1, if_neg h2, if_neg b3])]
            exact ih2 _ 
set_option maxRecDepth 20000 in
theorem pi_M_netsOf0 {xs : Nat → Int32} {L d : Nat} {W : zW} {σ : pi_S} (hm : z_MR W σ) {dr : Nat} (hd : dr < 8)  : pi_wp xs L (d + 5) 144 0 [some (.ref 56), some (.int (nI dr)), some (.int (nI 0)), none, none] [] σ (fun v s => v = some (.int (z_net W.up W.lo W.ns dr W.nd)) ∧ z_MT W s ∧ pi_fr z_RC s σ) := by
  have hk := hm.wk
  have hnd8 := hk.wd.nd8
  have hns12 := hk.wd.ns12
  have hn60 := hk.nine
  have hnf := hk.nf
  have hnw := hk.nw
  have hnc := hk.nc
  have hn08 := hk.wd.n0
  have hn140 := hk.wd.n1
  refine pi_ca 2 (m' := 111) (l' := [some (.ref 56), none]) (σ' := σ) (pc2 := 4) (l2 := [some (.ref 56), some (.int (nI dr)), some (.int (nI 0)), none, none]) (t := []) (fun f => rfl) (pi_M_reads hm ) ?_
  rintro _ t1 ⟨rfl, gt1, rt1⟩
  refine pi_go 4 (pc' := 9) (l' := [some (.ref 56), some (.int (nI dr)), some (.int (nI 0)), some (.int (nI 0)), some (.int (nI 0))]) (st' := []) (σ' := t1) (fun f => rfl) ?_
  suffices hl2 : ∀ k, k ≤ W.nd → ∀ (z2 : pi_S), pi_fr z_RC z2 σ → z_MT W z2 → pi_wp xs L (d + 5) 144 9 [some (.ref 56), some (.int (nI dr)), some (.int (nI 0)), some (.int (z_net W.up W.lo W.ns dr k)), some (.int (nI k))] [] z2 (fun v s => v = some (.int (z_net W.up W.lo W.ns dr W.nd)) ∧ z_MT W s ∧ pi_fr z_RC s σ) from hl2 0 (by omega) _ (pi_fr_t2 rt1 (pi_fr_rf)) (gt1)
  refine pi_lp0 ?_ ?_
  · intro z2 hrz2 hx2
    refine pi_go 3 (pc' := 15) (l' := [some (.ref 56), some (.int (nI dr)), some (.int (nI 0)), some (.int (z_net W.up W.lo W.ns dr W.nd)), some (.int (nI W.nd))]) (st' := [.int (z2 56 2), .int (nI W.nd)]) (σ' := z2) (fun f => rfl) ?_
    refine pi_tp (y := nI W.nd) (hx2.d2) ?_
    refine pi_ct 1 (c := nI W.nd ≤ nI W.nd) (pc' := 53) (l' := [some (.ref 56), some (.int (nI dr)), some (.int (nI 0)), some (.int (z_net W.up W.lo W.ns dr W.nd)), some (.int (nI W.nd))]) (st' := []) (σ' := z2) (pc2 := 18) (l2 := [some (.ref 56), some (.int (nI dr)), some (.int (nI 0)), some (.int (z_net W.up W.lo W.ns dr W.nd)), some (.int (nI W.nd))]) (st2 := []) (σ2 := z2) (fun f => rfl) ((show nI W.nd ≤ nI W.nd ↔ _ from nI_leI (by omega) (by omega)).mpr (by omega)) ?_
    refine pi_ct 2 (c := nI 0 = 0) (pc' := 57) (l' := [some (.ref 56), some (.int (nI dr)), some (.int (nI 0)), some (.int (z_net W.up W.lo W.ns dr W.nd)), some (.int (nI W.nd))]) (st' := []) (σ' := z2) (pc2 := 61) (l2 := [some (.ref 56), some (.int (nI dr)), some (.int (nI 0)), some (.int (z_net W.up W.lo W.ns dr W.nd)), some (.int (nI W.nd))]) (st2 := []) (σ2 := z2) (fun f => rfl) (by decide) ?_
    refine pi_rt 3 (v := some (.int (z_net W.up W.lo W.ns dr W.nd))) (σ' := z2) (fun f => rfl) ?_
    exact ⟨rfl, hx2, pi_fr_t2 hrz2 (pi_fr_rf)⟩
  · intro k hi2 ih2 z2 hrz2 hx2
    refine pi_go 3 (pc' := 15) (l' := [some (.ref 56), some (.int (nI dr)), some (.int (nI 0)), some (.int (z_net W.up W.lo W.ns dr k)), some (.int (nI k))]) (st' := [.int (z2 56 2), .int (nI k)]) (σ' := z2) (fun f => rfl) ?_
    refine pi_tp (y := nI W.nd) (hx2.d2) ?_
    refine pi_cf 1 (c := nI W.nd ≤ nI k) (pc' := 18) (l' := [some (.ref 56), some (.int (nI dr)), some (.int (nI 0)), some (.int (z_net W.up W.lo W.ns dr k)), some (.int (nI k))]) (st' := []) (σ' := z2) (pc2 := 53) (l2 := [some (.ref 56), some (.int (nI dr)), some (.int (nI 0)), some (.int (z_net W.up W.lo W.ns dr k)), some (.int (nI k))]) (st2 := []) (σ2 := z2) (fun f => rfl) (fun zq => absurd ((show nI W.nd ≤ nI k ↔ _ from nI_leI (by omega) (by omega)).mp zq) (by omega)) ?_
    refine pi_ct 2 (c := nI 0 = 0) (pc' := 22) (l' := [some (.ref 56), some (.int (nI dr)), some (.int (nI 0)), some (.int (z_net W.up W.lo W.ns dr k)), some (.int (nI k))]) (st' := []) (σ' := z2) (pc2 := 53) (l2 := [some (.ref 56), some (.int (nI dr)), some (.int (nI 0)), some (.int (z_net W.up W.lo W.ns dr k)), some (.int (nI k))]) (st2 := []) (σ2 := z2) (fun f => rfl) (by decide) ?_
    refine pi_ca 5 (m' := 143) (l' := [some (.ref 56), some (.int (nI k)), some (.int (nI 0)), none, none, none, none]) (σ' := z2) (pc2 := 30) (l2 := [some (.ref 56), some (.int (nI dr)), some (.int (nI 0)), some (.int (z_net W.up W.lo W.ns dr k)), some (.int (nI k))]) (t := [.int (z_net W.up W.lo W.ns dr k)]) (fun f => rfl) (pi_M_reaches hx2 (by omega) (nI 0)) ?_
    rintro _ t3 ⟨rfl, gt3, rt3⟩
    refine pi_ca 2 (m' := 101) (l' := [some (.int (z_rc W.up W.lo W.ns k (nI 0))), some (.int (nI dr))]) (σ' := t3) (pc2 := 34) (l2 := [some (.ref 56), some (.int (nI dr)), some (.int (nI 0)), some (.int (z_net W.up W.lo W.ns dr k)), some (.int (nI k))]) (t := [.int (z_net W.up W.lo W.ns dr k)]) (fun f => rfl) (pi_M_isIn2 (z_rc W.up W.lo W.ns k (nI 0)) (nI dr)) ?_
    rintro _ _ (⟨b1, rfl, rfl⟩ | ⟨b1, rfl, rfl⟩)
    · refine pi_cf 1 (c := nI 1 = 0) (pc' := 37) (l' := [some (.ref 56), some (.int (nI dr)), some (.int (nI 0)), some (.int (z_net W.up W.lo W.ns dr k)), some (.int (nI k))]) (st' := [.int (z_net W.up W.lo W.ns dr k)]) (σ' := t3) (pc2 := 44) (l2 := [some (.ref 56), some (.int (nI dr)), some (.int (nI 0)), some (.int (z_net W.up W.lo W.ns dr k)), some (.int (nI k))]) (st2 := [.int (z_net W.up W.lo W.ns dr k)]) (σ2 := t3) (fun f => rfl) (by decide) ?_
      refine pi_go 7 (pc' := 50) (l' := [some (.ref 56), some (.int (nI dr)), some (.int (nI 0)), some (.int ((z_net W.up W.lo W.ns dr k) ||| ((nI 1) <<< (nI k &&& 31)))), some (.int (nI k + nI 1))]) (st' := []) (σ' := t3) (fun f => rfl) ?_
      rw [show nI k + nI 1 = nI (k + 1) from nI_add _ 1]
      refine pi_go 1 (pc' := 9) (l' := [some (.ref 56), some (.int (nI dr)), some (.int (nI 0)), some (.int ((z_net W.up W.lo W.ns dr k) ||| ((nI 1) <<< (nI k &&& 31)))), some (.int (nI (k + 1)))]) (st' := []) (σ' := t3) (fun f => rfl) ?_
      rw [show some (Value.int ((z_net W.up W.lo W.ns dr k) ||| ((nI 1) <<< (nI k &&& 31)))) = some (Value.int (z_net W.up W.lo W.ns dr (k + 1))) from congrArg (fun z => some (Value.int z)) (by rw [z_net_s, if_pos b1])]
      exact ih2 _ (pi_fr_t2 rt3 (pi_fr_t2 hrz2 (pi_fr_rf))) (gt3)
    · refine pi_ct 1 (c := nI 0 = 0) (pc' := 44) (l' := [some (.ref 56), some (.int (nI dr)), some (.int (nI 0)), some (.int (z_net W.up W.lo W.ns dr k)), some (.int (nI k))]) (st' := [.int (z_net W.up W.lo W.ns dr k)]) (σ' := t3) (pc2 := 37) (l2 := [some (.ref 56), some (.int (nI dr)), some (.int (nI 0)), some (.int (z_net W.up W.lo W.ns dr k)), some (.int (nI k))]) (st2 := [.int (z_net W.up W.lo W.ns dr k)]) (σ2 := t3) (fun f => rfl) (by decide) ?_
      refine pi_go 4 (pc' := 50) (l' := [some (.ref 56), some (.int (nI dr)), some (.int (nI 0)), some (.int ((z_net W.up W.lo W.ns dr k) ||| (nI 0))), some (.int (nI k + nI 1))]) (st' := []) (σ' := t3) (fun f => rfl) ?_
      rw [show nI k + nI 1 = nI (k + 1) from nI_add _ 1]
      refine pi_go 1 (pc' := 9) (l' := [some (.ref 56), some (.int (nI dr)), some (.int (nI 0)), some (.int ((z_net W.up W.lo W.ns dr k) ||| (nI 0))), some (.int (nI (k + 1)))]) (st' := []) (σ' := t3) (fun f => rfl) ?_
      rw [show some (Value.int ((z_net W.up W.lo W.ns dr k) ||| (nI 0))) = some (Value.int (z_net W.up W.lo W.ns dr (k + 1))) from congrArg (fun z => some (Value.int z)) (by rw [z_net_s, if_neg b1])]
      exact ih2 _ (pi_fr_t2 rt3 (pi_fr_t2 hrz2 (pi_fr_rf))) (gt3)
set_option maxRecDepth 20000 in
theorem pi_M_netsOf1 {xs : Nat → Int32} {L d : Nat} {W : zW} {σ : pi_S} (hm : z_MR W σ) {dr : Nat} (hd : dr < 8)  : pi_wp xs L (d + 5) 144 0 [some (.ref 56), some (.int (nI dr)), some (.int (nI 1)), none, none] [] σ (fun v s => v = some (.int (z_rc W.up W.lo W.ns dr (nI 0))) ∧ z_MT W s ∧ pi_fr z_RC s σ) := by
  have hk := hm.wk
  have hnd8 := hk.wd.nd8
  have hns12 := hk.wd.ns12
  have hn60 := hk.nine
  have hnf := hk.nf
  have hnw := hk.nw
  have hnc := hk.nc
  have hn08 := hk.wd.n0
  have hn140 := hk.wd.n1
  refine pi_ca 2 (m' := 111) (l' := [some (.ref 56), none]) (σ' := σ) (pc2 := 4) (l2 := [some (.ref 56), some (.int (nI dr)), some (.int (nI 1)), none, none]) (t := []) (fun f => rfl) (pi_M_reads hm ) ?_
  rintro _ t1 ⟨rfl, gt1, rt1⟩
  refine pi_go 7 (pc' := 15) (l' := [some (.ref 56), some (.int (nI dr)), some (.int (nI 1)), some (.int (nI 0)), some (.int (nI 0))]) (st' := [.int (t1 56 2), .int (nI 0)]) (σ' := t1) (fun f => rfl) ?_
  refine pi_tp (y := nI W.nd) (gt1.d2) ?_
  refine pi_if 1 (c := nI W.nd ≤ nI 0) (pc' := 53) (l' := [some (.ref 56), some (.int (nI dr)), some (.int (nI 1)), some (.int (nI 0)), some (.int (nI 0))]) (st' := []) (σ' := t1) (pc2 := 18) (l2 := [some (.ref 56), some (.int (nI dr)), some (.int (nI 1)), some (.int (nI 0)), some (.int (nI 0))]) (st2 := []) (σ2 := t1) (fun f => rfl) (fun h1 => ?_) (fun h1 => ?_)
  · replace h1 : W.nd ≤ 0 := (nI_leI (by omega) (by omega)).mp h1
    refine pi_cf 2 (c := nI 1 = 0) (pc' := 61) (l' := [some (.ref 56), some (.int (nI dr)), some (.int (nI 1)), some (.int (nI 0)), some (.int (nI 0))]) (st' := []) (σ' := t1) (pc2 := 57) (l2 := [some (.ref 56), some (.int (nI dr)), some (.int (nI 1)), some (.int (nI 0)), some (.int (nI 0))]) (st2 := []) (σ2 := t1) (fun f => rfl) (by decide) ?_
    refine pi_ca 4 (m' := 143) (l' := [some (.ref 56), some (.int (nI dr)), some (.int (nI 0)), none, none, none, none]) (σ' := t1) (pc2 := 67) (l2 := [some (.ref 56), some (.int (nI dr)), some (.int (nI 1)), some (.int (nI 0)), some (.int (nI 0))]) (t := []) (fun f => rfl) (pi_M_reaches gt1 (by omega) (nI 0)) ?_
    rintro _ t2 ⟨rfl, gt2, rt2⟩
    refine pi_rt 1 (v := some (.int (z_rc W.up W.lo W.ns dr (nI 0)))) (σ' := t2) (fun f => rfl) ?_
    exact ⟨rfl, gt2, pi_fr_t2 rt2 (pi_fr_t2 rt1 (pi_fr_rf))⟩
  · replace h1 : ¬ (W.nd ≤ 0) := fun zq => h1 ((nI_leI (by omega) (by omega)).mpr zq)
    refine pi_cf 2 (c := nI 1 = 0) (pc' := 53) (l' := [some (.ref 56), some (.int (nI dr)), some (.int (nI 1)), some (.int (nI 0)), some (.int (nI 0))]) (st' := []) (σ' := t1) (pc2 := 22) (l2 := [some (.ref 56), some (.int (nI dr)), some (.int (nI 1)), some (.int (nI 0)), some (.int (nI 0))]) (st2 := []) (σ2 := t1) (fun f => rfl) (by decide) ?_
    refine pi_cf 2 (c := nI 1 = 0) (pc' := 61) (l' := [some (.ref 56), some (.int (nI dr)), some (.int (nI 1)), some (.int (nI 0)), some (.int (nI 0))]) (st' := []) (σ' := t1) (pc2 := 57) (l2 := [some (.ref 56), some (.int (nI dr)), some (.int (nI 1)), some (.int (nI 0)), some (.int (nI 0))]) (st2 := []) (σ2 := t1) (fun f => rfl) (by decide) ?_
    refine pi_ca 4 (m' := 143) (l' := [some (.ref 56), some (.int (nI dr)), some (.int (nI 0)), none, none, none, none]) (σ' := t1) (pc2 := 67) (l2 := [some (.ref 56), some (.int (nI dr)), some (.int (nI 1)), some (.int (nI 0)), some (.int (nI 0))]) (t := []) (fun f => rfl) (pi_M_reaches gt1 (by omega) (nI 0)) ?_
    rintro _ t3 ⟨rfl, gt3, rt3⟩
    refine pi_rt 1 (v := some (.int (z_rc W.up W.lo W.ns dr (nI 0)))) (σ' := t3) (fun f => rfl) ?_
    exact ⟨rfl, gt3, pi_fr_t2 rt3 (pi_fr_t2 rt1 (pi_fr_rf))⟩
set_option maxRecDepth 20000 in
theorem pi_M_ones {xs : Nat → Int32} {L d : Nat} {σ : pi_S} (b : Int32)  : pi_wp xs L d 102 0 [some (.int b), none, none] [] σ (fun v s => v = some (.int (z_ones b)) ∧ σ = s) := by
  refine pi_go 4 (pc' := 4) (l' := [some (.int b), some (.int (nI 0)), some (.int (nI 0))]) (st' := []) (σ' := σ) (fun f => rfl) ?_
  suffices hl1 : ∀ i, i ≤ 12 → pi_wp xs L d 102 4 [some (.int b), some (.int (pi_lp (fun k n => n + (b >>> (nI k &&& 31) &&& nI 1)) i (nI 0))), some (.int (nI i))] [] σ (fun v s => v = some (.int (z_ones b)) ∧ σ = s) from hl1 0 (by omega) 
  refine pi_lp0 ?_ ?_
  · refine pi_ct 3 (c := nI 12 ≤ nI 12) (pc' := 24) (l' := [some (.int b), some (.int (pi_lp (fun k n => n + (b >>> (nI k &&& 31) &&& nI 1)) 12 (nI 0))), some (.int (nI 12))]) (st' := []) (σ' := σ) (pc2 := 10) (l2 := [some (.int b), some (.int (pi_lp (fun k n => n + (b >>> (nI k &&& 31) &&& nI 1)) 12 (nI 0))), some (.int (nI 12))]) (st2 := []) (σ2 := σ) (fun f => rfl) (by decide) ?_
    refine pi_rt 2 (v := some (.int (pi_lp (fun k n => n + (b >>> (nI k &&& 31) &&& nI 1)) 12 (nI 0)))) (σ' := σ) (fun f => rfl) ?_
    exact ⟨rfl, rfl⟩
  · intro i hi1 ih1
    refine pi_cf 3 (c := nI 12 ≤ nI i) (pc' := 10) (l' := [some (.int b), some (.int (pi_lp (fun k n => n + (b >>> (nI k &&& 31) &&& nI 1)) i (nI 0))), some (.int (nI i))]) (st' := []) (σ' := σ) (pc2 := 24) (l2 := [some (.int b), some (.int (pi_lp (fun k n => n + (b >>> (nI k &&& 31) &&& nI 1)) i (nI 0))), some (.int (nI i))]) (st2 := []) (σ2 := σ) (fun f => rfl) (fun zq => absurd ((show nI 12 ≤ nI i ↔ _ from nI_leI (by omega) (by omega)).mp zq) (by omega)) ?_
    refine pi_go 9 (pc' := 21) (l' := [some (.int b), some (.int ((pi_lp (fun k n => n + (b >>> (nI k &&& 31) &&& nI 1)) i (nI 0)) + ((b >>> (nI i &&& 31)) &&& (nI 1)))), some (.int (nI i + nI 1))]) (st' := []) (σ' := σ) (fun f => rfl) ?_
    rw [show nI i + nI 1 = nI (i + 1) from nI_add _ 1]
    refine pi_go 1 (pc' := 4) (l' := [some (.int b), some (.int ((pi_lp (fun k n => n + (b >>> (nI k &&& 31) &&& nI 1)) i (nI 0)) + ((b >>> (nI i &&& 31)) &&& (nI 1)))), some (.int (nI (i + 1)))]) (st' := []) (σ' := σ) (fun f => rfl) ?_
    exact ih1 
