set_option maxRecDepth 20000 in
theorem pi_P_type0 {xs : Nat → Int32} {L d : Nat} {W : zW} {σ : pi_S} (hm : z_MR W σ) {c : Nat} {V : zW} (hc : c < 256) (hn : W.n0 < 8) (hw : z_wd (((W.sN 0 (W.n0 + 1)).sI 0 (upd W.tx (0 + W.n0) (nI c))).der V))  : pi_wp xs L (d + 9) 105 0 [some (.ref 56), some (.int (nI 0)), some (.int (nI c))] [] σ (fun v s => v = some (.int (nI (W.n0 + 1))) ∧ z_MR (((W.sN 0 (W.n0 + 1)).sI 0 (upd W.tx (0 + W.n0) (nI c))).der V) s ∧ pi_fr z_RC s σ) := by
  have hk := hm.wk
  have hnd8 := hk.wd.nd8
  have hns12 := hk.wd.ns12
  have hn60 := hk.nine
  have hnf := hk.nf
  have hnw := hk.nw
  have hnc := hk.nc
  have hn08 := hk.wd.n0
  have hn140 := hk.wd.n1
  refine pi_ca 4 (m' := 100) (l' := [some (.int (nI 0)), some (.int (nI 0)), some (.int (nI 1))]) (σ' := σ) (pc2 := 6) (l2 := [some (.ref 56), some (.int (nI 0)), some (.int (nI c))]) (t := []) (fun f => rfl) (pi_M_inT ((z_B_in (by omega)).mpr (⟨_, by omega, rfl⟩))) ?_
  rintro _ _ ⟨rfl, rfl⟩
  refine pi_cf 1 (c := nI 1 = 0) (pc' := 9) (l' := [some (.ref 56), some (.int (nI 0)), some (.int (nI c))]) (st' := []) (σ' := σ) (pc2 := 20) (l2 := [some (.ref 56), some (.int (nI 0)), some (.int (nI c))]) (st2 := []) (σ2 := σ) (fun f => rfl) (by decide) ?_
  refine pi_ca 4 (m' := 100) (l' := [some (.int (nI c)), some (.int (nI 0)), some (.int (nI 255))]) (σ' := σ) (pc2 := 17) (l2 := [some (.ref 56), some (.int (nI 0)), some (.int (nI c))]) (t := []) (fun f => rfl) (pi_M_inT ((z_B_in (by omega)).mpr (⟨_, by omega, rfl⟩))) ?_
  rintro _ _ ⟨rfl, rfl⟩
  refine pi_cf 1 (c := nI 1 = 0) (pc' := 23) (l' := [some (.ref 56), some (.int (nI 0)), some (.int (nI c))]) (st' := []) (σ' := σ) (pc2 := 20) (l2 := [some (.ref 56), some (.int (nI 0)), some (.int (nI c))]) (st2 := []) (σ2 := σ) (fun f => rfl) (by decide) ?_
  refine pi_ai 4 (u := 0) (n := 2) (g := σ 57) (pc' := 29) (l' := [some (.ref 56), some (.int (nI 0)), some (.int (nI c))]) (t := []) (σ' := σ) (fun f => rfl) (by omega) (by omega) ?_
  refine pi_tp (y := nI W.n0) (hm.n0) ?_
  refine pi_ct 2 (c := nI 0 = 0) (pc' := 33) (l' := [some (.ref 56), some (.int (nI 0)), some (.int (nI c))]) (st' := [.int (nI W.n0)]) (σ' := σ) (pc2 := 38) (l2 := [some (.ref 56), some (.int (nI 0)), some (.int (nI c))]) (st2 := [.int (nI W.n0)]) (σ2 := σ) (fun f => rfl) (by decide) ?_
  refine pi_cf 3 (c := nI W.n0 = nI 8) (pc' := 46) (l' := [some (.ref 56), some (.int (nI 0)), some (.int (nI c))]) (st' := []) (σ' := σ) (pc2 := 43) (l2 := [some (.ref 56), some (.int (nI 0)), some (.int (nI c))]) (st2 := []) (σ2 := σ) (fun f => rfl) (fun q => absurd ((nI_eq (by omega) (by omega)).mp q) (by omega)) ?_
  refine pi_go 5 (pc' := 54) (l' := [some (.ref 56), some (.int (nI 0)), some (.int (nI c))]) (st' := [.int (nI 40 * nI 0), .ref 58]) (σ' := σ) (fun f => rfl) ?_
  refine pi_tp (y := nI 0) (pk_mul _ _) ?_
  refine pi_ai 4 (u := 0) (n := 2) (g := σ 57) (pc' := 60) (l' := [some (.ref 56), some (.int (nI 0)), some (.int (nI c))]) (t := [.int (nI 0), .ref 58]) (σ' := σ) (fun f => rfl) (by omega) (by omega) ?_
  refine pi_tp (y := nI W.n0) (hm.n0) ?_
  refine pi_go 1 (pc' := 61) (l' := [some (.ref 56), some (.int (nI 0)), some (.int (nI c))]) (st' := [.int (nI 0 + nI W.n0), .ref 58]) (σ' := σ) (fun f => rfl) ?_
  refine pi_tp (y := nI (0 + W.n0)) (nI_add _ _) ?_
  refine pi_au 2 (u := 0 + W.n0) (n := 80) (a := 58) (x := nI c) (pc' := 63) (l' := [some (.ref 56), some (.int (nI 0)), some (.int (nI c))]) (t := []) (σ' := σ) (fun f => rfl) (by omega) (by omega) ?_
  generalize es1 : pi_up σ 58 (0 + W.n0) (nI c) = s1
  refine pi_ai 5 (u := 0) (n := 2) (g := s1 57) (pc' := 70) (l' := [some (.ref 56), some (.int (nI 0)), some (.int (nI c))]) (t := [.int (nI 0), .ref 57]) (σ' := s1) (fun f => rfl) (by omega) (by omega) ?_
  refine pi_tp (y := nI W.n0) ((congrFun ((congrFun es1 57).symm.trans (pi_up_ne _ _ _ (by decide))) 0).trans (hm.n0)) ?_
  refine pi_go 2 (pc' := 72) (l' := [some (.ref 56), some (.int (nI 0)), some (.int (nI c))]) (st' := [.int (nI W.n0 + nI 1), .int (nI 0), .ref 57]) (σ' := s1) (fun f => rfl) ?_
  refine pi_tp (y := nI (W.n0 + 1)) (nI_add _ _) ?_
  refine pi_au 1 (u := 0) (n := 2) (a := 57) (x := nI (W.n0 + 1)) (pc' := 73) (l' := [some (.ref 56), some (.int (nI 0)), some (.int (nI c))]) (t := []) (σ' := s1) (fun f => rfl) (by omega) (by omega) ?_
  generalize es2 : pi_up s1 57 0 (nI (W.n0 + 1)) = s2
  refine pi_ai 4 (u := 0) (n := 2) (g := s2 57) (pc' := 79) (l' := [some (.ref 56), some (.int (nI 0)), some (.int (nI c))]) (t := []) (σ' := s2) (fun f => rfl) (by omega) (by omega) ?_
  refine pi_tp (y := nI (W.n0 + 1)) ((congrFun (congrFun es2 57) 0).symm.trans (pi_up_ss _ _ _ _)) ?_
  refine pi_rt 1 (v := some (.int (nI (W.n0 + 1)))) (σ' := s2) (fun f => rfl) ?_
  have hfr : pi_fr [57, 58] s2 σ := pi_fr_of es2 (by decide) (pi_fr_of es1 (by decide) (pi_fr_rf))
  exact ⟨rfl, hm.ty0 hw ((congrFun (congrFun es2 57) 0).symm.trans (pi_up_ss _ _ _ _)) ((congrFun (congrFun es2 57) 1).symm.trans ((pi_up_sn _ _ _ (by decide)).trans ((congrFun ((congrFun es1 57).symm.trans (pi_up_ne _ _ _ (by decide))) 1).trans (rfl)))) ((congrFun es2 58).symm.trans ((pi_up_ne _ _ _ (by decide)).trans ((congrFun es1 58).symm.trans ((pi_up_self _ _ _ _))))) (pi_fs_ne es2 (by decide) (pi_fs_ne es1 (by decide) (pi_fs_rf))) hfr, pi_fr_tr hfr (by decide) pi_fr_rf⟩
set_option maxRecDepth 20000 in
theorem pi_P_type0_full {xs : Nat → Int32} {L d : Nat} {W : zW} {σ : pi_S} (hm : z_MR W σ) {c : Nat} (hc : c < 256) (hn : W.n0 = 8)  : pi_wp xs L (d + 9) 105 0 [some (.ref 56), some (.int (nI 0)), some (.int (nI c))] [] σ (fun v s => v = some (.int (-4)) ∧ z_MR W s ∧ pi_fr z_RC s σ) := by
  have hk := hm.wk
  have hnd8 := hk.wd.nd8
  have hns12 := hk.wd.ns12
  have hn60 := hk.nine
  have hnf := hk.nf
  have hnw := hk.nw
  have hnc := hk.nc
  have hn08 := hk.wd.n0
  have hn140 := hk.wd.n1
  refine pi_ca 4 (m' := 100) (l' := [some (.int (nI 0)), some (.int (nI 0)), some (.int (nI 1))]) (σ' := σ) (pc2 := 6) (l2 := [some (.ref 56), some (.int (nI 0)), some (.int (nI c))]) (t := []) (fun f => rfl) (pi_M_inT ((z_B_in (by omega)).mpr (⟨_, by omega, rfl⟩))) ?_
  rintro _ _ ⟨rfl, rfl⟩
  refine pi_cf 1 (c := nI 1 = 0) (pc' := 9) (l' := [some (.ref 56), some (.int (nI 0)), some (.int (nI c))]) (st' := []) (σ' := σ) (pc2 := 20) (l2 := [some (.ref 56), some (.int (nI 0)), some (.int (nI c))]) (st2 := []) (σ2 := σ) (fun f => rfl) (by decide) ?_
  refine pi_ca 4 (m' := 100) (l' := [some (.int (nI c)), some (.int (nI 0)), some (.int (nI 255))]) (σ' := σ) (pc2 := 17) (l2 := [some (.ref 56), some (.int (nI 0)), some (.int (nI c))]) (t := []) (fun f => rfl) (pi_M_inT ((z_B_in (by omega)).mpr (⟨_, by omega, rfl⟩))) ?_
  rintro _ _ ⟨rfl, rfl⟩
  refine pi_cf 1 (c := nI 1 = 0) (pc' := 23) (l' := [some (.ref 56), some (.int (nI 0)), some (.int (nI c))]) (st' := []) (σ' := σ) (pc2 := 20) (l2 := [some (.ref 56), some (.int (nI 0)), some (.int (nI c))]) (st2 := []) (σ2 := σ) (fun f => rfl) (by decide) ?_
  refine pi_ai 4 (u := 0) (n := 2) (g := σ 57) (pc' := 29) (l' := [some (.ref 56), some (.int (nI 0)), some (.int (nI c))]) (t := []) (σ' := σ) (fun f => rfl) (by omega) (by omega) ?_
  refine pi_tp (y := nI W.n0) (hm.n0) ?_
  refine pi_ct 2 (c := nI 0 = 0) (pc' := 33) (l' := [some (.ref 56), some (.int (nI 0)), some (.int (nI c))]) (st' := [.int (nI W.n0)]) (σ' := σ) (pc2 := 38) (l2 := [some (.ref 56), some (.int (nI 0)), some (.int (nI c))]) (st2 := [.int (nI W.n0)]) (σ2 := σ) (fun f => rfl) (by decide) ?_
  refine pi_ct 3 (c := nI W.n0 = nI 8) (pc' := 43) (l' := [some (.ref 56), some (.int (nI 0)), some (.int (nI c))]) (st' := []) (σ' := σ) (pc2 := 46) (l2 := [some (.ref 56), some (.int (nI 0)), some (.int (nI c))]) (st2 := []) (σ2 := σ) (fun f => rfl) (congrArg nI hn) ?_
  refine pi_rt 2 (v := some (.int (-4))) (σ' := σ) (fun f => rfl) ?_
  exact ⟨rfl, hm, pi_fr_rf⟩
set_option maxRecDepth 20000 in
theorem pi_P_wipe0 {xs : Nat → Int32} {L d : Nat} {W : zW} {σ : pi_S} (hm : z_MR W σ) {V : zW} (hw : z_wd ((W.sN 0 0).der V))  : pi_wp xs L (d + 9) 106 0 [some (.ref 56), some (.int (nI 0)), none] [] σ (fun v s => v = some (.int (nI W.n0)) ∧ z_MR ((W.sN 0 0).der V) s ∧ pi_fr z_RC s σ) := by
  have hk := hm.wk
  have hnd8 := hk.wd.nd8
  have hns12 := hk.wd.ns12
  have hn60 := hk.nine
  have hnf := hk.nf
  have hnw := hk.nw
  have hnc := hk.nc
  have hn08 := hk.wd.n0
  have hn140 := hk.wd.n1
  refine pi_ca 4 (m' := 100) (l' := [some (.int (nI 0)), some (.int (nI 0)), some (.int (nI 1))]) (σ' := σ) (pc2 := 6) (l2 := [some (.ref 56), some (.int (nI 0)), none]) (t := []) (fun f => rfl) (pi_M_inT ((z_B_in (by omega)).mpr (⟨_, by omega, rfl⟩))) ?_
  rintro _ _ ⟨rfl, rfl⟩
  refine pi_cf 1 (c := nI 1 = 0) (pc' := 12) (l' := [some (.ref 56), some (.int (nI 0)), none]) (st' := []) (σ' := σ) (pc2 := 9) (l2 := [some (.ref 56), some (.int (nI 0)), none]) (st2 := []) (σ2 := σ) (fun f => rfl) (by decide) ?_
  refine pi_ai 4 (u := 0) (n := 2) (g := σ 57) (pc' := 18) (l' := [some (.ref 56), some (.int (nI 0)), none]) (t := []) (σ' := σ) (fun f => rfl) (by omega) (by omega) ?_
  refine pi_tp (y := nI W.n0) (hm.n0) ?_
  refine pi_au 6 (u := 0) (n := 2) (a := 57) (x := nI 0) (pc' := 26) (l' := [some (.ref 56), some (.int (nI 0)), some (.int (nI W.n0))]) (t := []) (σ' := σ) (fun f => rfl) (by omega) (by omega) ?_
  generalize es1 : pi_up σ 57 0 (nI 0) = s1
  refine pi_rt 2 (v := some (.int (nI W.n0))) (σ' := s1) (fun f => rfl) ?_
  have hfr : pi_fr [57] s1 σ := pi_fr_of es1 (by decide) (pi_fr_rf)
  exact ⟨rfl, hm.wi0 hw ((congrFun (congrFun es1 57) 0).symm.trans (pi_up_ss _ _ _ _)) ((congrFun (congrFun es1 57) 1).symm.trans ((pi_up_sn _ _ _ (by decide)).trans (rfl))) (pi_fs_ne es1 (by decide) (pi_fs_rf)) hfr, pi_fr_tr hfr (by decide) pi_fr_rf⟩
set_option maxRecDepth 20000 in
theorem pi_P_type1 {xs : Nat → Int32} {L d : Nat} {W : zW} {σ : pi_S} (hm : z_MR W σ) {c : Nat} {V : zW} (hc : c < 256) (hn : W.n1 < 40) (hw : z_wd (((W.sN 1 (W.n1 + 1)).sI 0 (upd W.tx (40 + W.n1) (nI c))).der V))  : pi_wp xs L (d + 9) 105 0 [some (.ref 56), some (.int (nI 1)), some (.int (nI c))] [] σ (fun v s => v = some (.int (nI (W.n1 + 1))) ∧ z_MR (((W.sN 1 (W.n1 + 1)).sI 0 (upd W.tx (40 + W.n1) (nI c))).der V) s ∧ pi_fr z_RC s σ) := by
  have hk := hm.wk
  have hnd8 := hk.wd.nd8
  have hns12 := hk.wd.ns12
  have hn60 := hk.nine
  have hnf := hk.nf
  have hnw := hk.nw
  have hnc := hk.nc
  have hn08 := hk.wd.n0
  have hn140 := hk.wd.n1
  refine pi_ca 4 (m' := 100) (l' := [some (.int (nI 1)), some (.int (nI 0)), some (.int (nI 1))]) (σ' := σ) (pc2 := 6) (l2 := [some (.ref 56), some (.int (nI 1)), some (.int (nI c))]) (t := []) (fun f => rfl) (pi_M_inT ((z_B_in (by omega)).mpr (⟨_, by omega, rfl⟩))) ?_
  rintro _ _ ⟨rfl, rfl⟩
  refine pi_cf 1 (c := nI 1 = 0) (pc' := 9) (l' := [some (.ref 56), some (.int (nI 1)), some (.int (nI c))]) (st' := []) (σ' := σ) (pc2 := 20) (l2 := [some (.ref 56), some (.int (nI 1)), some (.int (nI c))]) (st2 := []) (σ2 := σ) (fun f => rfl) (by decide) ?_
  refine pi_ca 4 (m' := 100) (l' := [some (.int (nI c)), some (.int (nI 0)), some (.int (nI 255))]) (σ' := σ) (pc2 := 17) (l2 := [some (.ref 56), some (.int (nI 1)), some (.int (nI c))]) (t := []) (fun f => rfl) (pi_M_inT ((z_B_in (by omega)).mpr (⟨_, by omega, rfl⟩))) ?_
  rintro _ _ ⟨rfl, rfl⟩
  refine pi_cf 1 (c := nI 1 = 0) (pc' := 23) (l' := [some (.ref 56), some (.int (nI 1)), some (.int (nI c))]) (st' := []) (σ' := σ) (pc2 := 20) (l2 := [some (.ref 56), some (.int (nI 1)), some (.int (nI c))]) (st2 := []) (σ2 := σ) (fun f => rfl) (by decide) ?_
  refine pi_ai 4 (u := 1) (n := 2) (g := σ 57) (pc' := 29) (l' := [some (.ref 56), some (.int (nI 1)), some (.int (nI c))]) (t := []) (σ' := σ) (fun f => rfl) (by omega) (by omega) ?_
  refine pi_tp (y := nI W.n1) (hm.n1) ?_
  refine pi_cf 2 (c := nI 1 = 0) (pc' := 38) (l' := [some (.ref 56), some (.int (nI 1)), some (.int (nI c))]) (st' := [.int (nI W.n1)]) (σ' := σ) (pc2 := 33) (l2 := [some (.ref 56), some (.int (nI 1)), some (.int (nI c))]) (st2 := [.int (nI W.n1)]) (σ2 := σ) (fun f => rfl) (by decide) ?_
  refine pi_cf 2 (c := nI W.n1 = nI 40) (pc' := 46) (l' := [some (.ref 56), some (.int (nI 1)), some (.int (nI c))]) (st' := []) (σ' := σ) (pc2 := 43) (l2 := [some (.ref 56), some (.int (nI 1)), some (.int (nI c))]) (st2 := []) (σ2 := σ) (fun f => rfl) (fun q => absurd ((nI_eq (by omega) (by omega)).mp q) (by omega)) ?_
  refine pi_go 5 (pc' := 54) (l' := [some (.ref 56), some (.int (nI 1)), some (.int (nI c))]) (st' := [.int (nI 40 * nI 1), .ref 58]) (σ' := σ) (fun f => rfl) ?_
  refine pi_tp (y := nI 40) (pk_mul _ _) ?_
  refine pi_ai 4 (u := 1) (n := 2) (g := σ 57) (pc' := 60) (l' := [some (.ref 56), some (.int (nI 1)), some (.int (nI c))]) (t := [.int (nI 40), .ref 58]) (σ' := σ) (fun f => rfl) (by omega) (by omega) ?_
  refine pi_tp (y := nI W.n1) (hm.n1) ?_
  refine pi_go 1 (pc' := 61) (l' := [some (.ref 56), some (.int (nI 1)), some (.int (nI c))]) (st' := [.int (nI 40 + nI W.n1), .ref 58]) (σ' := σ) (fun f => rfl) ?_
  refine pi_tp (y := nI (40 + W.n1)) (nI_add _ _) ?_
  refine pi_au 2 (u := 40 + W.n1) (n := 80) (a := 58) (x := nI c) (pc' := 63) (l' := [some (.ref 56), some (.int (nI 1)), some (.int (nI c))]) (t := []) (σ' := σ) (fun f => rfl) (by omega) (by omega) ?_
  generalize es1 : pi_up σ 58 (40 + W.n1) (nI c) = s1
  refine pi_ai 5 (u := 1) (n := 2) (g := s1 57) (pc' := 70) (l' := [some (.ref 56), some (.int (nI 1)), some (.int (nI c))]) (t := [.int (nI 1), .ref 57]) (σ' := s1) (fun f => rfl) (by omega) (by omega) ?_
  refine pi_tp (y := nI W.n1) ((congrFun ((congrFun es1 57).symm.trans (pi_up_ne _ _ _ (by decide))) 1).trans (hm.n1)) ?_
  refine pi_go 2 (pc' := 72) (l' := [some (.ref 56), some (.int (nI 1)), some (.int (nI c))]) (st' := [.int (nI W.n1 + nI 1), .int (nI 1), .ref 57]) (σ' := s1) (fun f => rfl) ?_
  refine pi_tp (y := nI (W.n1 + 1)) (nI_add _ _) ?_
  refine pi_au 1 (u := 1) (n := 2) (a := 57) (x := nI (W.n1 + 1)) (pc' := 73) (l' := [some (.ref 56), some (.int (nI 1)), some (.int (nI c))]) (t := []) (σ' := s1) (fun f => rfl) (by omega) (by omega) ?_
  generalize es2 : pi_up s1 57 1 (nI (W.n1 + 1)) = s2
  refine pi_ai 4 (u := 1) (n := 2) (g := s2 57) (pc' := 79) (l' := [some (.ref 56), some (.int (nI 1)), some (.int (nI c))]) (t := []) (σ' := s2) (fun f => rfl) (by omega) (by omega) ?_
  refine pi_tp (y := nI (W.n1 + 1)) ((congrFun (congrFun es2 57) 1).symm.trans (pi_up_ss _ _ _ _)) ?_
  refine pi_rt 1 (v := some (.int (nI (W.n1 + 1)))) (σ' := s2) (fun f => rfl) ?_
  have hfr : pi_fr [57, 58] s2 σ := pi_fr_of es2 (by decide) (pi_fr_of es1 (by decide) (pi_fr_rf))
  exact ⟨rfl, hm.ty1 hw ((congrFun (congrFun es2 57) 1).symm.trans (pi_up_ss _ _ _ _)) ((congrFun (congrFun es2 57) 0).symm.trans ((pi_up_sn _ _ _ (by decide)).trans ((congrFun ((congrFun es1 57).symm.trans (pi_up_ne _ _ _ (by decide))) 0).trans (rfl)))) ((congrFun es2 58).symm.trans ((pi_up_ne _ _ _ (by decide)).trans ((congrFun es1 58).symm.trans ((pi_up_self _ _ _ _))))) (pi_fs_ne es2 (by decide) (pi_fs_ne es1 (by decide) (pi_fs_rf))) hfr, pi_fr_tr hfr (by decide) pi_fr_rf⟩
set_option maxRecDepth 20000 in
theorem pi_P_type1_full {xs : Nat → Int32} {L d : Nat} {W : zW} {σ : pi_S} (hm : z_MR W σ) {c : Nat} (hc : c < 256) (hn : W.n1 = 40)  : pi_wp xs L (d + 9) 105 0 [some (.ref 56), some (.int (nI 1)), some (.int (nI c))] [] σ (fun v s => v = some (.int (-4)) ∧ z_MR W s ∧ pi_fr z_RC s σ) := by
  have hk := hm.wk
  have hnd8 := hk.wd.nd8
  have hns12 := hk.wd.ns12
  have hn60 := hk.nine
  have hnf := hk.nf
  have hnw := hk.nw
  have hnc := hk.nc
  have hn08 := hk.wd.n0
  have hn140 := hk.wd.n1
  refine pi_ca 4 (m' := 100) (l' := [some (.int (nI 1)), some (.int (nI 0)), some (.int (nI 1))]) (σ' := σ) (pc2 := 6) (l2 := [some (.ref 56), some (.int (nI 1)), some (.int (nI c))]) (t := []) (fun f => rfl) (pi_M_inT ((z_B_in (by omega)).mpr (⟨_, by omega, rfl⟩))) ?_
  rintro _ _ ⟨rfl, rfl⟩
  refine pi_cf 1 (c := nI 1 = 0) (pc' := 9) (l' := [some (.ref 56), some (.int (nI 1)), some (.int (nI c))]) (st' := []) (σ' := σ) (pc2 := 20) (l2 := [some (.ref 56), some (.int (nI 1)), some (.int (nI c))]) (st2 := []) (σ2 := σ) (fun f => rfl) (by decide) ?_
  refine pi_ca 4 (m' := 100) (l' := [some (.int (nI c)), some (.int (nI 0)), some (.int (nI 255))]) (σ' := σ) (pc2 := 17) (l2 := [some (.ref 56), some (.int (nI 1)), some (.int (nI c))]) (t := []) (fun f => rfl) (pi_M_inT ((z_B_in (by omega)).mpr (⟨_, by omega, rfl⟩))) ?_
  rintro _ _ ⟨rfl, rfl⟩
  refine pi_cf 1 (c := nI 1 = 0) (pc' := 23) (l' := [some (.ref 56), some (.int (nI 1)), some (.int (nI c))]) (st' := []) (σ' := σ) (pc2 := 20) (l2 := [some (.ref 56), some (.int (nI 1)), some (.int (nI c))]) (st2 := []) (σ2 := σ) (fun f => rfl) (by decide) ?_
  refine pi_ai 4 (u := 1) (n := 2) (g := σ 57) (pc' := 29) (l' := [some (.ref 56), some (.int (nI 1)), some (.int (nI c))]) (t := []) (σ' := σ) (fun f => rfl) (by omega) (by omega) ?_
  refine pi_tp (y := nI W.n1) (hm.n1) ?_
  refine pi_cf 2 (c := nI 1 = 0) (pc' := 38) (l' := [some (.ref 56), some (.int (nI 1)), some (.int (nI c))]) (st' := [.int (nI W.n1)]) (σ' := σ) (pc2 := 33) (l2 := [some (.ref 56), some (.int (nI 1)), some (.int (nI c))]) (st2 := [.int (nI W.n1)]) (σ2 := σ) (fun f => rfl) (by decide) ?_
  refine pi_ct 2 (c := nI W.n1 = nI 40) (pc' := 43) (l' := [some (.ref 56), some (.int (nI 1)), some (.int (nI c))]) (st' := []) (σ' := σ) (pc2 := 46) (l2 := [some (.ref 56), some (.int (nI 1)), some (.int (nI c))]) (st2 := []) (σ2 := σ) (fun f => rfl) (congrArg nI hn) ?_
  refine pi_rt 2 (v := some (.int (-4))) (σ' := σ) (fun f => rfl) ?_
  exact ⟨rfl, hm, pi_fr_rf⟩
set_option maxRecDepth 20000 in
theorem pi_P_wipe1 {xs : Nat → Int32} {L d : Nat} {W : zW} {σ : pi_S} (hm : z_MR W σ) {V : zW} (hw : z_wd ((W.sN 1 0).der V))  : pi_wp xs L (d + 9) 106 0 [some (.ref 56), some (.int (nI 1)), none] [] σ (fun v s => v = some (.int (nI W.n1)) ∧ z_MR ((W.sN 1 0).der V) s ∧ pi_fr z_RC s σ) := by
  have hk := hm.wk
  have hnd8 := hk.wd.nd8
  have hns12 := hk.wd.ns12
  have hn60 := hk.nine
  have hnf := hk.nf
  have hnw := hk.nw
  have hnc := hk.nc
  have hn08 := hk.wd.n0
  have hn140 := hk.wd.n1
  refine pi_ca 4 (m' := 100) (l' := [some (.int (nI 1)), some (.int (nI 0)), some (.int (nI 1))]) (σ' := σ) (pc2 := 6) (l2 := [some (.ref 56), some (.int (nI 1)), none]) (t := []) (fun f => rfl) (pi_M_inT ((z_B_in (by omega)).mpr (⟨_, by omega, rfl⟩))) ?_
  rintro _ _ ⟨rfl, rfl⟩
  refine pi_cf 1 (c := nI 1 = 0) (pc' := 12) (l' := [some (.ref 56), some (.int (nI 1)), none]) (st' := []) (σ' := σ) (pc2 := 9) (l2 := [some (.ref 56), some (.int (nI 1)), none]) (st2 := []) (σ2 := σ) (fun f => rfl) (by decide) ?_
  refine pi_ai 4 (u := 1) (n := 2) (g := σ 57) (pc' := 18) (l' := [some (.ref 56), some (.int (nI 1)), none]) (t := []) (σ' := σ) (fun f => rfl) (by omega) (by omega) ?_
  refine pi_tp (y := nI W.n1) (hm.n1) ?_
  refine pi_au 6 (u := 1) (n := 2) (a := 57) (x := nI 0) (pc' := 26) (l' := [some (.ref 56), some (.int (nI 1)), some (.int (nI W.n1))]) (t := []) (σ' := σ) (fun f => rfl) (by omega) (by omega) ?_
  generalize es1 : pi_up σ 57 1 (nI 0) = s1
  refine pi_rt 2 (v := some (.int (nI W.n1))) (σ' := s1) (fun f => rfl) ?_
  have hfr : pi_fr [57] s1 σ := pi_fr_of es1 (by decide) (pi_fr_rf)
  exact ⟨rfl, hm.wi1 hw ((congrFun (congrFun es1 57) 1).symm.trans (pi_up_ss _ _ _ _)) ((congrFun (congrFun es1 57) 0).symm.trans ((pi_up_sn _ _ _ (by decide)).trans (rfl))) (pi_fs_ne es1 (by decide) (pi_fs_rf)) hfr, pi_fr_tr hfr (by decide) pi_fr_rf⟩
set_option maxRecDepth 20000 in
theorem pi_P_type_bad {xs : Nat → Int32} {L d : Nat} {W : zW} {σ : pi_S} (hm : z_MR W σ) {a b : Int32} (hb : ¬ (z_B 2 a ∧ z_B 256 b))  : pi_wp xs L (d + 9) 105 0 [some (.ref 56), some (.int a), some (.int b)] [] σ (fun v s => v = some (.int (-2)) ∧ z_MR W s ∧ pi_fr z_RC s σ) := by
  have hk := hm.wk
  have hnd8 := hk.wd.nd8
  have hns12 := hk.wd.ns12
  have hn60 := hk.nine
  have hnf := hk.nf
  have hnw := hk.nw
  have hnc := hk.nc
  have hn08 := hk.wd.n0
  have hn140 := hk.wd.n1
  refine pi_ca 4 (m' := 100) (l' := [some (.int a), some (.int (nI 0)), some (.int (nI 1))]) (σ' := σ) (pc2 := 6) (l2 := [some (.ref 56), some (.int a), some (.int b)]) (t := []) (fun f => rfl) (pi_M_inB (p := z_B 2 a) (z_B_in (by omega))) ?_
  rintro _ _ (⟨b1, rfl, rfl⟩ | ⟨b1, rfl, rfl⟩)
  · refine pi_cf 1 (c := nI 1 = 0) (pc' := 9) (l' := [some (.ref 56), some (.int a), some (.int b)]) (st' := []) (σ' := σ) (pc2 := 20) (l2 := [some (.ref 56), some (.int a), some (.int b)]) (st2 := []) (σ2 := σ) (fun f => rfl) (by decide) ?_
    refine pi_ca 4 (m' := 100) (l' := [some (.int b), some (.int (nI 0)), some (.int (nI 255))]) (σ' := σ) (pc2 := 17) (l2 := [some (.ref 56), some (.int a), some (.int b)]) (t := []) (fun f => rfl) (pi_M_inB (p := z_B 256 b) (z_B_in (by omega))) ?_
    rintro _ _ (⟨b2, rfl, rfl⟩ | ⟨b2, rfl, rfl⟩)
    · refine pi_cf 1 (c := nI 1 = 0) (pc' := 23) (l' := [some (.ref 56), some (.int a), some (.int b)]) (st' := []) (σ' := σ) (pc2 := 20) (l2 := [some (.ref 56), some (.int a), some (.int b)]) (st2 := []) (σ2 := σ) (fun f => rfl) (by decide) ?_
      exact (hb ⟨b1, b2⟩).elim
    · refine pi_ct 1 (c := nI 0 = 0) (pc' := 20) (l' := [some (.ref 56), some (.int a), some (.int b)]) (st' := []) (σ' := σ) (pc2 := 23) (l2 := [some (.ref 56), some (.int a), some (.int b)]) (st2 := []) (σ2 := σ) (fun f => rfl) (by decide) ?_
      refine pi_rt 2 (v := some (.int (-2))) (σ' := σ) (fun f => rfl) ?_
      exact ⟨rfl, hm, pi_fr_rf⟩
  · refine pi_ct 1 (c := nI 0 = 0) (pc' := 20) (l' := [some (.ref 56), some (.int a), some (.int b)]) (st' := []) (σ' := σ) (pc2 := 9) (l2 := [some (.ref 56), some (.int a), some (.int b)]) (st2 := []) (σ2 := σ) (fun f => rfl) (by decide) ?_
    refine pi_rt 2 (v := some (.int (-2))) (σ' := σ) (fun f => rfl) ?_
    exact ⟨rfl, hm, pi_fr_rf⟩
set_option maxRecDepth 20000 in
theorem pi_P_wipe_bad {xs : Nat → Int32} {L d : Nat} {W : zW} {σ : pi_S} (hm : z_MR W σ) {a : Int32} (hb : ¬ (z_B 2 a))  : pi_wp xs L (d + 9) 106 0 [some (.ref 56), some (.int a), none] [] σ (fun v s => v = some (.int (-2)) ∧ z_MR W s ∧ pi_fr z_RC s σ) := by
  have hk := hm.wk
  have hnd8 := hk.wd.nd8
  have hns12 := hk.wd.ns12
  have hn60 := hk.nine
  have hnf := hk.nf
  have hnw := hk.nw
  have hnc := hk.nc
  have hn08 := hk.wd.n0
  have hn140 := hk.wd.n1
  refine pi_ca 4 (m' := 100) (l' := [some (.int a), some (.int (nI 0)), some (.int (nI 1))]) (σ' := σ) (pc2 := 6) (l2 := [some (.ref 56), some (.int a), none]) (t := []) (fun f => rfl) (pi_M_inB (p := z_B 2 a) (z_B_in (by omega))) ?_
  rintro _ _ (⟨b1, rfl, rfl⟩ | ⟨b1, rfl, rfl⟩)
  · refine pi_cf 1 (c := nI 1 = 0) (pc' := 12) (l' := [some (.ref 56), some (.int a), none]) (st' := []) (σ' := σ) (pc2 := 9) (l2 := [some (.ref 56), some (.int a), none]) (st2 := []) (σ2 := σ) (fun f => rfl) (by decide) ?_
    exact (hb b1).elim
  · refine pi_ct 1 (c := nI 0 = 0) (pc' := 9) (l' := [some (.ref 56), some (.int a), none]) (st' := []) (σ' := σ) (pc2 := 12) (l2 := [some (.ref 56), some (.int a), none]) (st2 := []) (σ2 := σ) (fun f => rfl) (by decide) ?_
    refine pi_rt 2 (v := some (.int (-2))) (σ' := σ) (fun f => rfl) ?_
    exact ⟨rfl, hm, pi_fr_rf⟩
set_option maxRecDepth 20000 in
theorem pi_P_fall {xs : Nat → Int32} {L d : Nat} {W : zW} {σ : pi_S} (hm : z_MR W σ) {mi dr kd b : Nat} (hmi : mi < 60) (hd : dr < 8) (hkd : kd < 5) (hb1 : 1 ≤ b) (hb9 : b ≤ 9) (hn : W.nf < 20)  : pi_wp xs L (d + 9) 121 0 [some (.ref 56), some (.int (nI mi)), some (.int (nI dr)), some (.int (nI kd)), some (.int (nI b))] [] σ (fun v s => v = some (.int (nI (W.nf + 1))) ∧ z_MR (W.fall (nI mi) dr kd (nI b)) s ∧ pi_fr z_RC s σ) := by
  have hk := hm.wk
  have hnd8 := hk.wd.nd8
  have hns12 := hk.wd.ns12
  have hn60 := hk.nine
  have hnf := hk.nf
  have hnw := hk.nw
  have hnc := hk.nc
  have hn08 := hk.wd.n0
  have hn140 := hk.wd.n1
  refine pi_ca 2 (m' := 115) (l' := [some (.int (nI mi))]) (σ' := σ) (pc2 := 4) (l2 := [some (.ref 56), some (.int (nI mi)), some (.int (nI dr)), some (.int (nI kd)), some (.int (nI b))]) (t := []) (fun f => rfl) (pi_M_isMinuteT ⟨_, by omega, rfl⟩) ?_
  rintro _ _ ⟨rfl, rfl⟩
  refine pi_cf 1 (c := nI 1 = 0) (pc' := 7) (l' := [some (.ref 56), some (.int (nI mi)), some (.int (nI dr)), some (.int (nI kd)), some (.int (nI b))]) (st' := []) (σ' := σ) (pc2 := 34) (l2 := [some (.ref 56), some (.int (nI mi)), some (.int (nI dr)), some (.int (nI kd)), some (.int (nI b))]) (st2 := []) (σ2 := σ) (fun f => rfl) (by decide) ?_
  refine pi_ca 2 (m' := 116) (l' := [some (.int (nI dr))]) (σ' := σ) (pc2 := 11) (l2 := [some (.ref 56), some (.int (nI mi)), some (.int (nI dr)), some (.int (nI kd)), some (.int (nI b))]) (t := []) (fun f => rfl) (pi_M_isEightT ⟨_, by omega, rfl⟩) ?_
  rintro _ _ ⟨rfl, rfl⟩
  refine pi_cf 1 (c := nI 1 = 0) (pc' := 14) (l' := [some (.ref 56), some (.int (nI mi)), some (.int (nI dr)), some (.int (nI kd)), some (.int (nI b))]) (st' := []) (σ' := σ) (pc2 := 34) (l2 := [some (.ref 56), some (.int (nI mi)), some (.int (nI dr)), some (.int (nI kd)), some (.int (nI b))]) (st2 := []) (σ2 := σ) (fun f => rfl) (by decide) ?_
  refine pi_ca 4 (m' := 100) (l' := [some (.int (nI kd)), some (.int (nI 0)), some (.int (nI 4))]) (σ' := σ) (pc2 := 20) (l2 := [some (.ref 56), some (.int (nI mi)), some (.int (nI dr)), some (.int (nI kd)), some (.int (nI b))]) (t := []) (fun f => rfl) (pi_M_inT ((z_B_in (by omega)).mpr (⟨_, by omega, rfl⟩))) ?_
  rintro _ _ ⟨rfl, rfl⟩
  refine pi_cf 1 (c := nI 1 = 0) (pc' := 23) (l' := [some (.ref 56), some (.int (nI mi)), some (.int (nI dr)), some (.int (nI kd)), some (.int (nI b))]) (st' := []) (σ' := σ) (pc2 := 34) (l2 := [some (.ref 56), some (.int (nI mi)), some (.int (nI dr)), some (.int (nI kd)), some (.int (nI b))]) (st2 := []) (σ2 := σ) (fun f => rfl) (by decide) ?_
  refine pi_ca 4 (m' := 100) (l' := [some (.int (nI b)), some (.int (nI 1)), some (.int (nI 9))]) (σ' := σ) (pc2 := 31) (l2 := [some (.ref 56), some (.int (nI mi)), some (.int (nI dr)), some (.int (nI kd)), some (.int (nI b))]) (t := []) (fun f => rfl) (pi_M_inT ((z_P_in (by omega)).mpr (⟨_, by omega, by omega, rfl⟩))) ?_
  rintro _ _ ⟨rfl, rfl⟩
  refine pi_cf 1 (c := nI 1 = 0) (pc' := 37) (l' := [some (.ref 56), some (.int (nI mi)), some (.int (nI dr)), some (.int (nI kd)), some (.int (nI b))]) (st' := []) (σ' := σ) (pc2 := 34) (l2 := [some (.ref 56), some (.int (nI mi)), some (.int (nI dr)), some (.int (nI kd)), some (.int (nI b))]) (st2 := []) (σ2 := σ) (fun f => rfl) (by decide) ?_
  refine pi_go 2 (pc' := 41) (l' := [some (.ref 56), some (.int (nI mi)), some (.int (nI dr)), some (.int (nI kd)), some (.int (nI b))]) (st' := [.int (σ 56 11)]) (σ' := σ) (fun f => rfl) ?_
  refine pi_tp (y := nI W.nf) (hm.nf) ?_
  refine pi_cf 2 (c := nI W.nf = nI 20) (pc' := 49) (l' := [some (.ref 56), some (.int (nI mi)), some (.int (nI dr)), some (.int (nI kd)), some (.int (nI b))]) (st' := []) (σ' := σ) (pc2 := 46) (l2 := [some (.ref 56), some (.int (nI mi)), some (.int (nI dr)), some (.int (nI kd)), some (.int (nI b))]) (st2 := []) (σ2 := σ) (fun f => rfl) (fun q => absurd ((nI_eq (by omega) (by omega)).mp q) (by omega)) ?_
  refine pi_go 4 (pc' := 57) (l' := [some (.ref 56), some (.int (nI mi)), some (.int (nI dr)), some (.int (nI kd)), some (.int (nI b))]) (st' := [.int (σ 56 11), .ref 65]) (σ' := σ) (fun f => rfl) ?_
  refine pi_tp (y := nI W.nf) (hm.nf) ?_
  refine pi_au 2 (u := W.nf) (n := 21) (a := 65) (x := nI mi) (pc' := 59) (l' := [some (.ref 56), some (.int (nI mi)), some (.int (nI dr)), some (.int (nI kd)), some (.int (nI b))]) (t := []) (σ' := σ) (fun f => rfl) (by omega) (by omega) ?_
  generalize es1 : pi_up σ 65 W.nf (nI mi) = s1
  refine pi_go 4 (pc' := 67) (l' := [some (.ref 56), some (.int (nI mi)), some (.int (nI dr)), some (.int (nI kd)), some (.int (nI b))]) (st' := [.int (s1 56 11), .ref 66]) (σ' := s1) (fun f => rfl) ?_
  refine pi_tp (y := nI W.nf) ((congrFun ((congrFun es1 56).symm.trans (pi_up_ne _ _ _ (by decide))) 11).trans (hm.nf)) ?_
  refine pi_au 2 (u := W.nf) (n := 21) (a := 66) (x := nI dr) (pc' := 69) (l' := [some (.ref 56), some (.int (nI mi)), some (.int (nI dr)), some (.int (nI kd)), some (.int (nI b))]) (t := []) (σ' := s1) (fun f => rfl) (by omega) (by omega) ?_
  generalize es2 : pi_up s1 66 W.nf (nI dr) = s2
  refine pi_go 4 (pc' := 77) (l' := [some (.ref 56), some (.int (nI mi)), some (.int (nI dr)), some (.int (nI kd)), some (.int (nI b))]) (st' := [.int (s2 56 11), .ref 67]) (σ' := s2) (fun f => rfl) ?_
  refine pi_tp (y := nI W.nf) ((congrFun ((congrFun es2 56).symm.trans (pi_up_ne _ _ _ (by decide))) 11).trans ((congrFun ((congrFun es1 56).symm.trans (pi_up_ne _ _ _ (by decide))) 11).trans (hm.nf))) ?_
  refine pi_au 2 (u := W.nf) (n := 21) (a := 67) (x := nI kd) (pc' := 79) (l' := [some (.ref 56), some (.int (nI mi)), some (.int (nI dr)), some (.int (nI kd)), some (.int (nI b))]) (t := []) (σ' := s2) (fun f => rfl) (by omega) (by omega) ?_
  generalize es3 : pi_up s2 67 W.nf (nI kd) = s3
  refine pi_go 4 (pc' := 87) (l' := [some (.ref 56), some (.int (nI mi)), some (.int (nI dr)), some (.int (nI kd)), some (.int (nI b))]) (st' := [.int (s3 56 11), .ref 68]) (σ' := s3) (fun f => rfl) ?_
  refine pi_tp (y := nI W.nf) ((congrFun ((congrFun es3 56).symm.trans (pi_up_ne _ _ _ (by decide))) 11).trans ((congrFun ((congrFun es2 56).symm.trans (pi_up_ne _ _ _ (by decide))) 11).trans ((congrFun ((congrFun es1 56).symm.trans (pi_up_ne _ _ _ (by decide))) 11).trans (hm.nf)))) ?_
  refine pi_au 2 (u := W.nf) (n := 21) (a := 68) (x := nI b) (pc' := 90) (l' := [some (.ref 56), some (.int (nI mi)), some (.int (nI dr)), some (.int (nI kd)), some (.int (nI b))]) (t := []) (σ' := s3) (fun f => rfl) (by omega) (by omega) ?_
  generalize es4 : pi_up s3 68 W.nf (nI b) = s4
  refine pi_go 3 (pc' := 95) (l' := [some (.ref 56), some (.int (nI mi)), some (.int (nI dr)), some (.int (nI kd)), some (.int (nI b))]) (st' := [.int (s4 56 11), .ref 56]) (σ' := s4) (fun f => rfl) ?_
  refine pi_tp (y := nI W.nf) ((congrFun ((congrFun es4 56).symm.trans (pi_up_ne _ _ _ (by decide))) 11).trans ((congrFun ((congrFun es3 56).symm.trans (pi_up_ne _ _ _ (by decide))) 11).trans ((congrFun ((congrFun es2 56).symm.trans (pi_up_ne _ _ _ (by decide))) 11).trans ((congrFun ((congrFun es1 56).symm.trans (pi_up_ne _ _ _ (by decide))) 11).trans (hm.nf))))) ?_
  refine pi_go 2 (pc' := 97) (l' := [some (.ref 56), some (.int (nI mi)), some (.int (nI dr)), some (.int (nI kd)), some (.int (nI b))]) (st' := [.int (nI W.nf + nI 1), .ref 56]) (σ' := s4) (fun f => rfl) ?_
  refine pi_tp (y := nI (W.nf + 1)) (nI_add _ _) ?_
  refine pi_go 1 (pc' := 100) (l' := [some (.ref 56), some (.int (nI mi)), some (.int (nI dr)), some (.int (nI kd)), some (.int (nI b))]) (st' := []) (σ' := (pi_up s4 56 11 (nI (W.nf + 1)))) (fun f => rfl) ?_
  generalize es5 : pi_up s4 56 11 (nI (W.nf + 1)) = s5
  refine pi_go 2 (pc' := 104) (l' := [some (.ref 56), some (.int (nI mi)), some (.int (nI dr)), some (.int (nI kd)), some (.int (nI b))]) (st' := [.int (s5 56 11)]) (σ' := s5) (fun f => rfl) ?_
  refine pi_tp (y := nI (W.nf + 1)) ((congrFun (congrFun es5 56) 11).symm.trans (pi_up_ss _ _ _ _)) ?_
  refine pi_rt 1 (v := some (.int (nI (W.nf + 1)))) (σ' := s5) (fun f => rfl) ?_
  have hfr : pi_fr [56, 65, 66, 67, 68] s5 σ := pi_fr_of es5 (by decide) (pi_fr_of es4 (by decide) (pi_fr_of es3 (by decide) (pi_fr_of es2 (by decide) (pi_fr_of es1 (by decide) (pi_fr_rf)))))
  exact ⟨rfl, hm.fall (by omega) hd hkd hb1 hb9 ((congrFun es5 65).symm.trans ((pi_up_ne _ _ _ (by decide)).trans ((congrFun es4 65).symm.trans ((pi_up_ne _ _ _ (by decide)).trans ((congrFun es3 65).symm.trans ((pi_up_ne _ _ _ (by decide)).trans ((congrFun es2 65).symm.trans ((pi_up_ne _ _ _ (by decide)).trans ((congrFun es1 65).symm.trans ((pi_up_self _ _ _ _))))))))))) ((congrFun es5 66).symm.trans ((pi_up_ne _ _ _ (by decide)).trans ((congrFun es4 66).symm.trans ((pi_up_ne _ _ _ (by decide)).trans ((congrFun es3 66).symm.trans ((pi_up_ne _ _ _ (by decide)).trans ((congrFun es2 66).symm.trans ((pi_up_self _ _ _ _).trans (congrArg (fun z => upd z W.nf (nI dr)) ((congrFun es1 66).symm.trans ((pi_up_ne _ _ _ (by decide))))))))))))) ((congrFun es5 67).symm.trans ((pi_up_ne _ _ _ (by decide)).trans ((congrFun es4 67).symm.trans ((pi_up_ne _ _ _ (by decide)).trans ((congrFun es3 67).symm.trans ((pi_up_self _ _ _ _).trans (congrArg (fun z => upd z W.nf (nI kd)) ((congrFun es2 67).symm.trans ((pi_up_ne _ _ _ (by decide)).trans ((congrFun es1 67).symm.trans ((pi_up_ne _ _ _ (by decide))))))))))))) ((congrFun es5 68).symm.trans ((pi_up_ne _ _ _ (by decide)).trans ((congrFun es4 68).symm.trans ((pi_up_self _ _ _ _).trans (congrArg (fun z => upd z W.nf (nI b)) ((congrFun es3 68).symm.trans ((pi_up_ne _ _ _ (by decide)).trans ((congrFun es2 68).symm.trans ((pi_up_ne _ _ _ (by decide)).trans ((congrFun es1 68).symm.trans ((pi_up_ne _ _ _ (by decide))))))))))))) ((congrFun (congrFun es5 56) 11).symm.trans (pi_up_ss _ _ _ _)) (pi_fs_up es5 (by decide) (pi_fs_ne es4 (by decide) (pi_fs_ne es3 (by decide) (pi_fs_ne es2 (by decide) (pi_fs_ne es1 (by decide) (pi_fs_rf)))))) (pi_fr_tr hfr (by decide) pi_fr_rf), pi_fr_tr hfr (by decide) pi_fr_rf⟩
set_option maxRecDepth 20000 in
theorem pi_P_fall_full {xs : Nat → Int32} {L d : Nat} {W : zW} {σ : pi_S} (hm : z_MR W σ) {mi dr kd b : Nat} (hmi : mi < 60) (hd : dr < 8) (hkd : kd < 5) (hb1 : 1 ≤ b) (hb9 : b ≤ 9) (hn : W.nf = 20)  : pi_wp xs L (d + 9) 121 0 [some (.ref 56), some (.int (nI mi)), some (.int (nI dr)), some (.int (nI kd)), some (.int (nI b))] [] σ (fun v s => v = some (.int (-4)) ∧ z_MR W s ∧ pi_fr z_RC s σ) := by
  have hk := hm.wk
  have hnd8 := hk.wd.nd8
  have hns12 := hk.wd.ns12
  have hn60 := hk.nine
  have hnf := hk.nf
  have hnw := hk.nw
  have hnc := hk.nc
  have hn08 := hk.wd.n0
  have hn140 := hk.wd.n1
  refine pi_ca 2 (m' := 115) (l' := [some (.int (nI mi))]) (σ' := σ) (pc2 := 4) (l2 := [some (.ref 56), some (.int (nI mi)), some (.int (nI dr)), some (.int (nI kd)), some (.int (nI b))]) (t := []) (fun f => rfl) (pi_M_isMinuteT ⟨_, by omega, rfl⟩) ?_
  rintro _ _ ⟨rfl, rfl⟩
  refine pi_cf 1 (c := nI 1 = 0) (pc' := 7) (l' := [some (.ref 56), some (.int (nI mi)), some (.int (nI dr)), some (.int (nI kd)), some (.int (nI b))]) (st' := []) (σ' := σ) (pc2 := 34) (l2 := [some (.ref 56), some (.int (nI mi)), some (.int (nI dr)), some (.int (nI kd)), some (.int (nI b))]) (st2 := []) (σ2 := σ) (fun f => rfl) (by decide) ?_
  refine pi_ca 2 (m' := 116) (l' := [some (.int (nI dr))]) (σ' := σ) (pc2 := 11) (l2 := [some (.ref 56), some (.int (nI mi)), some (.int (nI dr)), some (.int (nI kd)), some (.int (nI b))]) (t := []) (fun f => rfl) (pi_M_isEightT ⟨_, by omega, rfl⟩) ?_
  rintro _ _ ⟨rfl, rfl⟩
  refine pi_cf 1 (c := nI 1 = 0) (pc' := 14) (l' := [some (.ref 56), some (.int (nI mi)), some (.int (nI dr)), some (.int (nI kd)), some (.int (nI b))]) (st' := []) (σ' := σ) (pc2 := 34) (l2 := [some (.ref 56), some (.int (nI mi)), some (.int (nI dr)), some (.int (nI kd)), some (.int (nI b))]) (st2 := []) (σ2 := σ) (fun f => rfl) (by decide) ?_
  refine pi_ca 4 (m' := 100) (l' := [some (.int (nI kd)), some (.int (nI 0)), some (.int (nI 4))]) (σ' := σ) (pc2 := 20) (l2 := [some (.ref 56), some (.int (nI mi)), some (.int (nI dr)), some (.int (nI kd)), some (.int (nI b))]) (t := []) (fun f => rfl) (pi_M_inT ((z_B_in (by omega)).mpr (⟨_, by omega, rfl⟩))) ?_
  rintro _ _ ⟨rfl, rfl⟩
  refine pi_cf 1 (c := nI 1 = 0) (pc' := 23) (l' := [some (.ref 56), some (.int (nI mi)), some (.int (nI dr)), some (.int (nI kd)), some (.int (nI b))]) (st' := []) (σ' := σ) (pc2 := 34) (l2 := [some (.ref 56), some (.int (nI mi)), some (.int (nI dr)), some (.int (nI kd)), some (.int (nI b))]) (st2 := []) (σ2 := σ) (fun f => rfl) (by decide) ?_
  refine pi_ca 4 (m' := 100) (l' := [some (.int (nI b)), some (.int (nI 1)), some (.int (nI 9))]) (σ' := σ) (pc2 := 31) (l2 := [some (.ref 56), some (.int (nI mi)), some (.int (nI dr)), some (.int (nI kd)), some (.int (nI b))]) (t := []) (fun f => rfl) (pi_M_inT ((z_P_in (by omega)).mpr (⟨_, by omega, by omega, rfl⟩))) ?_
  rintro _ _ ⟨rfl, rfl⟩
  refine pi_cf 1 (c := nI 1 = 0) (pc' := 37) (l' := [some (.ref 56), some (.int (nI mi)), some (.int (nI dr)), some (.int (nI kd)), some (.int (nI b))]) (st' := []) (σ' := σ) (pc2 := 34) (l2 := [some (.ref 56), some (.int (nI mi)), some (.int (nI dr)), some (.int (nI kd)), some (.int (nI b))]) (st2 := []) (σ2 := σ) (fun f => rfl) (by decide) ?_
  refine pi_go 2 (pc' := 41) (l' := [some (.ref 56), some (.int (nI mi)), some (.int (nI dr)), some (.int (nI kd)), some (.int (nI b))]) (st' := [.int (σ 56 11)]) (σ' := σ) (fun f => rfl) ?_
  refine pi_tp (y := nI W.nf) (hm.nf) ?_
  refine pi_ct 2 (c := nI W.nf = nI 20) (pc' := 46) (l' := [some (.ref 56), some (.int (nI mi)), some (.int (nI dr)), some (.int (nI kd)), some (.int (nI b))]) (st' := []) (σ' := σ) (pc2 := 49) (l2 := [some (.ref 56), some (.int (nI mi)), some (.int (nI dr)), some (.int (nI kd)), some (.int (nI b))]) (st2 := []) (σ2 := σ) (fun f => rfl) (congrArg nI hn) ?_
  refine pi_rt 2 (v := some (.int (-4))) (σ' := σ) (fun f => rfl) ?_
  exact ⟨rfl, hm, pi_fr_rf⟩
set_option maxRecDepth 20000 in
theorem pi_P_fall_bad {xs : Nat → Int32} {L d : Nat} {W : zW} {σ : pi_S} (hm : z_MR W σ) {a b c e : Int32} (hb : ¬ (z_B 60 a ∧ z_B 8 b ∧ z_B 5 c ∧ z_P 9 e))  : pi_wp xs L (d + 9) 121 0 [some (.ref 56), some (.int a), some (.int b), some (.int c), some (.int e)] [] σ (fun v s => v = some (.int (-2)) ∧ z_MR W s ∧ pi_fr z_RC s σ) := by
  have hk := hm.wk
  have hnd8 := hk.wd.nd8
  have hns12 := hk.wd.ns12
  have hn60 := hk.nine
  have hnf := hk.nf
  have hnw := hk.nw
  have hnc := hk.nc
  have hn08 := hk.wd.n0
  have hn140 := hk.wd.n1
  refine pi_ca 2 (m' := 115) (l' := [some (.int a)]) (σ' := σ) (pc2 := 4) (l2 := [some (.ref 56), some (.int a), some (.int b), some (.int c), some (.int e)]) (t := []) (fun f => rfl) (pi_M_isMinute a) ?_
  rintro _ _ (⟨b1, rfl, rfl⟩ | ⟨b1, rfl, rfl⟩)
  · refine pi_cf 1 (c := nI 1 = 0) (pc' := 7) (l' := [some (.ref 56), some (.int a), some (.int b), some (.int c), some (.int e)]) (st' := []) (σ' := σ) (pc2 := 34) (l2 := [some (.ref 56), some (.int a), some (.int b), some (.int c), some (.int e)]) (st2 := []) (σ2 := σ) (fun f => rfl) (by decide) ?_
    refine pi_ca 2 (m' := 116) (l' := [some (.int b)]) (σ' := σ) (pc2 := 11) (l2 := [some (.ref 56), some (.int a), some (.int b), some (.int c), some (.int e)]) (t := []) (fun f => rfl) (pi_M_isEight b) ?_
    rintro _ _ (⟨b2, rfl, rfl⟩ | ⟨b2, rfl, rfl⟩)
    · refine pi_cf 1 (c := nI 1 = 0) (pc' := 14) (l' := [some (.ref 56), some (.int a), some (.int b), some (.int c), some (.int e)]) (st' := []) (σ' := σ) (pc2 := 34) (l2 := [some (.ref 56), some (.int a), some (.int b), some (.int c), some (.int e)]) (st2 := []) (σ2 := σ) (fun f => rfl) (by decide) ?_
      refine pi_ca 4 (m' := 100) (l' := [some (.int c), some (.int (nI 0)), some (.int (nI 4))]) (σ' := σ) (pc2 := 20) (l2 := [some (.ref 56), some (.int a), some (.int b), some (.int c), some (.int e)]) (t := []) (fun f => rfl) (pi_M_inB (p := z_B 5 c) (z_B_in (by omega))) ?_
      rintro _ _ (⟨b3, rfl, rfl⟩ | ⟨b3, rfl, rfl⟩)
      · refine pi_cf 1 (c := nI 1 = 0) (pc' := 23) (l' := [some (.ref 56), some (.int a), some (.int b), some (.int c), some (.int e)]) (st' := []) (σ' := σ) (pc2 := 34) (l2 := [some (.ref 56), some (.int a), some (.int b), some (.int c), some (.int e)]) (st2 := []) (σ2 := σ) (fun f => rfl) (by decide) ?_
        refine pi_ca 4 (m' := 100) (l' := [some (.int e), some (.int (nI 1)), some (.int (nI 9))]) (σ' := σ) (pc2 := 31) (l2 := [some (.ref 56), some (.int a), some (.int b), some (.int c), some (.int e)]) (t := []) (fun f => rfl) (pi_M_inB (p := z_P 9 e) (z_P_in (by omega))) ?_
        rintro _ _ (⟨b4, rfl, rfl⟩ | ⟨b4, rfl, rfl⟩)
        · refine pi_cf 1 (c := nI 1 = 0) (pc' := 37) (l' := [some (.ref 56), some (.int a), some (.int b), some (.int c), some (.int e)]) (st' := []) (σ' := σ) (pc2 := 34) (l2 := [some (.ref 56), some (.int a), some (.int b), some (.int c), some (.int e)]) (st2 := []) (σ2 := σ) (fun f => rfl) (by decide) ?_
          exact (hb ⟨b1, b2, b3, b4⟩).elim
        · refine pi_ct 1 (c := nI 0 = 0) (pc' := 34) (l' := [some (.ref 56), some (.int a), some (.int b), some (.int c), some (.int e)]) (st' := []) (σ' := σ) (pc2 := 37) (l2 := [some (.ref 56), some (.int a), some (.int b), some (.int c), some (.int e)]) (st2 := []) (σ2 := σ) (fun f => rfl) (by decide) ?_
          refine pi_rt 2 (v := some (.int (-2))) (σ' := σ) (fun f => rfl) ?_
          exact ⟨rfl, hm, pi_fr_rf⟩
      · refine pi_ct 1 (c := nI 0 = 0) (pc' := 34) (l' := [some (.ref 56), some (.int a), some (.int b), some (.int c), some (.int e)]) (st' := []) (σ' := σ) (pc2 := 23) (l2 := [some (.ref 56), some (.int a), some (.int b), some (.int c), some (.int e)]) (st2 := []) (σ2 := σ) (fun f => rfl) (by decide) ?_
        refine pi_rt 2 (v := some (.int (-2))) (σ' := σ) (fun f => rfl) ?_
        exact ⟨rfl, hm, pi_fr_rf⟩
    · refine pi_ct 1 (c := nI 0 = 0) (pc' := 34) (l' := [some (.ref 56), some (.int a), some (.int b), some (.int c), some (.int e)]) (st' := []) (σ' := σ) (pc2 := 14) (l2 := [some (.ref 56), some (.int a), some (.int b), some (.int c), some (.int e)]) (st2 := []) (σ2 := σ) (fun f => rfl) (by decide) ?_
      refine pi_rt 2 (v := some (.int (-2))) (σ' := σ) (fun f => rfl) ?_
      exact ⟨rfl, hm, pi_fr_rf⟩
  · refine pi_ct 1 (c := nI 0 = 0) (pc' := 34) (l' := [some (.ref 56), some (.int a), some (.int b), some (.int c), some (.int e)]) (st' := []) (σ' := σ) (pc2 := 7) (l2 := [some (.ref 56), some (.int a), some (.int b), some (.int c), some (.int e)]) (st2 := []) (σ2 := σ) (fun f => rfl) (by decide) ?_
    refine pi_rt 2 (v := some (.int (-2))) (σ' := σ) (fun f => rfl) ?_
    exact ⟨rfl, hm, pi_fr_rf⟩
set_option maxRecDepth 20000 in
theorem pi_P_sweep {xs : Nat → Int32} {L d : Nat} {W : zW} {σ : pi_S} (hm : z_MR W σ) {mi p : Nat} (hmi : mi < 60) (hp : p < 12) (hn : W.nw < 24)  : pi_wp xs L (d + 9) 122 0 [some (.ref 56), some (.int (nI mi)), some (.int (nI p))] [] σ (fun v s => v = some (.int (nI (W.nw + 1))) ∧ z_MR (((W.sN 4 (W.nw + 1)).sI 6 (z_u W.sm W.nw (nI mi))).sF 2 (z_u W.ws W.nw p)) s ∧ pi_fr z_RC s σ) := by
  have hk := hm.wk
  have hnd8 := hk.wd.nd8
  have hns12 := hk.wd.ns12
  have hn60 := hk.nine
  have hnf := hk.nf
  have hnw := hk.nw
  have hnc := hk.nc
  have hn08 := hk.wd.n0
  have hn140 := hk.wd.n1
  refine pi_ca 2 (m' := 115) (l' := [some (.int (nI mi))]) (σ' := σ) (pc2 := 4) (l2 := [some (.ref 56), some (.int (nI mi)), some (.int (nI p))]) (t := []) (fun f => rfl) (pi_M_isMinuteT ⟨_, by omega, rfl⟩) ?_
  rintro _ _ ⟨rfl, rfl⟩
  refine pi_cf 1 (c := nI 1 = 0) (pc' := 7) (l' := [some (.ref 56), some (.int (nI mi)), some (.int (nI p))]) (st' := []) (σ' := σ) (pc2 := 17) (l2 := [some (.ref 56), some (.int (nI mi)), some (.int (nI p))]) (st2 := []) (σ2 := σ) (fun f => rfl) (by decide) ?_
  refine pi_ca 4 (m' := 100) (l' := [some (.int (nI p)), some (.int (nI 0)), some (.int (nI 11))]) (σ' := σ) (pc2 := 14) (l2 := [some (.ref 56), some (.int (nI mi)), some (.int (nI p))]) (t := []) (fun f => rfl) (pi_M_inT ((z_B_in (by omega)).mpr (⟨_, by omega, rfl⟩))) ?_
  rintro _ _ ⟨rfl, rfl⟩
  refine pi_cf 1 (c := nI 1 = 0) (pc' := 20) (l' := [some (.ref 56), some (.int (nI mi)), some (.int (nI p))]) (st' := []) (σ' := σ) (pc2 := 17) (l2 := [some (.ref 56), some (.int (nI mi)), some (.int (nI p))]) (st2 := []) (σ2 := σ) (fun f => rfl) (by decide) ?_
  refine pi_go 2 (pc' := 24) (l' := [some (.ref 56), some (.int (nI mi)), some (.int (nI p))]) (st' := [.int (σ 56 16)]) (σ' := σ) (fun f => rfl) ?_
  refine pi_tp (y := nI W.nw) (hm.nw) ?_
  refine pi_cf 2 (c := nI W.nw = nI 24) (pc' := 32) (l' := [some (.ref 56), some (.int (nI mi)), some (.int (nI p))]) (st' := []) (σ' := σ) (pc2 := 29) (l2 := [some (.ref 56), some (.int (nI mi)), some (.int (nI p))]) (st2 := []) (σ2 := σ) (fun f => rfl) (fun q => absurd ((nI_eq (by omega) (by omega)).mp q) (by omega)) ?_
  refine pi_go 4 (pc' := 40) (l' := [some (.ref 56), some (.int (nI mi)), some (.int (nI p))]) (st' := [.int (σ 56 16), .ref 69]) (σ' := σ) (fun f => rfl) ?_
  refine pi_tp (y := nI W.nw) (hm.nw) ?_
  refine pi_au 2 (u := W.nw) (n := 24) (a := 69) (x := nI mi) (pc' := 42) (l' := [some (.ref 56), some (.int (nI mi)), some (.int (nI p))]) (t := []) (σ' := σ) (fun f => rfl) (by omega) (by omega) ?_
  generalize es1 : pi_up σ 69 W.nw (nI mi) = s1
  refine pi_go 4 (pc' := 50) (l' := [some (.ref 56), some (.int (nI mi)), some (.int (nI p))]) (st' := [.int (s1 56 16), .ref 70]) (σ' := s1) (fun f => rfl) ?_
  refine pi_tp (y := nI W.nw) ((congrFun ((congrFun es1 56).symm.trans (pi_up_ne _ _ _ (by decide))) 16).trans (hm.nw)) ?_
  refine pi_au 2 (u := W.nw) (n := 24) (a := 70) (x := nI p) (pc' := 52) (l' := [some (.ref 56), some (.int (nI mi)), some (.int (nI p))]) (t := []) (σ' := s1) (fun f => rfl) (by omega) (by omega) ?_
  generalize es2 : pi_up s1 70 W.nw (nI p) = s2
  refine pi_go 3 (pc' := 57) (l' := [some (.ref 56), some (.int (nI mi)), some (.int (nI p))]) (st' := [.int (s2 56 16), .ref 56]) (σ' := s2) (fun f => rfl) ?_
  refine pi_tp (y := nI W.nw) ((congrFun ((congrFun es2 56).symm.trans (pi_up_ne _ _ _ (by decide))) 16).trans ((congrFun ((congrFun es1 56).symm.trans (pi_up_ne _ _ _ (by decide))) 16).trans (hm.nw))) ?_
  refine pi_go 2 (pc' := 59) (l' := [some (.ref 56), some (.int (nI mi)), some (.int (nI p))]) (st' := [.int (nI W.nw + nI 1), .ref 56]) (σ' := s2) (fun f => rfl) ?_
  refine pi_tp (y := nI (W.nw + 1)) (nI_add _ _) ?_
  refine pi_go 1 (pc' := 62) (l' := [some (.ref 56), some (.int (nI mi)), some (.int (nI p))]) (st' := []) (σ' := (pi_up s2 56 16 (nI (W.nw + 1)))) (fun f => rfl) ?_
  generalize es3 : pi_up s2 56 16 (nI (W.nw + 1)) = s3
  refine pi_go 2 (pc' := 66) (l' := [some (.ref 56), some (.int (nI mi)), some (.int (nI p))]) (st' := [.int (s3 56 16)]) (σ' := s3) (fun f => rfl) ?_
  refine pi_tp (y := nI (W.nw + 1)) ((congrFun (congrFun es3 56) 16).symm.trans (pi_up_ss _ _ _ _)) ?_
  refine pi_rt 1 (v := some (.int (nI (W.nw + 1)))) (σ' := s3) (fun f => rfl) ?_
  have hfr : pi_fr [56, 69, 70] s3 σ := pi_fr_of es3 (by decide) (pi_fr_of es2 (by decide) (pi_fr_of es1 (by decide) (pi_fr_rf)))
  exact ⟨rfl, hm.sweep hn hp ((congrFun es3 69).symm.trans ((pi_up_ne _ _ _ (by decide)).trans ((congrFun es2 69).symm.trans ((pi_up_ne _ _ _ (by decide)).trans ((congrFun es1 69).symm.trans ((pi_up_self _ _ _ _))))))) ((congrFun es3 70).symm.trans ((pi_up_ne _ _ _ (by decide)).trans ((congrFun es2 70).symm.trans ((pi_up_self _ _ _ _).trans (congrArg (fun z => upd z W.nw (nI p)) ((congrFun es1 70).symm.trans ((pi_up_ne _ _ _ (by decide))))))))) ((congrFun (congrFun es3 56) 16).symm.trans (pi_up_ss _ _ _ _)) (pi_fs_up es3 (by decide) (pi_fs_ne es2 (by decide) (pi_fs_ne es1 (by decide) (pi_fs_rf)))) hfr, pi_fr_tr hfr (by decide) pi_fr_rf⟩
set_option maxRecDepth 20000 in
theorem pi_P_sweep_full {xs : Nat → Int32} {L d : Nat} {W : zW} {σ : pi_S} (hm : z_MR W σ) {mi p : Nat} (hmi : mi < 60) (hp : p < 12) (hn : W.nw = 24)  : pi_wp xs L (d + 9) 122 0 [some (.ref 56), some (.int (nI mi)), some (.int (nI p))] [] σ (fun v s => v = some (.int (-4)) ∧ z_MR W s ∧ pi_fr z_RC s σ) := by
  have hk := hm.wk
  have hnd8 := hk.wd.nd8
  have hns12 := hk.wd.ns12
  have hn60 := hk.nine
  have hnf := hk.nf
  have hnw := hk.nw
  have hnc := hk.nc
  have hn08 := hk.wd.n0
  have hn140 := hk.wd.n1
  refine pi_ca 2 (m' := 115) (l' := [some (.int (nI mi))]) (σ' := σ) (pc2 := 4) (l2 := [some (.ref 56), some (.int (nI mi)), some (.int (nI p))]) (t := []) (fun f => rfl) (pi_M_isMinuteT ⟨_, by omega, rfl⟩) ?_
  rintro _ _ ⟨rfl, rfl⟩
  refine pi_cf 1 (c := nI 1 = 0) (pc' := 7) (l' := [some (.ref 56), some (.int (nI mi)), some (.int (nI p))]) (st' := []) (σ' := σ) (pc2 := 17) (l2 := [some (.ref 56), some (.int (nI mi)), some (.int (nI p))]) (st2 := []) (σ2 := σ) (fun f => rfl) (by decide) ?_
  refine pi_ca 4 (m' := 100) (l' := [some (.int (nI p)), some (.int (nI 0)), some (.int (nI 11))]) (σ' := σ) (pc2 := 14) (l2 := [some (.ref 56), some (.int (nI mi)), some (.int (nI p))]) (t := []) (fun f => rfl) (pi_M_inT ((z_B_in (by omega)).mpr (⟨_, by omega, rfl⟩))) ?_
  rintro _ _ ⟨rfl, rfl⟩
  refine pi_cf 1 (c := nI 1 = 0) (pc' := 20) (l' := [some (.ref 56), some (.int (nI mi)), some (.int (nI p))]) (st' := []) (σ' := σ) (pc2 := 17) (l2 := [some (.ref 56), some (.int (nI mi)), some (.int (nI p))]) (st2 := []) (σ2 := σ) (fun f => rfl) (by decide) ?_
  refine pi_go 2 (pc' := 24) (l' := [some (.ref 56), some (.int (nI mi)), some (.int (nI p))]) (st' := [.int (σ 56 16)]) (σ' := σ) (fun f => rfl) ?_
  refine pi_tp (y := nI W.nw) (hm.nw) ?_
  refine pi_ct 2 (c := nI W.nw = nI 24) (pc' := 29) (l' := [some (.ref 56), some (.int (nI mi)), some (.int (nI p))]) (st' := []) (σ' := σ) (pc2 := 32) (l2 := [some (.ref 56), some (.int (nI mi)), some (.int (nI p))]) (st2 := []) (σ2 := σ) (fun f => rfl) (congrArg nI hn) ?_
  refine pi_rt 2 (v := some (.int (-4))) (σ' := σ) (fun f => rfl) ?_
  exact ⟨rfl, hm, pi_fr_rf⟩
set_option maxRecDepth 20000 in
theorem pi_P_sweep_bad {xs : Nat → Int32} {L d : Nat} {W : zW} {σ : pi_S} (hm : z_MR W σ) {a b : Int32} (hb : ¬ (z_B 60 a ∧ z_B 12 b))  : pi_wp xs L (d + 9) 122 0 [some (.ref 56), some (.int a), some (.int b)] [] σ (fun v s => v = some (.int (-2)) ∧ z_MR W s ∧ pi_fr z_RC s σ) := by
  have hk := hm.wk
  have hnd8 := hk.wd.nd8
  have hns12 := hk.wd.ns12
  have hn60 := hk.nine
  have hnf := hk.nf
  have hnw := hk.nw
  have hnc := hk.nc
  have hn08 := hk.wd.n0
  have hn140 := hk.wd.n1
  refine pi_ca 2 (m' := 115) (l' := [some (.int a)]) (σ' := σ) (pc2 := 4) (l2 := [some (.ref 56), some (.int a), some (.int b)]) (t := []) (fun f => rfl) (pi_M_isMinute a) ?_
  rintro _ _ (⟨b1, rfl, rfl⟩ | ⟨b1, rfl, rfl⟩)
  · refine pi_cf 1 (c := nI 1 = 0) (pc' := 7) (l' := [some (.ref 56), some (.int a), some (.int b)]) (st' := []) (σ' := σ) (pc2 := 17) (l2 := [some (.ref 56), some (.int a), some (.int b)]) (st2 := []) (σ2 := σ) (fun f => rfl) (by decide) ?_
    refine pi_ca 4 (m' := 100) (l' := [some (.int b), some (.int (nI 0)), some (.int (nI 11))]) (σ' := σ) (pc2 := 14) (l2 := [some (.ref 56), some (.int a), some (.int b)]) (t := []) (fun f => rfl) (pi_M_inB (p := z_B 12 b) (z_B_in (by omega))) ?_
    rintro _ _ (⟨b2, rfl, rfl⟩ | ⟨b2, rfl, rfl⟩)
    · refine pi_cf 1 (c := nI 1 = 0) (pc' := 20) (l' := [some (.ref 56), some (.int a), some (.int b)]) (st' := []) (σ' := σ) (pc2 := 17) (l2 := [some (.ref 56), some (.int a), some (.int b)]) (st2 := []) (σ2 := σ) (fun f => rfl) (by decide) ?_
      exact (hb ⟨b1, b2⟩).elim
    · refine pi_ct 1 (c := nI 0 = 0) (pc' := 17) (l' := [some (.ref 56), some (.int a), some (.int b)]) (st' := []) (σ' := σ) (pc2 := 20) (l2 := [some (.ref 56), some (.int a), some (.int b)]) (st2 := []) (σ2 := σ) (fun f => rfl) (by decide) ?_
      refine pi_rt 2 (v := some (.int (-2))) (σ' := σ) (fun f => rfl) ?_
      exact ⟨rfl, hm, pi_fr_rf⟩
  · refine pi_ct 1 (c := nI 0 = 0) (pc' := 17) (l' := [some (.ref 56), some (.int a), some (.int b)]) (st' := []) (σ' := σ) (pc2 := 7) (l2 := [some (.ref 56), some (.int a), some (.int b)]) (st2 := []) (σ2 := σ) (fun f => rfl) (by decide) ?_
    refine pi_rt 2 (v := some (.int (-2))) (σ' := σ) (fun f => rfl) ?_
    exact ⟨rfl, hm, pi_fr_rf⟩
set_option maxRecDepth 20000 in
theorem pi_P_cart {xs : Nat → Int32} {L d : Nat} {W : zW} {σ : pi_S} (hm : z_MR W σ) {mi p : Nat} (hmi : mi < 60) (hp : p < 8) (hn : W.nc < 8)  : pi_wp xs L (d + 9) 123 0 [some (.ref 56), some (.int (nI mi)), some (.int (nI p))] [] σ (fun v s => v = some (.int (nI (W.nc + 1))) ∧ z_MR (((W.sN 5 (W.nc + 1)).sI 7 (z_u W.cm W.nc (nI mi))).sF 3 (z_u W.cd W.nc p)) s ∧ pi_fr z_RC s σ) := by
  have hk := hm.wk
  have hnd8 := hk.wd.nd8
  have hns12 := hk.wd.ns12
  have hn60 := hk.nine
  have hnf := hk.nf
  have hnw := hk.nw
  have hnc := hk.nc
  have hn08 := hk.wd.n0
  have hn140 := hk.wd.n1
  refine pi_ca 2 (m' := 115) (l' := [some (.int (nI mi))]) (σ' := σ) (pc2 := 4) (l2 := [some (.ref 56), some (.int (nI mi)), some (.int (nI p))]) (t := []) (fun f => rfl) (pi_M_isMinuteT ⟨_, by omega, rfl⟩) ?_
  rintro _ _ ⟨rfl, rfl⟩
  refine pi_cf 1 (c := nI 1 = 0) (pc' := 7) (l' := [some (.ref 56), some (.int (nI mi)), some (.int (nI p))]) (st' := []) (σ' := σ) (pc2 := 14) (l2 := [some (.ref 56), some (.int (nI mi)), some (.int (nI p))]) (st2 := []) (σ2 := σ) (fun f => rfl) (by decide) ?_
  refine pi_ca 2 (m' := 116) (l' := [some (.int (nI p))]) (σ' := σ) (pc2 := 11) (l2 := [some (.ref 56), some (.int (nI mi)), some (.int (nI p))]) (t := []) (fun f => rfl) (pi_M_isEightT ⟨_, by omega, rfl⟩) ?_
  rintro _ _ ⟨rfl, rfl⟩
  refine pi_cf 1 (c := nI 1 = 0) (pc' := 17) (l' := [some (.ref 56), some (.int (nI mi)), some (.int (nI p))]) (st' := []) (σ' := σ) (pc2 := 14) (l2 := [some (.ref 56), some (.int (nI mi)), some (.int (nI p))]) (st2 := []) (σ2 := σ) (fun f => rfl) (by decide) ?_
  refine pi_go 2 (pc' := 21) (l' := [some (.ref 56), some (.int (nI mi)), some (.int (nI p))]) (st' := [.int (σ 56 19)]) (σ' := σ) (fun f => rfl) ?_
  refine pi_tp (y := nI W.nc) (hm.nc) ?_
  refine pi_cf 2 (c := nI W.nc = nI 8) (pc' := 29) (l' := [some (.ref 56), some (.int (nI mi)), some (.int (nI p))]) (st' := []) (σ' := σ) (pc2 := 26) (l2 := [some (.ref 56), some (.int (nI mi)), some (.int (nI p))]) (st2 := []) (σ2 := σ) (fun f => rfl) (fun q => absurd ((nI_eq (by omega) (by omega)).mp q) (by omega)) ?_
  refine pi_go 4 (pc' := 37) (l' := [some (.ref 56), some (.int (nI mi)), some (.int (nI p))]) (st' := [.int (σ 56 19), .ref 71]) (σ' := σ) (fun f => rfl) ?_
  refine pi_tp (y := nI W.nc) (hm.nc) ?_
  refine pi_au 2 (u := W.nc) (n := 8) (a := 71) (x := nI mi) (pc' := 39) (l' := [some (.ref 56), some (.int (nI mi)), some (.int (nI p))]) (t := []) (σ' := σ) (fun f => rfl) (by omega) (by omega) ?_
  generalize es1 : pi_up σ 71 W.nc (nI mi) = s1
  refine pi_go 4 (pc' := 47) (l' := [some (.ref 56), some (.int (nI mi)), some (.int (nI p))]) (st' := [.int (s1 56 19), .ref 72]) (σ' := s1) (fun f => rfl) ?_
  refine pi_tp (y := nI W.nc) ((congrFun ((congrFun es1 56).symm.trans (pi_up_ne _ _ _ (by decide))) 19).trans (hm.nc)) ?_
  refine pi_au 2 (u := W.nc) (n := 8) (a := 72) (x := nI p) (pc' := 49) (l' := [some (.ref 56), some (.int (nI mi)), some (.int (nI p))]) (t := []) (σ' := s1) (fun f => rfl) (by omega) (by omega) ?_
  generalize es2 : pi_up s1 72 W.nc (nI p) = s2
  refine pi_go 3 (pc' := 54) (l' := [some (.ref 56), some (.int (nI mi)), some (.int (nI p))]) (st' := [.int (s2 56 19), .ref 56]) (σ' := s2) (fun f => rfl) ?_
  refine pi_tp (y := nI W.nc) ((congrFun ((congrFun es2 56).symm.trans (pi_up_ne _ _ _ (by decide))) 19).trans ((congrFun ((congrFun es1 56).symm.trans (pi_up_ne _ _ _ (by decide))) 19).trans (hm.nc))) ?_
  refine pi_go 2 (pc' := 56) (l' := [some (.ref 56), some (.int (nI mi)), some (.int (nI p))]) (st' := [.int (nI W.nc + nI 1), .ref 56]) (σ' := s2) (fun f => rfl) ?_
  refine pi_tp (y := nI (W.nc + 1)) (nI_add _ _) ?_
  refine pi_go 1 (pc' := 59) (l' := [some (.ref 56), some (.int (nI mi)), some (.int (nI p))]) (st' := []) (σ' := (pi_up s2 56 19 (nI (W.nc + 1)))) (fun f => rfl) ?_
  generalize es3 : pi_up s2 56 19 (nI (W.nc + 1)) = s3
  refine pi_go 2 (pc' := 63) (l' := [some (.ref 56), some (.int (nI mi)), some (.int (nI p))]) (st' := [.int (s3 56 19)]) (σ' := s3) (fun f => rfl) ?_
  refine pi_tp (y := nI (W.nc + 1)) ((congrFun (congrFun es3 56) 19).symm.trans (pi_up_ss _ _ _ _)) ?_
  refine pi_rt 1 (v := some (.int (nI (W.nc + 1)))) (σ' := s3) (fun f => rfl) ?_
  have hfr : pi_fr [56, 71, 72] s3 σ := pi_fr_of es3 (by decide) (pi_fr_of es2 (by decide) (pi_fr_of es1 (by decide) (pi_fr_rf)))
  exact ⟨rfl, hm.cart hn hp ((congrFun es3 71).symm.trans ((pi_up_ne _ _ _ (by decide)).trans ((congrFun es2 71).symm.trans ((pi_up_ne _ _ _ (by decide)).trans ((congrFun es1 71).symm.trans ((pi_up_self _ _ _ _))))))) ((congrFun es3 72).symm.trans ((pi_up_ne _ _ _ (by decide)).trans ((congrFun es2 72).symm.trans ((pi_up_self _ _ _ _).trans (congrArg (fun z => upd z W.nc (nI p)) ((congrFun es1 72).symm.trans ((pi_up_ne _ _ _ (by decide))))))))) ((congrFun (congrFun es3 56) 19).symm.trans (pi_up_ss _ _ _ _)) (pi_fs_up es3 (by decide) (pi_fs_ne es2 (by decide) (pi_fs_ne es1 (by decide) (pi_fs_rf)))) hfr, pi_fr_tr hfr (by decide) pi_fr_rf⟩
set_option maxRecDepth 20000 in
theorem pi_P_cart_full {xs : Nat → Int32} {L d : Nat} {W : zW} {σ : pi_S} (hm : z_MR W σ) {mi p : Nat} (hmi : mi < 60) (hp : p < 8) (hn : W.nc = 8)  : pi_wp xs L (d + 9) 123 0 [some (.ref 56), some (.int (nI mi)), some (.int (nI p))] [] σ (fun v s => v = some (.int (-4)) ∧ z_MR W s ∧ pi_fr z_RC s σ) := by
  have hk := hm.wk
  have hnd8 := hk.wd.nd8
  have hns12 := hk.wd.ns12
  have hn60 := hk.nine
  have hnf := hk.nf
  have hnw := hk.nw
  have hnc := hk.nc
  have hn08 := hk.wd.n0
  have hn140 := hk.wd.n1
  refine pi_ca 2 (m' := 115) (l' := [some (.int (nI mi))]) (σ' := σ) (pc2 := 4) (l2 := [some (.ref 56), some (.int (nI mi)), some (.int (nI p))]) (t := []) (fun f => rfl) (pi_M_isMinuteT ⟨_, by omega, rfl⟩) ?_
  rintro _ _ ⟨rfl, rfl⟩
  refine pi_cf 1 (c := nI 1 = 0) (pc' := 7) (l' := [some (.ref 56), some (.int (nI mi)), some (.int (nI p))]) (st' := []) (σ' := σ) (pc2 := 14) (l2 := [some (.ref 56), some (.int (nI mi)), some (.int (nI p))]) (st2 := []) (σ2 := σ) (fun f => rfl) (by decide) ?_
  refine pi_ca 2 (m' := 116) (l' := [some (.int (nI p))]) (σ' := σ) (pc2 := 11) (l2 := [some (.ref 56), some (.int (nI mi)), some (.int (nI p))]) (t := []) (fun f => rfl) (pi_M_isEightT ⟨_, by omega, rfl⟩) ?_
  rintro _ _ ⟨rfl, rfl⟩
  refine pi_cf 1 (c := nI 1 = 0) (pc' := 17) (l' := [some (.ref 56), some (.int (nI mi)), some (.int (nI p))]) (st' := []) (σ' := σ) (pc2 := 14) (l2 := [some (.ref 56), some (.int (nI mi)), some (.int (nI p))]) (st2 := []) (σ2 := σ) (fun f => rfl) (by decide) ?_
  refine pi_go 2 (pc' := 21) (l' := [some (.ref 56), some (.int (nI mi)), some (.int (nI p))]) (st' := [.int (σ 56 19)]) (σ' := σ) (fun f => rfl) ?_
  refine pi_tp (y := nI W.nc) (hm.nc) ?_
  refine pi_ct 2 (c := nI W.nc = nI 8) (pc' := 26) (l' := [some (.ref 56), some (.int (nI mi)), some (.int (nI p))]) (st' := []) (σ' := σ) (pc2 := 29) (l2 := [some (.ref 56), some (.int (nI mi)), some (.int (nI p))]) (st2 := []) (σ2 := σ) (fun f => rfl) (congrArg nI hn) ?_
  refine pi_rt 2 (v := some (.int (-4))) (σ' := σ) (fun f => rfl) ?_
  exact ⟨rfl, hm, pi_fr_rf⟩
set_option maxRecDepth 20000 in
theorem pi_P_cart_bad {xs : Nat → Int32} {L d : Nat} {W : zW} {σ : pi_S} (hm : z_MR W σ) {a b : Int32} (hb : ¬ (z_B 60 a ∧ z_B 8 b))  : pi_wp xs L (d + 9) 123 0 [some (.ref 56), some (.int a), some (.int b)] [] σ (fun v s => v = some (.int (-2)) ∧ z_MR W s ∧ pi_fr z_RC s σ) := by
  have hk := hm.wk
  have hnd8 := hk.wd.nd8
  have hns12 := hk.wd.ns12
  have hn60 := hk.nine
  have hnf := hk.nf
  have hnw := hk.nw
  have hnc := hk.nc
  have hn08 := hk.wd.n0
  have hn140 := hk.wd.n1
  refine pi_ca 2 (m' := 115) (l' := [some (.int a)]) (σ' := σ) (pc2 := 4) (l2 := [some (.ref 56), some (.int a), some (.int b)]) (t := []) (fun f => rfl) (pi_M_isMinute a) ?_
  rintro _ _ (⟨b1, rfl, rfl⟩ | ⟨b1, rfl, rfl⟩)
  · refine pi_cf 1 (c := nI 1 = 0) (pc' := 7) (l' := [some (.ref 56), some (.int a), some (.int b)]) (st' := []) (σ' := σ) (pc2 := 14) (l2 := [some (.ref 56), some (.int a), some (.int b)]) (st2 := []) (σ2 := σ) (fun f => rfl) (by decide) ?_
    refine pi_ca 2 (m' := 116) (l' := [some (.int b)]) (σ' := σ) (pc2 := 11) (l2 := [some (.ref 56), some (.int a), some (.int b)]) (t := []) (fun f => rfl) (pi_M_isEight b) ?_
    rintro _ _ (⟨b2, rfl, rfl⟩ | ⟨b2, rfl, rfl⟩)
    · refine pi_cf 1 (c := nI 1 = 0) (pc' := 17) (l' := [some (.ref 56), some (.int a), some (.int b)]) (st' := []) (σ' := σ) (pc2 := 14) (l2 := [some (.ref 56), some (.int a), some (.int b)]) (st2 := []) (σ2 := σ) (fun f => rfl) (by decide) ?_
      exact (hb ⟨b1, b2⟩).elim
    · refine pi_ct 1 (c := nI 0 = 0) (pc' := 14) (l' := [some (.ref 56), some (.int a), some (.int b)]) (st' := []) (σ' := σ) (pc2 := 17) (l2 := [some (.ref 56), some (.int a), some (.int b)]) (st2 := []) (σ2 := σ) (fun f => rfl) (by decide) ?_
      refine pi_rt 2 (v := some (.int (-2))) (σ' := σ) (fun f => rfl) ?_
      exact ⟨rfl, hm, pi_fr_rf⟩
  · refine pi_ct 1 (c := nI 0 = 0) (pc' := 14) (l' := [some (.ref 56), some (.int a), some (.int b)]) (st' := []) (σ' := σ) (pc2 := 7) (l2 := [some (.ref 56), some (.int a), some (.int b)]) (st2 := []) (σ2 := σ) (fun f => rfl) (by decide) ?_
    refine pi_rt 2 (v := some (.int (-2))) (σ' := σ) (fun f => rfl) ?_
    exact ⟨rfl, hm, pi_fr_rf⟩
set_option maxRecDepth 20000 in
theorem pi_P_rain {xs : Nat → Int32} {L d : Nat} {W : zW} {σ : pi_S} (hm : z_MR W σ) {mi b : Nat} (hmi : mi < 60) (hb : b < 2)  : pi_wp xs L (d + 9) 124 0 [some (.ref 56), some (.int (nI mi)), some (.int (nI b)), none] [] σ (fun v s => v = some (.int (W.rn mi)) ∧ z_MR (W.sI 8 (upd W.rn mi (nI b))) s ∧ pi_fr z_RC s σ) := by
  have hk := hm.wk
  have hnd8 := hk.wd.nd8
  have hns12 := hk.wd.ns12
  have hn60 := hk.nine
  have hnf := hk.nf
  have hnw := hk.nw
  have hnc := hk.nc
  have hn08 := hk.wd.n0
  have hn140 := hk.wd.n1
  refine pi_ca 2 (m' := 115) (l' := [some (.int (nI mi))]) (σ' := σ) (pc2 := 4) (l2 := [some (.ref 56), some (.int (nI mi)), some (.int (nI b)), none]) (t := []) (fun f => rfl) (pi_M_isMinuteT ⟨_, by omega, rfl⟩) ?_
  rintro _ _ ⟨rfl, rfl⟩
  refine pi_cf 1 (c := nI 1 = 0) (pc' := 7) (l' := [some (.ref 56), some (.int (nI mi)), some (.int (nI b)), none]) (st' := []) (σ' := σ) (pc2 := 16) (l2 := [some (.ref 56), some (.int (nI mi)), some (.int (nI b)), none]) (st2 := []) (σ2 := σ) (fun f => rfl) (by decide) ?_
  refine pi_ca 4 (m' := 100) (l' := [some (.int (nI b)), some (.int (nI 0)), some (.int (nI 1))]) (σ' := σ) (pc2 := 13) (l2 := [some (.ref 56), some (.int (nI mi)), some (.int (nI b)), none]) (t := []) (fun f => rfl) (pi_M_inT ((z_B_in (by omega)).mpr (⟨_, by omega, rfl⟩))) ?_
  rintro _ _ ⟨rfl, rfl⟩
  refine pi_cf 1 (c := nI 1 = 0) (pc' := 19) (l' := [some (.ref 56), some (.int (nI mi)), some (.int (nI b)), none]) (st' := []) (σ' := σ) (pc2 := 16) (l2 := [some (.ref 56), some (.int (nI mi)), some (.int (nI b)), none]) (st2 := []) (σ2 := σ) (fun f => rfl) (by decide) ?_
  refine pi_ai 4 (u := mi) (n := 60) (g := σ 73) (pc' := 25) (l' := [some (.ref 56), some (.int (nI mi)), some (.int (nI b)), none]) (t := []) (σ' := σ) (fun f => rfl) (by omega) (by omega) ?_
  refine pi_tp (y := W.rn mi) (congrFun (hm.rn) mi) ?_
  refine pi_au 6 (u := mi) (n := 60) (a := 73) (x := nI b) (pc' := 33) (l' := [some (.ref 56), some (.int (nI mi)), some (.int (nI b)), some (.int (W.rn mi))]) (t := []) (σ' := σ) (fun f => rfl) (by omega) (by omega) ?_
  generalize es1 : pi_up σ 73 mi (nI b) = s1
  refine pi_rt 2 (v := some (.int (W.rn mi))) (σ' := s1) (fun f => rfl) ?_
  have hfr : pi_fr [73] s1 σ := pi_fr_of es1 (by decide) (pi_fr_rf)
  exact ⟨rfl, hm.rain ((congrFun es1 73).symm.trans ((pi_up_self _ _ _ _).trans (congrArg (fun z => upd z _ _) (rfl)))) (pi_fs_ne es1 (by decide) (pi_fs_rf)) hfr, pi_fr_tr hfr (by decide) pi_fr_rf⟩
set_option maxRecDepth 20000 in
theorem pi_P_rain_bad {xs : Nat → Int32} {L d : Nat} {W : zW} {σ : pi_S} (hm : z_MR W σ) {a b : Int32} (hb : ¬ (z_B 60 a ∧ z_B 2 b))  : pi_wp xs L (d + 9) 124 0 [some (.ref 56), some (.int a), some (.int b), none] [] σ (fun v s => v = some (.int (-2)) ∧ z_MR W s ∧ pi_fr z_RC s σ) := by
  have hk := hm.wk
  have hnd8 := hk.wd.nd8
  have hns12 := hk.wd.ns12
  have hn60 := hk.nine
  have hnf := hk.nf
  have hnw := hk.nw
  have hnc := hk.nc
  have hn08 := hk.wd.n0
  have hn140 := hk.wd.n1
  refine pi_ca 2 (m' := 115) (l' := [some (.int a)]) (σ' := σ) (pc2 := 4) (l2 := [some (.ref 56), some (.int a), some (.int b), none]) (t := []) (fun f => rfl) (pi_M_isMinute a) ?_
  rintro _ _ (⟨b1, rfl, rfl⟩ | ⟨b1, rfl, rfl⟩)
  · refine pi_cf 1 (c := nI 1 = 0) (pc' := 7) (l' := [some (.ref 56), some (.int a), some (.int b), none]) (st' := []) (σ' := σ) (pc2 := 16) (l2 := [some (.ref 56), some (.int a), some (.int b), none]) (st2 := []) (σ2 := σ) (fun f => rfl) (by decide) ?_
    refine pi_ca 4 (m' := 100) (l' := [some (.int b), some (.int (nI 0)), some (.int (nI 1))]) (σ' := σ) (pc2 := 13) (l2 := [some (.ref 56), some (.int a), some (.int b), none]) (t := []) (fun f => rfl) (pi_M_inB (p := z_B 2 b) (z_B_in (by omega))) ?_
    rintro _ _ (⟨b2, rfl, rfl⟩ | ⟨b2, rfl, rfl⟩)
    · refine pi_cf 1 (c := nI 1 = 0) (pc' := 19) (l' := [some (.ref 56), some (.int a), some (.int b), none]) (st' := []) (σ' := σ) (pc2 := 16) (l2 := [some (.ref 56), some (.int a), some (.int b), none]) (st2 := []) (σ2 := σ) (fun f => rfl) (by decide) ?_
      exact (hb ⟨b1, b2⟩).elim
    · refine pi_ct 1 (c := nI 0 = 0) (pc' := 16) (l' := [some (.ref 56), some (.int a), some (.int b), none]) (st' := []) (σ' := σ) (pc2 := 19) (l2 := [some (.ref 56), some (.int a), some (.int b), none]) (st2 := []) (σ2 := σ) (fun f => rfl) (by decide) ?_
      refine pi_rt 2 (v := some (.int (-2))) (σ' := σ) (fun f => rfl) ?_
      exact ⟨rfl, hm, pi_fr_rf⟩
  · refine pi_ct 1 (c := nI 0 = 0) (pc' := 16) (l' := [some (.ref 56), some (.int a), some (.int b), none]) (st' := []) (σ' := σ) (pc2 := 7) (l2 := [some (.ref 56), some (.int a), some (.int b), none]) (st2 := []) (σ2 := σ) (fun f => rfl) (by decide) ?_
    refine pi_rt 2 (v := some (.int (-2))) (σ' := σ) (fun f => rfl) ?_
    exact ⟨rfl, hm, pi_fr_rf⟩
theorem z_sub0 (a : Int32) : a - nI 0 = a := Int32.sub_zero a
theorem z_sub1 {n : Nat} (h : ¬ n = 0) : nI n - nI 1 = nI (n - 1) := by
  obtain ⟨m, rfl⟩ : ∃ m, n = m + 1 := ⟨n - 1, by omega⟩
  exact nI_pred m
theorem z_fs3 {s σ : pi_S} {a b : Nat} {K : List Nat} {c : Nat} (h : pi_fs 56 K s σ) (h1 : s 56 a = σ 56 a) (h2 : s 56 b = σ 56 b) (hc : ∀ k, k ∈ K → k = a ∨ k = b ∨ k = c := by decide) : pi_fs 56 [c] s σ := fun k hk => by
  by_cases q : k ∈ K
  · rcases hc k q with rfl | rfl | rfl
    · exact h1
    · exact h2
    · exact absurd (List.mem_singleton.mpr rfl) hk
  · exact h k q
set_option maxRecDepth 20000 in
theorem pi_P_undo0 {xs : Nat → Int32} {L d : Nat} {W : zW} {σ : pi_S} (hm : z_MR W σ) (hn : ¬ W.nf = 0)  : pi_wp xs L (d + 9) 125 0 [some (.ref 56), some (.int (nI 0)), none] [] σ (fun v s => v = some (.int (nI (W.nf - 1))) ∧ z_MR (W.sN 3 (W.nf - 1)) s ∧ pi_fr z_RC s σ) := by
  have hk := hm.wk
  have hnd8 := hk.wd.nd8
  have hns12 := hk.wd.ns12
  have hn60 := hk.nine
  have hnf := hk.nf
  have hnw := hk.nw
  have hnc := hk.nc
  have hn08 := hk.wd.n0
  have hn140 := hk.wd.n1
  refine pi_ca 4 (m' := 100) (l' := [some (.int (nI 0)), some (.int (nI 0)), some (.int (nI 2))]) (σ' := σ) (pc2 := 6) (l2 := [some (.ref 56), some (.int (nI 0)), none]) (t := []) (fun f => rfl) (pi_M_inT ((z_B_in (by omega)).mpr (⟨_, by omega, rfl⟩))) ?_
  rintro _ _ ⟨rfl, rfl⟩
  refine pi_cf 1 (c := nI 1 = 0) (pc' := 12) (l' := [some (.ref 56), some (.int (nI 0)), none]) (st' := []) (σ' := σ) (pc2 := 9) (l2 := [some (.ref 56), some (.int (nI 0)), none]) (st2 := []) (σ2 := σ) (fun f => rfl) (by decide) ?_
  refine pi_ct 2 (c := nI 0 = 0) (pc' := 16) (l' := [some (.ref 56), some (.int (nI 0)), none]) (st' := []) (σ' := σ) (pc2 := 23) (l2 := [some (.ref 56), some (.int (nI 0)), none]) (st2 := []) (σ2 := σ) (fun f => rfl) (by decide) ?_
  refine pi_go 2 (pc' := 20) (l' := [some (.ref 56), some (.int (nI 0)), none]) (st' := [.int (σ 56 11)]) (σ' := σ) (fun f => rfl) ?_
  refine pi_tp (y := nI W.nf) (hm.nf) ?_
  refine pi_cf 4 (c := nI W.nf = 0) (pc' := 47) (l' := [some (.ref 56), some (.int (nI 0)), some (.int (nI W.nf))]) (st' := []) (σ' := σ) (pc2 := 44) (l2 := [some (.ref 56), some (.int (nI 0)), some (.int (nI W.nf))]) (st2 := []) (σ2 := σ) (fun f => rfl) (fun q => hn ((nI_eq (by omega) (by omega)).mp q)) ?_
  refine pi_go 3 (pc' := 52) (l' := [some (.ref 56), some (.int (nI 0)), some (.int (nI W.nf))]) (st' := [.int (σ 56 11), .ref 56]) (σ' := σ) (fun f => rfl) ?_
  refine pi_tp (y := nI W.nf) (hm.nf) ?_
  refine pi_ct 2 (c := nI 0 = 0) (pc' := 56) (l' := [some (.ref 56), some (.int (nI 0)), some (.int (nI W.nf))]) (st' := [.int (nI W.nf), .ref 56]) (σ' := σ) (pc2 := 60) (l2 := [some (.ref 56), some (.int (nI 0)), some (.int (nI W.nf))]) (st2 := [.int (nI W.nf), .ref 56]) (σ2 := σ) (fun f => rfl) (by decide) ?_
  refine pi_go 4 (pc' := 65) (l' := [some (.ref 56), some (.int (nI 0)), some (.int (nI W.nf))]) (st' := []) (σ' := (pi_up σ 56 11 ((nI W.nf) - (nI 1)))) (fun f => rfl) ?_
  generalize es1 : pi_up σ 56 11 ((nI W.nf) - (nI 1)) = s1
  refine pi_go 3 (pc' := 70) (l' := [some (.ref 56), some (.int (nI 0)), some (.int (nI W.nf))]) (st' := [.int (s1 56 16), .ref 56]) (σ' := s1) (fun f => rfl) ?_
  refine pi_tp (y := nI W.nw) ((congrFun (congrFun es1 56) 16).symm.trans ((pi_up_sn _ _ _ (by decide)).trans (hm.nw))) ?_
  refine pi_cf 3 (c := nI 0 = nI 1) (pc' := 79) (l' := [some (.ref 56), some (.int (nI 0)), some (.int (nI W.nf))]) (st' := [.int (nI W.nw), .ref 56]) (σ' := s1) (pc2 := 75) (l2 := [some (.ref 56), some (.int (nI 0)), some (.int (nI W.nf))]) (st2 := [.int (nI W.nw), .ref 56]) (σ2 := s1) (fun f => rfl) (by decide) ?_
  refine pi_go 3 (pc' := 84) (l' := [some (.ref 56), some (.int (nI 0)), some (.int (nI W.nf))]) (st' := []) (σ' := (pi_up s1 56 16 ((nI W.nw) - (nI 0)))) (fun f => rfl) ?_
  generalize es2 : pi_up s1 56 16 ((nI W.nw) - (nI 0)) = s2
  refine pi_go 3 (pc' := 89) (l' := [some (.ref 56), some (.int (nI 0)), some (.int (nI W.nf))]) (st' := [.int (s2 56 19), .ref 56]) (σ' := s2) (fun f => rfl) ?_
  refine pi_tp (y := nI W.nc) ((congrFun (congrFun es2 56) 19).symm.trans ((pi_up_sn _ _ _ (by decide)).trans ((congrFun (congrFun es1 56) 19).symm.trans ((pi_up_sn _ _ _ (by decide)).trans (hm.nc))))) ?_
  refine pi_cf 3 (c := nI 0 = nI 2) (pc' := 98) (l' := [some (.ref 56), some (.int (nI 0)), some (.int (nI W.nf))]) (st' := [.int (nI W.nc), .ref 56]) (σ' := s2) (pc2 := 94) (l2 := [some (.ref 56), some (.int (nI 0)), some (.int (nI W.nf))]) (st2 := [.int (nI W.nc), .ref 56]) (σ2 := s2) (fun f => rfl) (by decide) ?_
  refine pi_go 3 (pc' := 103) (l' := [some (.ref 56), some (.int (nI 0)), some (.int (nI W.nf))]) (st' := []) (σ' := (pi_up s2 56 19 ((nI W.nc) - (nI 0)))) (fun f => rfl) ?_
  generalize es3 : pi_up s2 56 19 ((nI W.nc) - (nI 0)) = s3
  refine pi_rt 4 (v := some (.int ((nI W.nf) - (nI 1)))) (σ' := s3) (fun f => rfl) ?_
  have hfr : pi_fr [56] s3 σ := pi_fr_of es3 (by decide) (pi_fr_of es2 (by decide) (pi_fr_of es1 (by decide) (pi_fr_rf)))
  have hfs0 : pi_fs 56 [11, 16, 19] s3 σ := pi_fs_up es3 (by decide) (pi_fs_up es2 (by decide) (pi_fs_up es1 (by decide) (pi_fs_rf)))
  have hs16 : s3 56 16 = σ 56 16 := ((congrFun (congrFun es3 56) 16).symm.trans ((pi_up_sn _ _ _ (by decide)).trans ((congrFun (congrFun es2 56) 16).symm.trans (pi_up_ss _ _ _ _)))).trans ((z_sub0 _).trans hm.nw.symm)
  have hs19 : s3 56 19 = σ 56 19 := ((congrFun (congrFun es3 56) 19).symm.trans (pi_up_ss _ _ _ _)).trans ((z_sub0 _).trans hm.nc.symm)
  have hfs : pi_fs 56 [11] s3 σ := z_fs3 hfs0 hs16 hs19
  exact ⟨congrArg (fun z => some (Value.int z)) (z_sub1 hn), hm.un0 hn (((congrFun (congrFun es3 56) 11).symm.trans ((pi_up_sn _ _ _ (by decide)).trans ((congrFun (congrFun es2 56) 11).symm.trans ((pi_up_sn _ _ _ (by decide)).trans ((congrFun (congrFun es1 56) 11).symm.trans (pi_up_ss _ _ _ _)))))).trans (z_sub1 hn)) hfs hfr, pi_fr_tr hfr (by decide) pi_fr_rf⟩
set_option maxRecDepth 20000 in
theorem pi_P_undo0_no {xs : Nat → Int32} {L d : Nat} {W : zW} {σ : pi_S} (hm : z_MR W σ) (hn : W.nf = 0)  : pi_wp xs L (d + 9) 125 0 [some (.ref 56), some (.int (nI 0)), none] [] σ (fun v s => v = some (.int (-3)) ∧ z_MR W s ∧ pi_fr z_RC s σ) := by
  have hk := hm.wk
  have hnd8 := hk.wd.nd8
  have hns12 := hk.wd.ns12
  have hn60 := hk.nine
  have hnf := hk.nf
  have hnw := hk.nw
  have hnc := hk.nc
  have hn08 := hk.wd.n0
  have hn140 := hk.wd.n1
  refine pi_ca 4 (m' := 100) (l' := [some (.int (nI 0)), some (.int (nI 0)), some (.int (nI 2))]) (σ' := σ) (pc2 := 6) (l2 := [some (.ref 56), some (.int (nI 0)), none]) (t := []) (fun f => rfl) (pi_M_inT ((z_B_in (by omega)).mpr (⟨_, by omega, rfl⟩))) ?_
  rintro _ _ ⟨rfl, rfl⟩
  refine pi_cf 1 (c := nI 1 = 0) (pc' := 12) (l' := [some (.ref 56), some (.int (nI 0)), none]) (st' := []) (σ' := σ) (pc2 := 9) (l2 := [some (.ref 56), some (.int (nI 0)), none]) (st2 := []) (σ2 := σ) (fun f => rfl) (by decide) ?_
  refine pi_ct 2 (c := nI 0 = 0) (pc' := 16) (l' := [some (.ref 56), some (.int (nI 0)), none]) (st' := []) (σ' := σ) (pc2 := 23) (l2 := [some (.ref 56), some (.int (nI 0)), none]) (st2 := []) (σ2 := σ) (fun f => rfl) (by decide) ?_
  refine pi_go 2 (pc' := 20) (l' := [some (.ref 56), some (.int (nI 0)), none]) (st' := [.int (σ 56 11)]) (σ' := σ) (fun f => rfl) ?_
  refine pi_tp (y := nI W.nf) (hm.nf) ?_
  refine pi_ct 4 (c := nI W.nf = 0) (pc' := 44) (l' := [some (.ref 56), some (.int (nI 0)), some (.int (nI W.nf))]) (st' := []) (σ' := σ) (pc2 := 47) (l2 := [some (.ref 56), some (.int (nI 0)), some (.int (nI W.nf))]) (st2 := []) (σ2 := σ) (fun f => rfl) (congrArg nI hn) ?_
  refine pi_rt 2 (v := some (.int (-3))) (σ' := σ) (fun f => rfl) ?_
  exact ⟨rfl, hm, pi_fr_rf⟩
set_option maxRecDepth 20000 in
theorem pi_P_undo1 {xs : Nat → Int32} {L d : Nat} {W : zW} {σ : pi_S} (hm : z_MR W σ) (hn : ¬ W.nw = 0)  : pi_wp xs L (d + 9) 125 0 [some (.ref 56), some (.int (nI 1)), none] [] σ (fun v s => v = some (.int (nI (W.nw - 1))) ∧ z_MR (W.sN 4 (W.nw - 1)) s ∧ pi_fr z_RC s σ) := by
  have hk := hm.wk
  have hnd8 := hk.wd.nd8
  have hns12 := hk.wd.ns12
  have hn60 := hk.nine
  have hnf := hk.nf
  have hnw := hk.nw
  have hnc := hk.nc
  have hn08 := hk.wd.n0
  have hn140 := hk.wd.n1
  refine pi_ca 4 (m' := 100) (l' := [some (.int (nI 1)), some (.int (nI 0)), some (.int (nI 2))]) (σ' := σ) (pc2 := 6) (l2 := [some (.ref 56), some (.int (nI 1)), none]) (t := []) (fun f => rfl) (pi_M_inT ((z_B_in (by omega)).mpr (⟨_, by omega, rfl⟩))) ?_
  rintro _ _ ⟨rfl, rfl⟩
  refine pi_cf 1 (c := nI 1 = 0) (pc' := 12) (l' := [some (.ref 56), some (.int (nI 1)), none]) (st' := []) (σ' := σ) (pc2 := 9) (l2 := [some (.ref 56), some (.int (nI 1)), none]) (st2 := []) (σ2 := σ) (fun f => rfl) (by decide) ?_
  refine pi_cf 2 (c := nI 1 = 0) (pc' := 23) (l' := [some (.ref 56), some (.int (nI 1)), none]) (st' := []) (σ' := σ) (pc2 := 16) (l2 := [some (.ref 56), some (.int (nI 1)), none]) (st2 := []) (σ2 := σ) (fun f => rfl) (by decide) ?_
  refine pi_ct 3 (c := nI 1 = nI 1) (pc' := 28) (l' := [some (.ref 56), some (.int (nI 1)), none]) (st' := []) (σ' := σ) (pc2 := 35) (l2 := [some (.ref 56), some (.int (nI 1)), none]) (st2 := []) (σ2 := σ) (fun f => rfl) (by decide) ?_
  refine pi_go 2 (pc' := 32) (l' := [some (.ref 56), some (.int (nI 1)), none]) (st' := [.int (σ 56 16)]) (σ' := σ) (fun f => rfl) ?_
  refine pi_tp (y := nI W.nw) (hm.nw) ?_
  refine pi_cf 4 (c := nI W.nw = 0) (pc' := 47) (l' := [some (.ref 56), some (.int (nI 1)), some (.int (nI W.nw))]) (st' := []) (σ' := σ) (pc2 := 44) (l2 := [some (.ref 56), some (.int (nI 1)), some (.int (nI W.nw))]) (st2 := []) (σ2 := σ) (fun f => rfl) (fun q => hn ((nI_eq (by omega) (by omega)).mp q)) ?_
  refine pi_go 3 (pc' := 52) (l' := [some (.ref 56), some (.int (nI 1)), some (.int (nI W.nw))]) (st' := [.int (σ 56 11), .ref 56]) (σ' := σ) (fun f => rfl) ?_
  refine pi_tp (y := nI W.nf) (hm.nf) ?_
  refine pi_cf 2 (c := nI 1 = 0) (pc' := 60) (l' := [some (.ref 56), some (.int (nI 1)), some (.int (nI W.nw))]) (st' := [.int (nI W.nf), .ref 56]) (σ' := σ) (pc2 := 56) (l2 := [some (.ref 56), some (.int (nI 1)), some (.int (nI W.nw))]) (st2 := [.int (nI W.nf), .ref 56]) (σ2 := σ) (fun f => rfl) (by decide) ?_
  refine pi_go 3 (pc' := 65) (l' := [some (.ref 56), some (.int (nI 1)), some (.int (nI W.nw))]) (st' := []) (σ' := (pi_up σ 56 11 ((nI W.nf) - (nI 0)))) (fun f => rfl) ?_
  generalize es1 : pi_up σ 56 11 ((nI W.nf) - (nI 0)) = s1
  refine pi_go 3 (pc' := 70) (l' := [some (.ref 56), some (.int (nI 1)), some (.int (nI W.nw))]) (st' := [.int (s1 56 16), .ref 56]) (σ' := s1) (fun f => rfl) ?_
  refine pi_tp (y := nI W.nw) ((congrFun (congrFun es1 56) 16).symm.trans ((pi_up_sn _ _ _ (by decide)).trans (hm.nw))) ?_
  refine pi_ct 3 (c := nI 1 = nI 1) (pc' := 75) (l' := [some (.ref 56), some (.int (nI 1)), some (.int (nI W.nw))]) (st' := [.int (nI W.nw), .ref 56]) (σ' := s1) (pc2 := 79) (l2 := [some (.ref 56), some (.int (nI 1)), some (.int (nI W.nw))]) (st2 := [.int (nI W.nw), .ref 56]) (σ2 := s1) (fun f => rfl) (by decide) ?_
  refine pi_go 4 (pc' := 84) (l' := [some (.ref 56), some (.int (nI 1)), some (.int (nI W.nw))]) (st' := []) (σ' := (pi_up s1 56 16 ((nI W.nw) - (nI 1)))) (fun f => rfl) ?_
  generalize es2 : pi_up s1 56 16 ((nI W.nw) - (nI 1)) = s2
  refine pi_go 3 (pc' := 89) (l' := [some (.ref 56), some (.int (nI 1)), some (.int (nI W.nw))]) (st' := [.int (s2 56 19), .ref 56]) (σ' := s2) (fun f => rfl) ?_
  refine pi_tp (y := nI W.nc) ((congrFun (congrFun es2 56) 19).symm.trans ((pi_up_sn _ _ _ (by decide)).trans ((congrFun (congrFun es1 56) 19).symm.trans ((pi_up_sn _ _ _ (by decide)).trans (hm.nc))))) ?_
  refine pi_cf 3 (c := nI 1 = nI 2) (pc' := 98) (l' := [some (.ref 56), some (.int (nI 1)), some (.int (nI W.nw))]) (st' := [.int (nI W.nc), .ref 56]) (σ' := s2) (pc2 := 94) (l2 := [some (.ref 56), some (.int (nI 1)), some (.int (nI W.nw))]) (st2 := [.int (nI W.nc), .ref 56]) (σ2 := s2) (fun f => rfl) (by decide) ?_
  refine pi_go 3 (pc' := 103) (l' := [some (.ref 56), some (.int (nI 1)), some (.int (nI W.nw))]) (st' := []) (σ' := (pi_up s2 56 19 ((nI W.nc) - (nI 0)))) (fun f => rfl) ?_
  generalize es3 : pi_up s2 56 19 ((nI W.nc) - (nI 0)) = s3
  refine pi_rt 4 (v := some (.int ((nI W.nw) - (nI 1)))) (σ' := s3) (fun f => rfl) ?_
  have hfr : pi_fr [56] s3 σ := pi_fr_of es3 (by decide) (pi_fr_of es2 (by decide) (pi_fr_of es1 (by decide) (pi_fr_rf)))
  have hfs0 : pi_fs 56 [11, 16, 19] s3 σ := pi_fs_up es3 (by decide) (pi_fs_up es2 (by decide) (pi_fs_up es1 (by decide) (pi_fs_rf)))
  have hs11 : s3 56 11 = σ 56 11 := ((congrFun (congrFun es3 56) 11).symm.trans ((pi_up_sn _ _ _ (by decide)).trans ((congrFun (congrFun es2 56) 11).symm.trans ((pi_up_sn _ _ _ (by decide)).trans ((congrFun (congrFun es1 56) 11).symm.trans (pi_up_ss _ _ _ _)))))).trans ((z_sub0 _).trans hm.nf.symm)
  have hs19 : s3 56 19 = σ 56 19 := ((congrFun (congrFun es3 56) 19).symm.trans (pi_up_ss _ _ _ _)).trans ((z_sub0 _).trans hm.nc.symm)
  have hfs : pi_fs 56 [16] s3 σ := z_fs3 hfs0 hs11 hs19
  exact ⟨congrArg (fun z => some (Value.int z)) (z_sub1 hn), hm.un1 hn (((congrFun (congrFun es3 56) 16).symm.trans ((pi_up_sn _ _ _ (by decide)).trans ((congrFun (congrFun es2 56) 16).symm.trans (pi_up_ss _ _ _ _)))).trans (z_sub1 hn)) hfs hfr, pi_fr_tr hfr (by decide) pi_fr_rf⟩
set_option maxRecDepth 20000 in
theorem pi_P_undo1_no {xs : Nat → Int32} {L d : Nat} {W : zW} {σ : pi_S} (hm : z_MR W σ) (hn : W.nw = 0)  : pi_wp xs L (d + 9) 125 0 [some (.ref 56), some (.int (nI 1)), none] [] σ (fun v s => v = some (.int (-3)) ∧ z_MR W s ∧ pi_fr z_RC s σ) := by
  have hk := hm.wk
  have hnd8 := hk.wd.nd8
  have hns12 := hk.wd.ns12
  have hn60 := hk.nine
  have hnf := hk.nf
  have hnw := hk.nw
  have hnc := hk.nc
  have hn08 := hk.wd.n0
  have hn140 := hk.wd.n1
  refine pi_ca 4 (m' := 100) (l' := [some (.int (nI 1)), some (.int (nI 0)), some (.int (nI 2))]) (σ' := σ) (pc2 := 6) (l2 := [some (.ref 56), some (.int (nI 1)), none]) (t := []) (fun f => rfl) (pi_M_inT ((z_B_in (by omega)).mpr (⟨_, by omega, rfl⟩))) ?_
  rintro _ _ ⟨rfl, rfl⟩
  refine pi_cf 1 (c := nI 1 = 0) (pc' := 12) (l' := [some (.ref 56), some (.int (nI 1)), none]) (st' := []) (σ' := σ) (pc2 := 9) (l2 := [some (.ref 56), some (.int (nI 1)), none]) (st2 := []) (σ2 := σ) (fun f => rfl) (by decide) ?_
  refine pi_cf 2 (c := nI 1 = 0) (pc' := 23) (l' := [some (.ref 56), some (.int (nI 1)), none]) (st' := []) (σ' := σ) (pc2 := 16) (l2 := [some (.ref 56), some (.int (nI 1)), none]) (st2 := []) (σ2 := σ) (fun f => rfl) (by decide) ?_
  refine pi_ct 3 (c := nI 1 = nI 1) (pc' := 28) (l' := [some (.ref 56), some (.int (nI 1)), none]) (st' := []) (σ' := σ) (pc2 := 35) (l2 := [some (.ref 56), some (.int (nI 1)), none]) (st2 := []) (σ2 := σ) (fun f => rfl) (by decide) ?_
  refine pi_go 2 (pc' := 32) (l' := [some (.ref 56), some (.int (nI 1)), none]) (st' := [.int (σ 56 16)]) (σ' := σ) (fun f => rfl) ?_
  refine pi_tp (y := nI W.nw) (hm.nw) ?_
  refine pi_ct 4 (c := nI W.nw = 0) (pc' := 44) (l' := [some (.ref 56), some (.int (nI 1)), some (.int (nI W.nw))]) (st' := []) (σ' := σ) (pc2 := 47) (l2 := [some (.ref 56), some (.int (nI 1)), some (.int (nI W.nw))]) (st2 := []) (σ2 := σ) (fun f => rfl) (congrArg nI hn) ?_
  refine pi_rt 2 (v := some (.int (-3))) (σ' := σ) (fun f => rfl) ?_
  exact ⟨rfl, hm, pi_fr_rf⟩
set_option maxRecDepth 20000 in
theorem pi_P_undo2 {xs : Nat → Int32} {L d : Nat} {W : zW} {σ : pi_S} (hm : z_MR W σ) (hn : ¬ W.nc = 0)  : pi_wp xs L (d + 9) 125 0 [some (.ref 56), some (.int (nI 2)), none] [] σ (fun v s => v = some (.int (nI (W.nc - 1))) ∧ z_MR (W.sN 5 (W.nc - 1)) s ∧ pi_fr z_RC s σ) := by
  have hk := hm.wk
  have hnd8 := hk.wd.nd8
  have hns12 := hk.wd.ns12
  have hn60 := hk.nine
  have hnf := hk.nf
  have hnw := hk.nw
  have hnc := hk.nc
  have hn08 := hk.wd.n0
  have hn140 := hk.wd.n1
  refine pi_ca 4 (m' := 100) (l' := [some (.int (nI 2)), some (.int (nI 0)), some (.int (nI 2))]) (σ' := σ) (pc2 := 6) (l2 := [some (.ref 56), some (.int (nI 2)), none]) (t := []) (fun f => rfl) (pi_M_inT ((z_B_in (by omega)).mpr (⟨_, by omega, rfl⟩))) ?_
  rintro _ _ ⟨rfl, rfl⟩
  refine pi_cf 1 (c := nI 1 = 0) (pc' := 12) (l' := [some (.ref 56), some (.int (nI 2)), none]) (st' := []) (σ' := σ) (pc2 := 9) (l2 := [some (.ref 56), some (.int (nI 2)), none]) (st2 := []) (σ2 := σ) (fun f => rfl) (by decide) ?_
  refine pi_cf 2 (c := nI 2 = 0) (pc' := 23) (l' := [some (.ref 56), some (.int (nI 2)), none]) (st' := []) (σ' := σ) (pc2 := 16) (l2 := [some (.ref 56), some (.int (nI 2)), none]) (st2 := []) (σ2 := σ) (fun f => rfl) (by decide) ?_
  refine pi_cf 3 (c := nI 2 = nI 1) (pc' := 35) (l' := [some (.ref 56), some (.int (nI 2)), none]) (st' := []) (σ' := σ) (pc2 := 28) (l2 := [some (.ref 56), some (.int (nI 2)), none]) (st2 := []) (σ2 := σ) (fun f => rfl) (by decide) ?_
  refine pi_go 2 (pc' := 39) (l' := [some (.ref 56), some (.int (nI 2)), none]) (st' := [.int (σ 56 19)]) (σ' := σ) (fun f => rfl) ?_
  refine pi_tp (y := nI W.nc) (hm.nc) ?_
  refine pi_cf 3 (c := nI W.nc = 0) (pc' := 47) (l' := [some (.ref 56), some (.int (nI 2)), some (.int (nI W.nc))]) (st' := []) (σ' := σ) (pc2 := 44) (l2 := [some (.ref 56), some (.int (nI 2)), some (.int (nI W.nc))]) (st2 := []) (σ2 := σ) (fun f => rfl) (fun q => hn ((nI_eq (by omega) (by omega)).mp q)) ?_
  refine pi_go 3 (pc' := 52) (l' := [some (.ref 56), some (.int (nI 2)), some (.int (nI W.nc))]) (st' := [.int (σ 56 11), .ref 56]) (σ' := σ) (fun f => rfl) ?_
  refine pi_tp (y := nI W.nf) (hm.nf) ?_
  refine pi_cf 2 (c := nI 2 = 0) (pc' := 60) (l' := [some (.ref 56), some (.int (nI 2)), some (.int (nI W.nc))]) (st' := [.int (nI W.nf), .ref 56]) (σ' := σ) (pc2 := 56) (l2 := [some (.ref 56), some (.int (nI 2)), some (.int (nI W.nc))]) (st2 := [.int (nI W.nf), .ref 56]) (σ2 := σ) (fun f => rfl) (by decide) ?_
  refine pi_go 3 (pc' := 65) (l' := [some (.ref 56), some (.int (nI 2)), some (.int (nI W.nc))]) (st' := []) (σ' := (pi_up σ 56 11 ((nI W.nf) - (nI 0)))) (fun f => rfl) ?_
  generalize es1 : pi_up σ 56 11 ((nI W.nf) - (nI 0)) = s1
  refine pi_go 3 (pc' := 70) (l' := [some (.ref 56), some (.int (nI 2)), some (.int (nI W.nc))]) (st' := [.int (s1 56 16), .ref 56]) (σ' := s1) (fun f => rfl) ?_
  refine pi_tp (y := nI W.nw) ((congrFun (congrFun es1 56) 16).symm.trans ((pi_up_sn _ _ _ (by decide)).trans (hm.nw))) ?_
  refine pi_cf 3 (c := nI 2 = nI 1) (pc' := 79) (l' := [some (.ref 56), some (.int (nI 2)), some (.int (nI W.nc))]) (st' := [.int (nI W.nw), .ref 56]) (σ' := s1) (pc2 := 75) (l2 := [some (.ref 56), some (.int (nI 2)), some (.int (nI W.nc))]) (st2 := [.int (nI W.nw), .ref 56]) (σ2 := s1) (fun f => rfl) (by decide) ?_
  refine pi_go 3 (pc' := 84) (l' := [some (.ref 56), some (.int (nI 2)), some (.int (nI W.nc))]) (st' := []) (σ' := (pi_up s1 56 16 ((nI W.nw) - (nI 0)))) (fun f => rfl) ?_
  generalize es2 : pi_up s1 56 16 ((nI W.nw) - (nI 0)) = s2
  refine pi_go 3 (pc' := 89) (l' := [some (.ref 56), some (.int (nI 2)), some (.int (nI W.nc))]) (st' := [.int (s2 56 19), .ref 56]) (σ' := s2) (fun f => rfl) ?_
  refine pi_tp (y := nI W.nc) ((congrFun (congrFun es2 56) 19).symm.trans ((pi_up_sn _ _ _ (by decide)).trans ((congrFun (congrFun es1 56) 19).symm.trans ((pi_up_sn _ _ _ (by decide)).trans (hm.nc))))) ?_
  refine pi_ct 3 (c := nI 2 = nI 2) (pc' := 94) (l' := [some (.ref 56), some (.int (nI 2)), some (.int (nI W.nc))]) (st' := [.int (nI W.nc), .ref 56]) (σ' := s2) (pc2 := 98) (l2 := [some (.ref 56), some (.int (nI 2)), some (.int (nI W.nc))]) (st2 := [.int (nI W.nc), .ref 56]) (σ2 := s2) (fun f => rfl) (by decide) ?_
  refine pi_go 4 (pc' := 103) (l' := [some (.ref 56), some (.int (nI 2)), some (.int (nI W.nc))]) (st' := []) (σ' := (pi_up s2 56 19 ((nI W.nc) - (nI 1)))) (fun f => rfl) ?_
  generalize es3 : pi_up s2 56 19 ((nI W.nc) - (nI 1)) = s3
  refine pi_rt 4 (v := some (.int ((nI W.nc) - (nI 1)))) (σ' := s3) (fun f => rfl) ?_
  have hfr : pi_fr [56] s3 σ := pi_fr_of es3 (by decide) (pi_fr_of es2 (by decide) (pi_fr_of es1 (by decide) (pi_fr_rf)))
  have hfs0 : pi_fs 56 [11, 16, 19] s3 σ := pi_fs_up es3 (by decide) (pi_fs_up es2 (by decide) (pi_fs_up es1 (by decide) (pi_fs_rf)))
  have hs11 : s3 56 11 = σ 56 11 := ((congrFun (congrFun es3 56) 11).symm.trans ((pi_up_sn _ _ _ (by decide)).trans ((congrFun (congrFun es2 56) 11).symm.trans ((pi_up_sn _ _ _ (by decide)).trans ((congrFun (congrFun es1 56) 11).symm.trans (pi_up_ss _ _ _ _)))))).trans ((z_sub0 _).trans hm.nf.symm)
  have hs16 : s3 56 16 = σ 56 16 := ((congrFun (congrFun es3 56) 16).symm.trans ((pi_up_sn _ _ _ (by decide)).trans ((congrFun (congrFun es2 56) 16).symm.trans (pi_up_ss _ _ _ _)))).trans ((z_sub0 _).trans hm.nw.symm)
  have hfs : pi_fs 56 [19] s3 σ := z_fs3 hfs0 hs11 hs16
  exact ⟨congrArg (fun z => some (Value.int z)) (z_sub1 hn), hm.un2 hn (((congrFun (congrFun es3 56) 19).symm.trans (pi_up_ss _ _ _ _)).trans (z_sub1 hn)) hfs hfr, pi_fr_tr hfr (by decide) pi_fr_rf⟩
set_option maxRecDepth 20000 in
theorem pi_P_undo2_no {xs : Nat → Int32} {L d : Nat} {W : zW} {σ : pi_S} (hm : z_MR W σ) (hn : W.nc = 0)  : pi_wp xs L (d + 9) 125 0 [some (.ref 56), some (.int (nI 2)), none] [] σ (fun v s => v = some (.int (-3)) ∧ z_MR W s ∧ pi_fr z_RC s σ) := by
  have hk := hm.wk
  have hnd8 := hk.wd.nd8
  have hns12 := hk.wd.ns12
  have hn60 := hk.nine
  have hnf := hk.nf
  have hnw := hk.nw
  have hnc := hk.nc
  have hn08 := hk.wd.n0
  have hn140 := hk.wd.n1
  refine pi_ca 4 (m' := 100) (l' := [some (.int (nI 2)), some (.int (nI 0)), some (.int (nI 2))]) (σ' := σ) (pc2 := 6) (l2 := [some (.ref 56), some (.int (nI 2)), none]) (t := []) (fun f => rfl) (pi_M_inT ((z_B_in (by omega)).mpr (⟨_, by omega, rfl⟩))) ?_
  rintro _ _ ⟨rfl, rfl⟩
  refine pi_cf 1 (c := nI 1 = 0) (pc' := 12) (l' := [some (.ref 56), some (.int (nI 2)), none]) (st' := []) (σ' := σ) (pc2 := 9) (l2 := [some (.ref 56), some (.int (nI 2)), none]) (st2 := []) (σ2 := σ) (fun f => rfl) (by decide) ?_
  refine pi_cf 2 (c := nI 2 = 0) (pc' := 23) (l' := [some (.ref 56), some (.int (nI 2)), none]) (st' := []) (σ' := σ) (pc2 := 16) (l2 := [some (.ref 56), some (.int (nI 2)), none]) (st2 := []) (σ2 := σ) (fun f => rfl) (by decide) ?_
  refine pi_cf 3 (c := nI 2 = nI 1) (pc' := 35) (l' := [some (.ref 56), some (.int (nI 2)), none]) (st' := []) (σ' := σ) (pc2 := 28) (l2 := [some (.ref 56), some (.int (nI 2)), none]) (st2 := []) (σ2 := σ) (fun f => rfl) (by decide) ?_
  refine pi_go 2 (pc' := 39) (l' := [some (.ref 56), some (.int (nI 2)), none]) (st' := [.int (σ 56 19)]) (σ' := σ) (fun f => rfl) ?_
  refine pi_tp (y := nI W.nc) (hm.nc) ?_
  refine pi_ct 3 (c := nI W.nc = 0) (pc' := 44) (l' := [some (.ref 56), some (.int (nI 2)), some (.int (nI W.nc))]) (st' := []) (σ' := σ) (pc2 := 47) (l2 := [some (.ref 56), some (.int (nI 2)), some (.int (nI W.nc))]) (st2 := []) (σ2 := σ) (fun f => rfl) (congrArg nI hn) ?_
  refine pi_rt 2 (v := some (.int (-3))) (σ' := σ) (fun f => rfl) ?_
  exact ⟨rfl, hm, pi_fr_rf⟩
set_option maxRecDepth 20000 in
theorem pi_P_undo_bad {xs : Nat → Int32} {L d : Nat} {W : zW} {σ : pi_S} (hm : z_MR W σ) {a : Int32} (hb : ¬ (z_B 3 a))  : pi_wp xs L (d + 9) 125 0 [some (.ref 56), some (.int a), none] [] σ (fun v s => v = some (.int (-2)) ∧ z_MR W s ∧ pi_fr z_RC s σ) := by
  have hk := hm.wk
  have hnd8 := hk.wd.nd8
  have hns12 := hk.wd.ns12
  have hn60 := hk.nine
  have hnf := hk.nf
  have hnw := hk.nw
  have hnc := hk.nc
  have hn08 := hk.wd.n0
  have hn140 := hk.wd.n1
  refine pi_ca 4 (m' := 100) (l' := [some (.int a), some (.int (nI 0)), some (.int (nI 2))]) (σ' := σ) (pc2 := 6) (l2 := [some (.ref 56), some (.int a), none]) (t := []) (fun f => rfl) (pi_M_inB (p := z_B 3 a) (z_B_in (by omega))) ?_
  rintro _ _ (⟨b1, rfl, rfl⟩ | ⟨b1, rfl, rfl⟩)
  · refine pi_cf 1 (c := nI 1 = 0) (pc' := 12) (l' := [some (.ref 56), some (.int a), none]) (st' := []) (σ' := σ) (pc2 := 9) (l2 := [some (.ref 56), some (.int a), none]) (st2 := []) (σ2 := σ) (fun f => rfl) (by decide) ?_
    exact (hb b1).elim
  · refine pi_ct 1 (c := nI 0 = 0) (pc' := 9) (l' := [some (.ref 56), some (.int a), none]) (st' := []) (σ' := σ) (pc2 := 12) (l2 := [some (.ref 56), some (.int a), none]) (st2 := []) (σ2 := σ) (fun f => rfl) (by decide) ?_
    refine pi_rt 2 (v := some (.int (-2))) (σ' := σ) (fun f => rfl) ?_
    exact ⟨rfl, hm, pi_fr_rf⟩
set_option maxRecDepth 20000 in
theorem pi_P_set0 {xs : Nat → Int32} {L d : Nat} {W : zW} {σ : pi_S} (hm : z_MR W σ) {k b : Nat} (hk5 : k < 5) (hb : b ≤ 9)  : pi_wp xs L (d + 9) 119 0 [some (.ref 56), some (.int (nI 0)), some (.int (nI k)), some (.int (nI b)), none, none, none] [] σ (fun v s => v = some (.int (W.rt k)) ∧ z_MR (W.sI 1 (upd W.rt k (nI b))) s ∧ pi_fr z_RC s σ) := by
  have hk := hm.wk
  have hnd8 := hk.wd.nd8
  have hns12 := hk.wd.ns12
  have hn60 := hk.nine
  have hnf := hk.nf
  have hnw := hk.nw
  have hnc := hk.nc
  have hn08 := hk.wd.n0
  have hn140 := hk.wd.n1
  refine pi_ct 2 (c := nI 0 = 0) (pc' := 4) (l' := [some (.ref 56), some (.int (nI 0)), some (.int (nI k)), some (.int (nI b)), none, none, none]) (st' := []) (σ' := σ) (pc2 := 8) (l2 := [some (.ref 56), some (.int (nI 0)), some (.int (nI k)), some (.int (nI b)), none, none, none]) (st2 := []) (σ2 := σ) (fun f => rfl) (by decide) ?_
  refine pi_ct 5 (c := nI 0 = 0) (pc' := 30) (l' := [some (.ref 56), some (.int (nI 0)), some (.int (nI k)), some (.int (nI b)), some (.int (nI 4)), none, none]) (st' := []) (σ' := σ) (pc2 := 25) (l2 := [some (.ref 56), some (.int (nI 0)), some (.int (nI k)), some (.int (nI b)), some (.int (nI 4)), none, none]) (st2 := []) (σ2 := σ) (fun f => rfl) (by decide) ?_
  refine pi_ca 7 (m' := 100) (l' := [some (.int (nI 0)), some (.int (nI 0)), some (.int (nI 3))]) (σ' := σ) (pc2 := 55) (l2 := [some (.ref 56), some (.int (nI 0)), some (.int (nI k)), some (.int (nI b)), some (.int (nI 4)), some (.int (nI 9)), none]) (t := []) (fun f => rfl) (pi_M_inT ((z_B_in (by omega)).mpr (⟨_, by omega, rfl⟩))) ?_
  rintro _ _ ⟨rfl, rfl⟩
  refine pi_cf 1 (c := nI 1 = 0) (pc' := 58) (l' := [some (.ref 56), some (.int (nI 0)), some (.int (nI k)), some (.int (nI b)), some (.int (nI 4)), some (.int (nI 9)), none]) (st' := []) (σ' := σ) (pc2 := 87) (l2 := [some (.ref 56), some (.int (nI 0)), some (.int (nI k)), some (.int (nI b)), some (.int (nI 4)), some (.int (nI 9)), none]) (st2 := []) (σ2 := σ) (fun f => rfl) (by decide) ?_
  refine pi_ca 4 (m' := 100) (l' := [some (.int (nI k)), some (.int (nI 0)), some (.int (nI 4))]) (σ' := σ) (pc2 := 65) (l2 := [some (.ref 56), some (.int (nI 0)), some (.int (nI k)), some (.int (nI b)), some (.int (nI 4)), some (.int (nI 9)), none]) (t := []) (fun f => rfl) (pi_M_inT ((z_B_in (by omega)).mpr (⟨_, by omega, rfl⟩))) ?_
  rintro _ _ ⟨rfl, rfl⟩
  refine pi_cf 1 (c := nI 1 = 0) (pc' := 68) (l' := [some (.ref 56), some (.int (nI 0)), some (.int (nI k)), some (.int (nI b)), some (.int (nI 4)), some (.int (nI 9)), none]) (st' := []) (σ' := σ) (pc2 := 87) (l2 := [some (.ref 56), some (.int (nI 0)), some (.int (nI k)), some (.int (nI b)), some (.int (nI 4)), some (.int (nI 9)), none]) (st2 := []) (σ2 := σ) (fun f => rfl) (by decide) ?_
  refine pi_cf 4 (c := nI 0 = nI 2) (pc' := 78) (l' := [some (.ref 56), some (.int (nI 0)), some (.int (nI k)), some (.int (nI b)), some (.int (nI 4)), some (.int (nI 9)), none]) (st' := [.int (nI b)]) (σ' := σ) (pc2 := 74) (l2 := [some (.ref 56), some (.int (nI 0)), some (.int (nI k)), some (.int (nI b)), some (.int (nI 4)), some (.int (nI 9)), none]) (st2 := [.int (nI b)]) (σ2 := σ) (fun f => rfl) (by decide) ?_
  refine pi_ca 3 (m' := 100) (l' := [some (.int (nI b)), some (.int (nI 0)), some (.int (nI 9))]) (σ' := σ) (pc2 := 84) (l2 := [some (.ref 56), some (.int (nI 0)), some (.int (nI k)), some (.int (nI b)), some (.int (nI 4)), some (.int (nI 9)), none]) (t := []) (fun f => rfl) (pi_M_inT ((z_B_in (by omega)).mpr (⟨_, by omega, rfl⟩))) ?_
  rintro _ _ ⟨rfl, rfl⟩
  refine pi_cf 1 (c := nI 1 = 0) (pc' := 90) (l' := [some (.ref 56), some (.int (nI 0)), some (.int (nI k)), some (.int (nI b)), some (.int (nI 4)), some (.int (nI 9)), none]) (st' := []) (σ' := σ) (pc2 := 87) (l2 := [some (.ref 56), some (.int (nI 0)), some (.int (nI k)), some (.int (nI b)), some (.int (nI 4)), some (.int (nI 9)), none]) (st2 := []) (σ2 := σ) (fun f => rfl) (by decide) ?_
  refine pi_ct 2 (c := nI 0 = 0) (pc' := 94) (l' := [some (.ref 56), some (.int (nI 0)), some (.int (nI k)), some (.int (nI b)), some (.int (nI 4)), some (.int (nI 9)), none]) (st' := []) (σ' := σ) (pc2 := 103) (l2 := [some (.ref 56), some (.int (nI 0)), some (.int (nI k)), some (.int (nI b)), some (.int (nI 4)), some (.int (nI 9)), none]) (st2 := []) (σ2 := σ) (fun f => rfl) (by decide) ?_
  refine pi_ai 4 (u := k) (n := 5) (g := σ 62) (pc' := 100) (l' := [some (.ref 56), some (.int (nI 0)), some (.int (nI k)), some (.int (nI b)), some (.int (nI 4)), some (.int (nI 9)), none]) (t := []) (σ' := σ) (fun f => rfl) (by omega) (by omega) ?_
  refine pi_tp (y := W.rt k) (congrFun (hm.rt) k) ?_
  refine pi_ct 4 (c := nI 0 = 0) (pc' := 141) (l' := [some (.ref 56), some (.int (nI 0)), some (.int (nI k)), some (.int (nI b)), some (.int (nI 4)), some (.int (nI 9)), some (.int (W.rt k))]) (st' := []) (σ' := σ) (pc2 := 151) (l2 := [some (.ref 56), some (.int (nI 0)), some (.int (nI k)), some (.int (nI b)), some (.int (nI 4)), some (.int (nI 9)), some (.int (W.rt k))]) (st2 := []) (σ2 := σ) (fun f => rfl) (by decide) ?_
  refine pi_au 5 (u := k) (n := 5) (a := 62) (x := nI b) (pc' := 148) (l' := [some (.ref 56), some (.int (nI 0)), some (.int (nI k)), some (.int (nI b)), some (.int (nI 4)), some (.int (nI 9)), some (.int (W.rt k))]) (t := []) (σ' := σ) (fun f => rfl) (by omega) (by omega) ?_
  generalize es1 : pi_up σ 62 k (nI b) = s1
  refine pi_rt 3 (v := some (.int (W.rt k))) (σ' := s1) (fun f => rfl) ?_
  have hfr : pi_fr [62] s1 σ := pi_fr_of es1 (by decide) (pi_fr_rf)
  exact ⟨rfl, hm.se0 hb ((congrFun es1 62).symm.trans ((pi_up_self _ _ _ _).trans (congrArg (fun z => upd z _ _) (rfl)))) (pi_fs_ne es1 (by decide) (pi_fs_rf)) hfr, pi_fr_tr hfr (by decide) pi_fr_rf⟩
set_option maxRecDepth 20000 in
theorem pi_P_set1 {xs : Nat → Int32} {L d : Nat} {W : zW} {σ : pi_S} (hm : z_MR W σ) {k b : Nat} (hk5 : k < 8) (hb : b ≤ 99)  : pi_wp xs L (d + 9) 119 0 [some (.ref 56), some (.int (nI 1)), some (.int (nI k)), some (.int (nI b)), none, none, none] [] σ (fun v s => v = some (.int (W.hd k)) ∧ z_MR (W.sI 2 (upd W.hd k (nI b))) s ∧ pi_fr z_RC s σ) := by
  have hk := hm.wk
  have hnd8 := hk.wd.nd8
  have hns12 := hk.wd.ns12
  have hn60 := hk.nine
  have hnf := hk.nf
  have hnw := hk.nw
  have hnc := hk.nc
  have hn08 := hk.wd.n0
  have hn140 := hk.wd.n1
  refine pi_cf 2 (c := nI 1 = 0) (pc' := 8) (l' := [some (.ref 56), some (.int (nI 1)), some (.int (nI k)), some (.int (nI b)), none, none, none]) (st' := []) (σ' := σ) (pc2 := 4) (l2 := [some (.ref 56), some (.int (nI 1)), some (.int (nI k)), some (.int (nI b)), none, none, none]) (st2 := []) (σ2 := σ) (fun f => rfl) (by decide) ?_
  refine pi_cf 3 (c := nI 1 = nI 3) (pc' := 17) (l' := [some (.ref 56), some (.int (nI 1)), some (.int (nI k)), some (.int (nI b)), none, none, none]) (st' := []) (σ' := σ) (pc2 := 13) (l2 := [some (.ref 56), some (.int (nI 1)), some (.int (nI k)), some (.int (nI b)), none, none, none]) (st2 := []) (σ2 := σ) (fun f => rfl) (by decide) ?_
  refine pi_cf 4 (c := nI 1 = 0) (pc' := 25) (l' := [some (.ref 56), some (.int (nI 1)), some (.int (nI k)), some (.int (nI b)), some (.int (nI 7)), none, none]) (st' := []) (σ' := σ) (pc2 := 30) (l2 := [some (.ref 56), some (.int (nI 1)), some (.int (nI k)), some (.int (nI b)), some (.int (nI 7)), none, none]) (st2 := []) (σ2 := σ) (fun f => rfl) (by decide) ?_
  refine pi_cf 3 (c := nI 1 = nI 2) (pc' := 35) (l' := [some (.ref 56), some (.int (nI 1)), some (.int (nI k)), some (.int (nI b)), some (.int (nI 7)), none, none]) (st' := []) (σ' := σ) (pc2 := 30) (l2 := [some (.ref 56), some (.int (nI 1)), some (.int (nI k)), some (.int (nI b)), some (.int (nI 7)), none, none]) (st2 := []) (σ2 := σ) (fun f => rfl) (by decide) ?_
  refine pi_ct 3 (c := nI 1 = nI 1) (pc' := 40) (l' := [some (.ref 56), some (.int (nI 1)), some (.int (nI k)), some (.int (nI b)), some (.int (nI 7)), none, none]) (st' := []) (σ' := σ) (pc2 := 45) (l2 := [some (.ref 56), some (.int (nI 1)), some (.int (nI k)), some (.int (nI b)), some (.int (nI 7)), none, none]) (st2 := []) (σ2 := σ) (fun f => rfl) (by decide) ?_
  refine pi_ca 7 (m' := 100) (l' := [some (.int (nI 1)), some (.int (nI 0)), some (.int (nI 3))]) (σ' := σ) (pc2 := 55) (l2 := [some (.ref 56), some (.int (nI 1)), some (.int (nI k)), some (.int (nI b)), some (.int (nI 7)), some (.int (nI 99)), none]) (t := []) (fun f => rfl) (pi_M_inT ((z_B_in (by omega)).mpr (⟨_, by omega, rfl⟩))) ?_
  rintro _ _ ⟨rfl, rfl⟩
  refine pi_cf 1 (c := nI 1 = 0) (pc' := 58) (l' := [some (.ref 56), some (.int (nI 1)), some (.int (nI k)), some (.int (nI b)), some (.int (nI 7)), some (.int (nI 99)), none]) (st' := []) (σ' := σ) (pc2 := 87) (l2 := [some (.ref 56), some (.int (nI 1)), some (.int (nI k)), some (.int (nI b)), some (.int (nI 7)), some (.int (nI 99)), none]) (st2 := []) (σ2 := σ) (fun f => rfl) (by decide) ?_
  refine pi_ca 4 (m' := 100) (l' := [some (.int (nI k)), some (.int (nI 0)), some (.int (nI 7))]) (σ' := σ) (pc2 := 65) (l2 := [some (.ref 56), some (.int (nI 1)), some (.int (nI k)), some (.int (nI b)), some (.int (nI 7)), some (.int (nI 99)), none]) (t := []) (fun f => rfl) (pi_M_inT ((z_B_in (by omega)).mpr (⟨_, by omega, rfl⟩))) ?_
  rintro _ _ ⟨rfl, rfl⟩
  refine pi_cf 1 (c := nI 1 = 0) (pc' := 68) (l' := [some (.ref 56), some (.int (nI 1)), some (.int (nI k)), some (.int (nI b)), some (.int (nI 7)), some (.int (nI 99)), none]) (st' := []) (σ' := σ) (pc2 := 87) (l2 := [some (.ref 56), some (.int (nI 1)), some (.int (nI k)), some (.int (nI b)), some (.int (nI 7)), some (.int (nI 99)), none]) (st2 := []) (σ2 := σ) (fun f => rfl) (by decide) ?_
  refine pi_cf 4 (c := nI 1 = nI 2) (pc' := 78) (l' := [some (.ref 56), some (.int (nI 1)), some (.int (nI k)), some (.int (nI b)), some (.int (nI 7)), some (.int (nI 99)), none]) (st' := [.int (nI b)]) (σ' := σ) (pc2 := 74) (l2 := [some (.ref 56), some (.int (nI 1)), some (.int (nI k)), some (.int (nI b)), some (.int (nI 7)), some (.int (nI 99)), none]) (st2 := [.int (nI b)]) (σ2 := σ) (fun f => rfl) (by decide) ?_
  refine pi_ca 3 (m' := 100) (l' := [some (.int (nI b)), some (.int (nI 0)), some (.int (nI 99))]) (σ' := σ) (pc2 := 84) (l2 := [some (.ref 56), some (.int (nI 1)), some (.int (nI k)), some (.int (nI b)), some (.int (nI 7)), some (.int (nI 99)), none]) (t := []) (fun f => rfl) (pi_M_inT ((z_B_in (by omega)).mpr (⟨_, by omega, rfl⟩))) ?_
  rintro _ _ ⟨rfl, rfl⟩
  refine pi_cf 1 (c := nI 1 = 0) (pc' := 90) (l' := [some (.ref 56), some (.int (nI 1)), some (.int (nI k)), some (.int (nI b)), some (.int (nI 7)), some (.int (nI 99)), none]) (st' := []) (σ' := σ) (pc2 := 87) (l2 := [some (.ref 56), some (.int (nI 1)), some (.int (nI k)), some (.int (nI b)), some (.int (nI 7)), some (.int (nI 99)), none]) (st2 := []) (σ2 := σ) (fun f => rfl) (by decide) ?_
  refine pi_cf 2 (c := nI 1 = 0) (pc' := 103) (l' := [some (.ref 56), some (.int (nI 1)), some (.int (nI k)), some (.int (nI b)), some (.int (nI 7)), some (.int (nI 99)), none]) (st' := []) (σ' := σ) (pc2 := 94) (l2 := [some (.ref 56), some (.int (nI 1)), some (.int (nI k)), some (.int (nI b)), some (.int (nI 7)), some (.int (nI 99)), none]) (st2 := []) (σ2 := σ) (fun f => rfl) (by decide) ?_
  refine pi_ct 3 (c := nI 1 = nI 1) (pc' := 108) (l' := [some (.ref 56), some (.int (nI 1)), some (.int (nI k)), some (.int (nI b)), some (.int (nI 7)), some (.int (nI 99)), none]) (st' := []) (σ' := σ) (pc2 := 117) (l2 := [some (.ref 56), some (.int (nI 1)), some (.int (nI k)), some (.int (nI b)), some (.int (nI 7)), some (.int (nI 99)), none]) (st2 := []) (σ2 := σ) (fun f => rfl) (by decide) ?_
  refine pi_ai 4 (u := k) (n := 8) (g := σ 63) (pc' := 114) (l' := [some (.ref 56), some (.int (nI 1)), some (.int (nI k)), some (.int (nI b)), some (.int (nI 7)), some (.int (nI 99)), none]) (t := []) (σ' := σ) (fun f => rfl) (by omega) (by omega) ?_
  refine pi_tp (y := W.hd k) (congrFun (hm.hd) k) ?_
  refine pi_cf 4 (c := nI 1 = 0) (pc' := 151) (l' := [some (.ref 56), some (.int (nI 1)), some (.int (nI k)), some (.int (nI b)), some (.int (nI 7)), some (.int (nI 99)), some (.int (W.hd k))]) (st' := []) (σ' := σ) (pc2 := 141) (l2 := [some (.ref 56), some (.int (nI 1)), some (.int (nI k)), some (.int (nI b)), some (.int (nI 7)), some (.int (nI 99)), some (.int (W.hd k))]) (st2 := []) (σ2 := σ) (fun f => rfl) (by decide) ?_
  refine pi_ct 3 (c := nI 1 = nI 1) (pc' := 156) (l' := [some (.ref 56), some (.int (nI 1)), some (.int (nI k)), some (.int (nI b)), some (.int (nI 7)), some (.int (nI 99)), some (.int (W.hd k))]) (st' := []) (σ' := σ) (pc2 := 166) (l2 := [some (.ref 56), some (.int (nI 1)), some (.int (nI k)), some (.int (nI b)), some (.int (nI 7)), some (.int (nI 99)), some (.int (W.hd k))]) (st2 := []) (σ2 := σ) (fun f => rfl) (by decide) ?_
  refine pi_au 5 (u := k) (n := 8) (a := 63) (x := nI b) (pc' := 163) (l' := [some (.ref 56), some (.int (nI 1)), some (.int (nI k)), some (.int (nI b)), some (.int (nI 7)), some (.int (nI 99)), some (.int (W.hd k))]) (t := []) (σ' := σ) (fun f => rfl) (by omega) (by omega) ?_
  generalize es1 : pi_up σ 63 k (nI b) = s1
  refine pi_rt 3 (v := some (.int (W.hd k))) (σ' := s1) (fun f => rfl) ?_
  have hfr : pi_fr [63] s1 σ := pi_fr_of es1 (by decide) (pi_fr_rf)
  exact ⟨rfl, hm.se1 hb ((congrFun es1 63).symm.trans ((pi_up_self _ _ _ _).trans (congrArg (fun z => upd z _ _) (rfl)))) (pi_fs_ne es1 (by decide) (pi_fs_rf)) hfr, pi_fr_tr hfr (by decide) pi_fr_rf⟩
set_option maxRecDepth 20000 in
theorem pi_P_set2 {xs : Nat → Int32} {L d : Nat} {W : zW} {σ : pi_S} (hm : z_MR W σ) {k b : Nat} (hk5 : k < 8) (hb : b ≤ 9) (hb1 : 1 ≤ b)  : pi_wp xs L (d + 9) 119 0 [some (.ref 56), some (.int (nI 2)), some (.int (nI k)), some (.int (nI b)), none, none, none] [] σ (fun v s => v = some (.int (W.pr k)) ∧ z_MR (W.sI 3 (upd W.pr k (nI b))) s ∧ pi_fr z_RC s σ) := by
  have hk := hm.wk
  have hnd8 := hk.wd.nd8
  have hns12 := hk.wd.ns12
  have hn60 := hk.nine
  have hnf := hk.nf
  have hnw := hk.nw
  have hnc := hk.nc
  have hn08 := hk.wd.n0
  have hn140 := hk.wd.n1
  refine pi_cf 2 (c := nI 2 = 0) (pc' := 8) (l' := [some (.ref 56), some (.int (nI 2)), some (.int (nI k)), some (.int (nI b)), none, none, none]) (st' := []) (σ' := σ) (pc2 := 4) (l2 := [some (.ref 56), some (.int (nI 2)), some (.int (nI k)), some (.int (nI b)), none, none, none]) (st2 := []) (σ2 := σ) (fun f => rfl) (by decide) ?_
  refine pi_cf 3 (c := nI 2 = nI 3) (pc' := 17) (l' := [some (.ref 56), some (.int (nI 2)), some (.int (nI k)), some (.int (nI b)), none, none, none]) (st' := []) (σ' := σ) (pc2 := 13) (l2 := [some (.ref 56), some (.int (nI 2)), some (.int (nI k)), some (.int (nI b)), none, none, none]) (st2 := []) (σ2 := σ) (fun f => rfl) (by decide) ?_
  refine pi_cf 4 (c := nI 2 = 0) (pc' := 25) (l' := [some (.ref 56), some (.int (nI 2)), some (.int (nI k)), some (.int (nI b)), some (.int (nI 7)), none, none]) (st' := []) (σ' := σ) (pc2 := 30) (l2 := [some (.ref 56), some (.int (nI 2)), some (.int (nI k)), some (.int (nI b)), some (.int (nI 7)), none, none]) (st2 := []) (σ2 := σ) (fun f => rfl) (by decide) ?_
  refine pi_ct 3 (c := nI 2 = nI 2) (pc' := 30) (l' := [some (.ref 56), some (.int (nI 2)), some (.int (nI k)), some (.int (nI b)), some (.int (nI 7)), none, none]) (st' := []) (σ' := σ) (pc2 := 35) (l2 := [some (.ref 56), some (.int (nI 2)), some (.int (nI k)), some (.int (nI b)), some (.int (nI 7)), none, none]) (st2 := []) (σ2 := σ) (fun f => rfl) (by decide) ?_
  refine pi_ca 7 (m' := 100) (l' := [some (.int (nI 2)), some (.int (nI 0)), some (.int (nI 3))]) (σ' := σ) (pc2 := 55) (l2 := [some (.ref 56), some (.int (nI 2)), some (.int (nI k)), some (.int (nI b)), some (.int (nI 7)), some (.int (nI 9)), none]) (t := []) (fun f => rfl) (pi_M_inT ((z_B_in (by omega)).mpr (⟨_, by omega, rfl⟩))) ?_
  rintro _ _ ⟨rfl, rfl⟩
  refine pi_cf 1 (c := nI 1 = 0) (pc' := 58) (l' := [some (.ref 56), some (.int (nI 2)), some (.int (nI k)), some (.int (nI b)), some (.int (nI 7)), some (.int (nI 9)), none]) (st' := []) (σ' := σ) (pc2 := 87) (l2 := [some (.ref 56), some (.int (nI 2)), some (.int (nI k)), some (.int (nI b)), some (.int (nI 7)), some (.int (nI 9)), none]) (st2 := []) (σ2 := σ) (fun f => rfl) (by decide) ?_
  refine pi_ca 4 (m' := 100) (l' := [some (.int (nI k)), some (.int (nI 0)), some (.int (nI 7))]) (σ' := σ) (pc2 := 65) (l2 := [some (.ref 56), some (.int (nI 2)), some (.int (nI k)), some (.int (nI b)), some (.int (nI 7)), some (.int (nI 9)), none]) (t := []) (fun f => rfl) (pi_M_inT ((z_B_in (by omega)).mpr (⟨_, by omega, rfl⟩))) ?_
  rintro _ _ ⟨rfl, rfl⟩
  refine pi_cf 1 (c := nI 1 = 0) (pc' := 68) (l' := [some (.ref 56), some (.int (nI 2)), some (.int (nI k)), some (.int (nI b)), some (.int (nI 7)), some (.int (nI 9)), none]) (st' := []) (σ' := σ) (pc2 := 87) (l2 := [some (.ref 56), some (.int (nI 2)), some (.int (nI k)), some (.int (nI b)), some (.int (nI 7)), some (.int (nI 9)), none]) (st2 := []) (σ2 := σ) (fun f => rfl) (by decide) ?_
  refine pi_ct 4 (c := nI 2 = nI 2) (pc' := 74) (l' := [some (.ref 56), some (.int (nI 2)), some (.int (nI k)), some (.int (nI b)), some (.int (nI 7)), some (.int (nI 9)), none]) (st' := [.int (nI b)]) (σ' := σ) (pc2 := 78) (l2 := [some (.ref 56), some (.int (nI 2)), some (.int (nI k)), some (.int (nI b)), some (.int (nI 7)), some (.int (nI 9)), none]) (st2 := [.int (nI b)]) (σ2 := σ) (fun f => rfl) (by decide) ?_
  refine pi_ca 4 (m' := 100) (l' := [some (.int (nI b)), some (.int (nI 1)), some (.int (nI 9))]) (σ' := σ) (pc2 := 84) (l2 := [some (.ref 56), some (.int (nI 2)), some (.int (nI k)), some (.int (nI b)), some (.int (nI 7)), some (.int (nI 9)), none]) (t := []) (fun f => rfl) (pi_M_inT ((z_P_in (by omega)).mpr (⟨_, by omega, by omega, rfl⟩))) ?_
  rintro _ _ ⟨rfl, rfl⟩
  refine pi_cf 1 (c := nI 1 = 0) (pc' := 90) (l' := [some (.ref 56), some (.int (nI 2)), some (.int (nI k)), some (.int (nI b)), some (.int (nI 7)), some (.int (nI 9)), none]) (st' := []) (σ' := σ) (pc2 := 87) (l2 := [some (.ref 56), some (.int (nI 2)), some (.int (nI k)), some (.int (nI b)), some (.int (nI 7)), some (.int (nI 9)), none]) (st2 := []) (σ2 := σ) (fun f => rfl) (by decide) ?_
  refine pi_cf 2 (c := nI 2 = 0) (pc' := 103) (l' := [some (.ref 56), some (.int (nI 2)), some (.int (nI k)), some (.int (nI b)), some (.int (nI 7)), some (.int (nI 9)), none]) (st' := []) (σ' := σ) (pc2 := 94) (l2 := [some (.ref 56), some (.int (nI 2)), some (.int (nI k)), some (.int (nI b)), some (.int (nI 7)), some (.int (nI 9)), none]) (st2 := []) (σ2 := σ) (fun f => rfl) (by decide) ?_
  refine pi_cf 3 (c := nI 2 = nI 1) (pc' := 117) (l' := [some (.ref 56), some (.int (nI 2)), some (.int (nI k)), some (.int (nI b)), some (.int (nI 7)), some (.int (nI 9)), none]) (st' := []) (σ' := σ) (pc2 := 108) (l2 := [some (.ref 56), some (.int (nI 2)), some (.int (nI k)), some (.int (nI b)), some (.int (nI 7)), some (.int (nI 9)), none]) (st2 := []) (σ2 := σ) (fun f => rfl) (by decide) ?_
  refine pi_ct 3 (c := nI 2 = nI 2) (pc' := 122) (l' := [some (.ref 56), some (.int (nI 2)), some (.int (nI k)), some (.int (nI b)), some (.int (nI 7)), some (.int (nI 9)), none]) (st' := []) (σ' := σ) (pc2 := 131) (l2 := [some (.ref 56), some (.int (nI 2)), some (.int (nI k)), some (.int (nI b)), some (.int (nI 7)), some (.int (nI 9)), none]) (st2 := []) (σ2 := σ) (fun f => rfl) (by decide) ?_
  refine pi_ai 4 (u := k) (n := 8) (g := σ 64) (pc' := 128) (l' := [some (.ref 56), some (.int (nI 2)), some (.int (nI k)), some (.int (nI b)), some (.int (nI 7)), some (.int (nI 9)), none]) (t := []) (σ' := σ) (fun f => rfl) (by omega) (by omega) ?_
  refine pi_tp (y := W.pr k) (congrFun (hm.pr) k) ?_
  refine pi_cf 4 (c := nI 2 = 0) (pc' := 151) (l' := [some (.ref 56), some (.int (nI 2)), some (.int (nI k)), some (.int (nI b)), some (.int (nI 7)), some (.int (nI 9)), some (.int (W.pr k))]) (st' := []) (σ' := σ) (pc2 := 141) (l2 := [some (.ref 56), some (.int (nI 2)), some (.int (nI k)), some (.int (nI b)), some (.int (nI 7)), some (.int (nI 9)), some (.int (W.pr k))]) (st2 := []) (σ2 := σ) (fun f => rfl) (by decide) ?_
  refine pi_cf 3 (c := nI 2 = nI 1) (pc' := 166) (l' := [some (.ref 56), some (.int (nI 2)), some (.int (nI k)), some (.int (nI b)), some (.int (nI 7)), some (.int (nI 9)), some (.int (W.pr k))]) (st' := []) (σ' := σ) (pc2 := 156) (l2 := [some (.ref 56), some (.int (nI 2)), some (.int (nI k)), some (.int (nI b)), some (.int (nI 7)), some (.int (nI 9)), some (.int (W.pr k))]) (st2 := []) (σ2 := σ) (fun f => rfl) (by decide) ?_
  refine pi_ct 3 (c := nI 2 = nI 2) (pc' := 171) (l' := [some (.ref 56), some (.int (nI 2)), some (.int (nI k)), some (.int (nI b)), some (.int (nI 7)), some (.int (nI 9)), some (.int (W.pr k))]) (st' := []) (σ' := σ) (pc2 := 181) (l2 := [some (.ref 56), some (.int (nI 2)), some (.int (nI k)), some (.int (nI b)), some (.int (nI 7)), some (.int (nI 9)), some (.int (W.pr k))]) (st2 := []) (σ2 := σ) (fun f => rfl) (by decide) ?_
  refine pi_au 5 (u := k) (n := 8) (a := 64) (x := nI b) (pc' := 178) (l' := [some (.ref 56), some (.int (nI 2)), some (.int (nI k)), some (.int (nI b)), some (.int (nI 7)), some (.int (nI 9)), some (.int (W.pr k))]) (t := []) (σ' := σ) (fun f => rfl) (by omega) (by omega) ?_
  generalize es1 : pi_up σ 64 k (nI b) = s1
  refine pi_rt 3 (v := some (.int (W.pr k))) (σ' := s1) (fun f => rfl) ?_
  have hfr : pi_fr [64] s1 σ := pi_fr_of es1 (by decide) (pi_fr_rf)
  exact ⟨rfl, hm.se2 hb ((congrFun es1 64).symm.trans ((pi_up_self _ _ _ _).trans (congrArg (fun z => upd z _ _) (rfl)))) (pi_fs_ne es1 (by decide) (pi_fs_rf)) hfr, pi_fr_tr hfr (by decide) pi_fr_rf⟩
set_option maxRecDepth 20000 in
theorem pi_P_set3 {xs : Nat → Int32} {L d : Nat} {W : zW} {σ : pi_S} (hm : z_MR W σ) {b : Nat} (hb : b < 60)  : pi_wp xs L (d + 9) 119 0 [some (.ref 56), some (.int (nI 3)), some (.int (nI 0)), some (.int (nI b)), none, none, none] [] σ (fun v s => v = some (.int (nI W.nine)) ∧ z_MR (W.sN 2 b) s ∧ pi_fr z_RC s σ) := by
  have hk := hm.wk
  have hnd8 := hk.wd.nd8
  have hns12 := hk.wd.ns12
  have hn60 := hk.nine
  have hnf := hk.nf
  have hnw := hk.nw
  have hnc := hk.nc
  have hn08 := hk.wd.n0
  have hn140 := hk.wd.n1
  refine pi_cf 2 (c := nI 3 = 0) (pc' := 8) (l' := [some (.ref 56), some (.int (nI 3)), some (.int (nI 0)), some (.int (nI b)), none, none, none]) (st' := []) (σ' := σ) (pc2 := 4) (l2 := [some (.ref 56), some (.int (nI 3)), some (.int (nI 0)), some (.int (nI b)), none, none, none]) (st2 := []) (σ2 := σ) (fun f => rfl) (by decide) ?_
  refine pi_ct 3 (c := nI 3 = nI 3) (pc' := 13) (l' := [some (.ref 56), some (.int (nI 3)), some (.int (nI 0)), some (.int (nI b)), none, none, none]) (st' := []) (σ' := σ) (pc2 := 17) (l2 := [some (.ref 56), some (.int (nI 3)), some (.int (nI 0)), some (.int (nI b)), none, none, none]) (st2 := []) (σ2 := σ) (fun f => rfl) (by decide) ?_
  refine pi_cf 5 (c := nI 3 = 0) (pc' := 25) (l' := [some (.ref 56), some (.int (nI 3)), some (.int (nI 0)), some (.int (nI b)), some (.int (nI 0)), none, none]) (st' := []) (σ' := σ) (pc2 := 30) (l2 := [some (.ref 56), some (.int (nI 3)), some (.int (nI 0)), some (.int (nI b)), some (.int (nI 0)), none, none]) (st2 := []) (σ2 := σ) (fun f => rfl) (by decide) ?_
  refine pi_cf 3 (c := nI 3 = nI 2) (pc' := 35) (l' := [some (.ref 56), some (.int (nI 3)), some (.int (nI 0)), some (.int (nI b)), some (.int (nI 0)), none, none]) (st' := []) (σ' := σ) (pc2 := 30) (l2 := [some (.ref 56), some (.int (nI 3)), some (.int (nI 0)), some (.int (nI b)), some (.int (nI 0)), none, none]) (st2 := []) (σ2 := σ) (fun f => rfl) (by decide) ?_
  refine pi_cf 3 (c := nI 3 = nI 1) (pc' := 45) (l' := [some (.ref 56), some (.int (nI 3)), some (.int (nI 0)), some (.int (nI b)), some (.int (nI 0)), none, none]) (st' := []) (σ' := σ) (pc2 := 40) (l2 := [some (.ref 56), some (.int (nI 3)), some (.int (nI 0)), some (.int (nI b)), some (.int (nI 0)), none, none]) (st2 := []) (σ2 := σ) (fun f => rfl) (by decide) ?_
  refine pi_ca 6 (m' := 100) (l' := [some (.int (nI 3)), some (.int (nI 0)), some (.int (nI 3))]) (σ' := σ) (pc2 := 55) (l2 := [some (.ref 56), some (.int (nI 3)), some (.int (nI 0)), some (.int (nI b)), some (.int (nI 0)), some (.int (nI 59)), none]) (t := []) (fun f => rfl) (pi_M_inT ((z_B_in (by omega)).mpr (⟨_, by omega, rfl⟩))) ?_
  rintro _ _ ⟨rfl, rfl⟩
  refine pi_cf 1 (c := nI 1 = 0) (pc' := 58) (l' := [some (.ref 56), some (.int (nI 3)), some (.int (nI 0)), some (.int (nI b)), some (.int (nI 0)), some (.int (nI 59)), none]) (st' := []) (σ' := σ) (pc2 := 87) (l2 := [some (.ref 56), some (.int (nI 3)), some (.int (nI 0)), some (.int (nI b)), some (.int (nI 0)), some (.int (nI 59)), none]) (st2 := []) (σ2 := σ) (fun f => rfl) (by decide) ?_
  refine pi_ca 4 (m' := 100) (l' := [some (.int (nI 0)), some (.int (nI 0)), some (.int (nI 0))]) (σ' := σ) (pc2 := 65) (l2 := [some (.ref 56), some (.int (nI 3)), some (.int (nI 0)), some (.int (nI b)), some (.int (nI 0)), some (.int (nI 59)), none]) (t := []) (fun f => rfl) (pi_M_inT ((z_B_in (by omega)).mpr (⟨_, by omega, rfl⟩))) ?_
  rintro _ _ ⟨rfl, rfl⟩
  refine pi_cf 1 (c := nI 1 = 0) (pc' := 68) (l' := [some (.ref 56), some (.int (nI 3)), some (.int (nI 0)), some (.int (nI b)), some (.int (nI 0)), some (.int (nI 59)), none]) (st' := []) (σ' := σ) (pc2 := 87) (l2 := [some (.ref 56), some (.int (nI 3)), some (.int (nI 0)), some (.int (nI b)), some (.int (nI 0)), some (.int (nI 59)), none]) (st2 := []) (σ2 := σ) (fun f => rfl) (by decide) ?_
  refine pi_cf 4 (c := nI 3 = nI 2) (pc' := 78) (l' := [some (.ref 56), some (.int (nI 3)), some (.int (nI 0)), some (.int (nI b)), some (.int (nI 0)), some (.int (nI 59)), none]) (st' := [.int (nI b)]) (σ' := σ) (pc2 := 74) (l2 := [some (.ref 56), some (.int (nI 3)), some (.int (nI 0)), some (.int (nI b)), some (.int (nI 0)), some (.int (nI 59)), none]) (st2 := [.int (nI b)]) (σ2 := σ) (fun f => rfl) (by decide) ?_
  refine pi_ca 3 (m' := 100) (l' := [some (.int (nI b)), some (.int (nI 0)), some (.int (nI 59))]) (σ' := σ) (pc2 := 84) (l2 := [some (.ref 56), some (.int (nI 3)), some (.int (nI 0)), some (.int (nI b)), some (.int (nI 0)), some (.int (nI 59)), none]) (t := []) (fun f => rfl) (pi_M_inT ((z_B_in (by omega)).mpr (⟨_, by omega, rfl⟩))) ?_
  rintro _ _ ⟨rfl, rfl⟩
  refine pi_cf 1 (c := nI 1 = 0) (pc' := 90) (l' := [some (.ref 56), some (.int (nI 3)), some (.int (nI 0)), some (.int (nI b)), some (.int (nI 0)), some (.int (nI 59)), none]) (st' := []) (σ' := σ) (pc2 := 87) (l2 := [some (.ref 56), some (.int (nI 3)), some (.int (nI 0)), some (.int (nI b)), some (.int (nI 0)), some (.int (nI 59)), none]) (st2 := []) (σ2 := σ) (fun f => rfl) (by decide) ?_
  refine pi_cf 2 (c := nI 3 = 0) (pc' := 103) (l' := [some (.ref 56), some (.int (nI 3)), some (.int (nI 0)), some (.int (nI b)), some (.int (nI 0)), some (.int (nI 59)), none]) (st' := []) (σ' := σ) (pc2 := 94) (l2 := [some (.ref 56), some (.int (nI 3)), some (.int (nI 0)), some (.int (nI b)), some (.int (nI 0)), some (.int (nI 59)), none]) (st2 := []) (σ2 := σ) (fun f => rfl) (by decide) ?_
  refine pi_cf 3 (c := nI 3 = nI 1) (pc' := 117) (l' := [some (.ref 56), some (.int (nI 3)), some (.int (nI 0)), some (.int (nI b)), some (.int (nI 0)), some (.int (nI 59)), none]) (st' := []) (σ' := σ) (pc2 := 108) (l2 := [some (.ref 56), some (.int (nI 3)), some (.int (nI 0)), some (.int (nI b)), some (.int (nI 0)), some (.int (nI 59)), none]) (st2 := []) (σ2 := σ) (fun f => rfl) (by decide) ?_
  refine pi_cf 3 (c := nI 3 = nI 2) (pc' := 131) (l' := [some (.ref 56), some (.int (nI 3)), some (.int (nI 0)), some (.int (nI b)), some (.int (nI 0)), some (.int (nI 59)), none]) (st' := []) (σ' := σ) (pc2 := 122) (l2 := [some (.ref 56), some (.int (nI 3)), some (.int (nI 0)), some (.int (nI b)), some (.int (nI 0)), some (.int (nI 59)), none]) (st2 := []) (σ2 := σ) (fun f => rfl) (by decide) ?_
  refine pi_go 2 (pc' := 135) (l' := [some (.ref 56), some (.int (nI 3)), some (.int (nI 0)), some (.int (nI b)), some (.int (nI 0)), some (.int (nI 59)), none]) (st' := [.int (σ 56 10)]) (σ' := σ) (fun f => rfl) ?_
  refine pi_tp (y := nI W.nine) (hm.nine) ?_
  refine pi_cf 3 (c := nI 3 = 0) (pc' := 151) (l' := [some (.ref 56), some (.int (nI 3)), some (.int (nI 0)), some (.int (nI b)), some (.int (nI 0)), some (.int (nI 59)), some (.int (nI W.nine))]) (st' := []) (σ' := σ) (pc2 := 141) (l2 := [some (.ref 56), some (.int (nI 3)), some (.int (nI 0)), some (.int (nI b)), some (.int (nI 0)), some (.int (nI 59)), some (.int (nI W.nine))]) (st2 := []) (σ2 := σ) (fun f => rfl) (by decide) ?_
  refine pi_cf 3 (c := nI 3 = nI 1) (pc' := 166) (l' := [some (.ref 56), some (.int (nI 3)), some (.int (nI 0)), some (.int (nI b)), some (.int (nI 0)), some (.int (nI 59)), some (.int (nI W.nine))]) (st' := []) (σ' := σ) (pc2 := 156) (l2 := [some (.ref 56), some (.int (nI 3)), some (.int (nI 0)), some (.int (nI b)), some (.int (nI 0)), some (.int (nI 59)), some (.int (nI W.nine))]) (st2 := []) (σ2 := σ) (fun f => rfl) (by decide) ?_
  refine pi_cf 3 (c := nI 3 = nI 2) (pc' := 181) (l' := [some (.ref 56), some (.int (nI 3)), some (.int (nI 0)), some (.int (nI b)), some (.int (nI 0)), some (.int (nI 59)), some (.int (nI W.nine))]) (st' := []) (σ' := σ) (pc2 := 171) (l2 := [some (.ref 56), some (.int (nI 3)), some (.int (nI 0)), some (.int (nI b)), some (.int (nI 0)), some (.int (nI 59)), some (.int (nI W.nine))]) (st2 := []) (σ2 := σ) (fun f => rfl) (by decide) ?_
  refine pi_go 3 (pc' := 186) (l' := [some (.ref 56), some (.int (nI 3)), some (.int (nI 0)), some (.int (nI b)), some (.int (nI 0)), some (.int (nI 59)), some (.int (nI W.nine))]) (st' := []) (σ' := (pi_up σ 56 10 (nI b))) (fun f => rfl) ?_
  generalize es1 : pi_up σ 56 10 (nI b) = s1
  refine pi_rt 2 (v := some (.int (nI W.nine))) (σ' := s1) (fun f => rfl) ?_
  have hfr : pi_fr [56] s1 σ := pi_fr_of es1 (by decide) (pi_fr_rf)
  exact ⟨rfl, hm.se3 hb ((congrFun (congrFun es1 56) 10).symm.trans (pi_up_ss _ _ _ _)) (pi_fs_up es1 (by decide) (pi_fs_rf)) hfr, pi_fr_tr hfr (by decide) pi_fr_rf⟩
