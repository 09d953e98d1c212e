set_option maxRecDepth 20000 in
theorem pi_C_textOf0 {xs : Nat → Int32} {L d : Nat} {σ : pi_S}  : pi_wp xs L d 47 0 [some (.ref 1), some (.int (nI 0))] [] σ (fun v s => v = some (.ref 2) ∧ σ = s) := by
  refine pi_ct 2 (c := nI 0 = 0) (pc' := 4) (l' := [some (.ref 1), some (.int (nI 0))]) (st' := []) (σ' := σ) (pc2 := 11) (l2 := [some (.ref 1), some (.int (nI 0))]) (st2 := []) (σ2 := σ) (fun f => rfl) (by decide) ?_
  refine pi_rt 4 (v := some (.ref 2)) (σ' := σ) (fun f => rfl) ?_
  exact ⟨rfl, rfl⟩
set_option maxRecDepth 20000 in
theorem pi_C_tapp0 {xs : Nat → Int32} {L d : Nat} {W : zW} {σ : pi_S} (hc : z_CK W σ) (x : Int32) (hn : W.n0 < 8)  : pi_wp xs L d 43 0 [some (.ref 2), some (.int x)] [] σ (fun v s => v = some (.int (nI (W.n0 + 1))) ∧ s 2 1 = σ 2 1 ∧ s 2 2 = nI (W.n0 + 1) ∧ s 3 = upd (σ 3) W.n0 x ∧ pi_fr [2, 3] s σ) := by
  have hk := hc.p.wk
  have hnd8 := hk.wd.nd8
  have hns12 := hk.wd.ns12
  have hn60 := hk.nine
  have hnf := hk.nf
  have hnw := hk.nw
  have hnc := hk.nc
  have hn08 := hk.wd.n0
  have hn140 := hk.wd.n1
  refine pi_go 2 (pc' := 4) (l' := [some (.ref 2), some (.int x)]) (st' := [.int (σ 2 2)]) (σ' := σ) (fun f => rfl) ?_
  refine pi_tp (y := nI W.n0) (hc.p.n0) ?_
  refine pi_cf 1 (c := nI W.n0 < 0) (pc' := 7) (l' := [some (.ref 2), some (.int x)]) (st' := []) (σ' := σ) (pc2 := 18) (l2 := [some (.ref 2), some (.int x)]) (st2 := []) (σ2 := σ) (fun f => rfl) (z_ltz (by omega)) ?_
  refine pi_go 2 (pc' := 11) (l' := [some (.ref 2), some (.int x)]) (st' := [.int (σ 2 2)]) (σ' := σ) (fun f => rfl) ?_
  refine pi_tp (y := nI W.n0) (hc.p.n0) ?_
  refine pi_go 2 (pc' := 15) (l' := [some (.ref 2), some (.int x)]) (st' := [.int (σ 2 1), .int (nI W.n0)]) (σ' := σ) (fun f => rfl) ?_
  refine pi_tp (y := nI 8) (hc.p.m0) ?_
  refine pi_ct 1 (c := nI W.n0 < nI 8) (pc' := 21) (l' := [some (.ref 2), some (.int x)]) (st' := []) (σ' := σ) (pc2 := 18) (l2 := [some (.ref 2), some (.int x)]) (st2 := []) (σ2 := σ) (fun f => rfl) ((nI_ltI (by omega) (by omega)).mpr hn) ?_
  refine pi_go 4 (pc' := 29) (l' := [some (.ref 2), some (.int x)]) (st' := [.int (σ 2 2), .ref 3]) (σ' := σ) (fun f => rfl) ?_
  refine pi_tp (y := nI W.n0) (hc.p.n0) ?_
  refine pi_au 2 (u := W.n0) (n := 40) (a := 3) (x := x) (pc' := 31) (l' := [some (.ref 2), some (.int x)]) (t := []) (σ' := σ) (fun f => rfl) (by omega) (by omega) ?_
  generalize es1 : pi_up σ 3 W.n0 x = s1
  refine pi_go 3 (pc' := 36) (l' := [some (.ref 2), some (.int x)]) (st' := [.int (s1 2 2), .ref 2]) (σ' := s1) (fun f => rfl) ?_
  refine pi_tp (y := nI W.n0) ((congrFun ((congrFun es1 2).symm.trans (pi_up_ne _ _ _ (by decide))) 2).trans (hc.p.n0)) ?_
  refine pi_go 2 (pc' := 38) (l' := [some (.ref 2), some (.int x)]) (st' := [.int (nI W.n0 + nI 1), .ref 2]) (σ' := s1) (fun f => rfl) ?_
  refine pi_tp (y := nI (W.n0 + 1)) (nI_add _ _) ?_
  refine pi_go 1 (pc' := 41) (l' := [some (.ref 2), some (.int x)]) (st' := []) (σ' := (pi_up s1 2 2 (nI (W.n0 + 1)))) (fun f => rfl) ?_
  generalize es2 : pi_up s1 2 2 (nI (W.n0 + 1)) = s2
  refine pi_go 2 (pc' := 45) (l' := [some (.ref 2), some (.int x)]) (st' := [.int (s2 2 2)]) (σ' := s2) (fun f => rfl) ?_
  refine pi_tp (y := nI (W.n0 + 1)) ((congrFun (congrFun es2 2) 2).symm.trans (pi_up_ss _ _ _ _)) ?_
  refine pi_rt 1 (v := some (.int (nI (W.n0 + 1)))) (σ' := s2) (fun f => rfl) ?_
  exact ⟨rfl, (congrFun (congrFun es2 2) 1).symm.trans ((pi_up_sn _ _ _ (by decide)).trans ((congrFun ((congrFun es1 2).symm.trans (pi_up_ne _ _ _ (by decide))) 1).trans (rfl))), (congrFun (congrFun es2 2) 2).symm.trans (pi_up_ss _ _ _ _), (congrFun es2 3).symm.trans ((pi_up_ne _ _ _ (by decide)).trans ((congrFun es1 3).symm.trans ((pi_up_self _ _ _ _)))), pi_fr_of es2 (by decide) (pi_fr_of es1 (by decide) (pi_fr_rf))⟩
set_option maxRecDepth 20000 in
theorem pi_C_tapp0_full {xs : Nat → Int32} {L d : Nat} {W : zW} {σ : pi_S} (hc : z_CK W σ) (x : Int32) (hn : W.n0 = 8)  : pi_wp xs L d 43 0 [some (.ref 2), some (.int x)] [] σ (fun v s => v = some (.int (-4)) ∧ σ = s) := by
  have hk := hc.p.wk
  have hnd8 := hk.wd.nd8
  have hns12 := hk.wd.ns12
  have hn60 := hk.nine
  have hnf := hk.nf
  have hnw := hk.nw
  have hnc := hk.nc
  have hn08 := hk.wd.n0
  have hn140 := hk.wd.n1
  refine pi_go 2 (pc' := 4) (l' := [some (.ref 2), some (.int x)]) (st' := [.int (σ 2 2)]) (σ' := σ) (fun f => rfl) ?_
  refine pi_tp (y := nI W.n0) (hc.p.n0) ?_
  refine pi_cf 1 (c := nI W.n0 < 0) (pc' := 7) (l' := [some (.ref 2), some (.int x)]) (st' := []) (σ' := σ) (pc2 := 18) (l2 := [some (.ref 2), some (.int x)]) (st2 := []) (σ2 := σ) (fun f => rfl) (z_ltz (by omega)) ?_
  refine pi_go 2 (pc' := 11) (l' := [some (.ref 2), some (.int x)]) (st' := [.int (σ 2 2)]) (σ' := σ) (fun f => rfl) ?_
  refine pi_tp (y := nI W.n0) (hc.p.n0) ?_
  refine pi_go 2 (pc' := 15) (l' := [some (.ref 2), some (.int x)]) (st' := [.int (σ 2 1), .int (nI W.n0)]) (σ' := σ) (fun f => rfl) ?_
  refine pi_tp (y := nI 8) (hc.p.m0) ?_
  refine pi_cf 1 (c := nI W.n0 < nI 8) (pc' := 18) (l' := [some (.ref 2), some (.int x)]) (st' := []) (σ' := σ) (pc2 := 21) (l2 := [some (.ref 2), some (.int x)]) (st2 := []) (σ2 := σ) (fun f => rfl) (fun q => absurd ((nI_ltI (by omega) (by omega)).mp q) (by omega)) ?_
  refine pi_rt 2 (v := some (.int (-4))) (σ' := σ) (fun f => rfl) ?_
  exact ⟨rfl, rfl⟩
set_option maxRecDepth 20000 in
theorem pi_C_temp0 {xs : Nat → Int32} {L d : Nat} {W : zW} {σ : pi_S} (hc : z_CK W σ)  : pi_wp xs L d 44 0 [some (.ref 2), none] [] σ (fun v s => v = some (.int (nI W.n0)) ∧ s 2 1 = σ 2 1 ∧ s 2 2 = nI 0 ∧ pi_fr [2] s σ) := by
  have hk := hc.p.wk
  have hnd8 := hk.wd.nd8
  have hns12 := hk.wd.ns12
  have hn60 := hk.nine
  have hnf := hk.nf
  have hnw := hk.nw
  have hnc := hk.nc
  have hn08 := hk.wd.n0
  have hn140 := hk.wd.n1
  refine pi_go 2 (pc' := 4) (l' := [some (.ref 2), none]) (st' := [.int (σ 2 2)]) (σ' := σ) (fun f => rfl) ?_
  refine pi_tp (y := nI W.n0) (hc.p.n0) ?_
  refine pi_go 4 (pc' := 10) (l' := [some (.ref 2), some (.int (nI W.n0))]) (st' := []) (σ' := (pi_up σ 2 2 (nI 0))) (fun f => rfl) ?_
  generalize es1 : pi_up σ 2 2 (nI 0) = s1
  refine pi_rt 2 (v := some (.int (nI W.n0))) (σ' := s1) (fun f => rfl) ?_
  exact ⟨rfl, (congrFun (congrFun es1 2) 1).symm.trans ((pi_up_sn _ _ _ (by decide)).trans (rfl)), (congrFun (congrFun es1 2) 2).symm.trans (pi_up_ss _ _ _ _), pi_fr_of es1 (by decide) (pi_fr_rf)⟩
set_option maxRecDepth 20000 in
theorem pi_C_textOf1 {xs : Nat → Int32} {L d : Nat} {σ : pi_S}  : pi_wp xs L d 47 0 [some (.ref 1), some (.int (nI 1))] [] σ (fun v s => v = some (.ref 4) ∧ σ = s) := by
  refine pi_cf 2 (c := nI 1 = 0) (pc' := 11) (l' := [some (.ref 1), some (.int (nI 1))]) (st' := []) (σ' := σ) (pc2 := 4) (l2 := [some (.ref 1), some (.int (nI 1))]) (st2 := []) (σ2 := σ) (fun f => rfl) (by decide) ?_
  refine pi_rt 3 (v := some (.ref 4)) (σ' := σ) (fun f => rfl) ?_
  exact ⟨rfl, rfl⟩
set_option maxRecDepth 20000 in
theorem pi_C_tapp1 {xs : Nat → Int32} {L d : Nat} {W : zW} {σ : pi_S} (hc : z_CK W σ) (x : Int32) (hn : W.n1 < 40)  : pi_wp xs L d 43 0 [some (.ref 4), some (.int x)] [] σ (fun v s => v = some (.int (nI (W.n1 + 1))) ∧ s 4 1 = σ 4 1 ∧ s 4 2 = nI (W.n1 + 1) ∧ s 5 = upd (σ 5) W.n1 x ∧ pi_fr [4, 5] s σ) := by
  have hk := hc.p.wk
  have hnd8 := hk.wd.nd8
  have hns12 := hk.wd.ns12
  have hn60 := hk.nine
  have hnf := hk.nf
  have hnw := hk.nw
  have hnc := hk.nc
  have hn08 := hk.wd.n0
  have hn140 := hk.wd.n1
  refine pi_go 2 (pc' := 4) (l' := [some (.ref 4), some (.int x)]) (st' := [.int (σ 4 2)]) (σ' := σ) (fun f => rfl) ?_
  refine pi_tp (y := nI W.n1) (hc.p.n1) ?_
  refine pi_cf 1 (c := nI W.n1 < 0) (pc' := 7) (l' := [some (.ref 4), some (.int x)]) (st' := []) (σ' := σ) (pc2 := 18) (l2 := [some (.ref 4), some (.int x)]) (st2 := []) (σ2 := σ) (fun f => rfl) (z_ltz (by omega)) ?_
  refine pi_go 2 (pc' := 11) (l' := [some (.ref 4), some (.int x)]) (st' := [.int (σ 4 2)]) (σ' := σ) (fun f => rfl) ?_
  refine pi_tp (y := nI W.n1) (hc.p.n1) ?_
  refine pi_go 2 (pc' := 15) (l' := [some (.ref 4), some (.int x)]) (st' := [.int (σ 4 1), .int (nI W.n1)]) (σ' := σ) (fun f => rfl) ?_
  refine pi_tp (y := nI 40) (hc.p.m1) ?_
  refine pi_ct 1 (c := nI W.n1 < nI 40) (pc' := 21) (l' := [some (.ref 4), some (.int x)]) (st' := []) (σ' := σ) (pc2 := 18) (l2 := [some (.ref 4), some (.int x)]) (st2 := []) (σ2 := σ) (fun f => rfl) ((nI_ltI (by omega) (by omega)).mpr hn) ?_
  refine pi_go 4 (pc' := 29) (l' := [some (.ref 4), some (.int x)]) (st' := [.int (σ 4 2), .ref 5]) (σ' := σ) (fun f => rfl) ?_
  refine pi_tp (y := nI W.n1) (hc.p.n1) ?_
  refine pi_au 2 (u := W.n1) (n := 40) (a := 5) (x := x) (pc' := 31) (l' := [some (.ref 4), some (.int x)]) (t := []) (σ' := σ) (fun f => rfl) (by omega) (by omega) ?_
  generalize es1 : pi_up σ 5 W.n1 x = s1
  refine pi_go 3 (pc' := 36) (l' := [some (.ref 4), some (.int x)]) (st' := [.int (s1 4 2), .ref 4]) (σ' := s1) (fun f => rfl) ?_
  refine pi_tp (y := nI W.n1) ((congrFun ((congrFun es1 4).symm.trans (pi_up_ne _ _ _ (by decide))) 2).trans (hc.p.n1)) ?_
  refine pi_go 2 (pc' := 38) (l' := [some (.ref 4), some (.int x)]) (st' := [.int (nI W.n1 + nI 1), .ref 4]) (σ' := s1) (fun f => rfl) ?_
  refine pi_tp (y := nI (W.n1 + 1)) (nI_add _ _) ?_
  refine pi_go 1 (pc' := 41) (l' := [some (.ref 4), some (.int x)]) (st' := []) (σ' := (pi_up s1 4 2 (nI (W.n1 + 1)))) (fun f => rfl) ?_
  generalize es2 : pi_up s1 4 2 (nI (W.n1 + 1)) = s2
  refine pi_go 2 (pc' := 45) (l' := [some (.ref 4), some (.int x)]) (st' := [.int (s2 4 2)]) (σ' := s2) (fun f => rfl) ?_
  refine pi_tp (y := nI (W.n1 + 1)) ((congrFun (congrFun es2 4) 2).symm.trans (pi_up_ss _ _ _ _)) ?_
  refine pi_rt 1 (v := some (.int (nI (W.n1 + 1)))) (σ' := s2) (fun f => rfl) ?_
  exact ⟨rfl, (congrFun (congrFun es2 4) 1).symm.trans ((pi_up_sn _ _ _ (by decide)).trans ((congrFun ((congrFun es1 4).symm.trans (pi_up_ne _ _ _ (by decide))) 1).trans (rfl))), (congrFun (congrFun es2 4) 2).symm.trans (pi_up_ss _ _ _ _), (congrFun es2 5).symm.trans ((pi_up_ne _ _ _ (by decide)).trans ((congrFun es1 5).symm.trans ((pi_up_self _ _ _ _)))), pi_fr_of es2 (by decide) (pi_fr_of es1 (by decide) (pi_fr_rf))⟩
set_option maxRecDepth 20000 in
theorem pi_C_tapp1_full {xs : Nat → Int32} {L d : Nat} {W : zW} {σ : pi_S} (hc : z_CK W σ) (x : Int32) (hn : W.n1 = 40)  : pi_wp xs L d 43 0 [some (.ref 4), some (.int x)] [] σ (fun v s => v = some (.int (-4)) ∧ σ = s) := by
  have hk := hc.p.wk
  have hnd8 := hk.wd.nd8
  have hns12 := hk.wd.ns12
  have hn60 := hk.nine
  have hnf := hk.nf
  have hnw := hk.nw
  have hnc := hk.nc
  have hn08 := hk.wd.n0
  have hn140 := hk.wd.n1
  refine pi_go 2 (pc' := 4) (l' := [some (.ref 4), some (.int x)]) (st' := [.int (σ 4 2)]) (σ' := σ) (fun f => rfl) ?_
  refine pi_tp (y := nI W.n1) (hc.p.n1) ?_
  refine pi_cf 1 (c := nI W.n1 < 0) (pc' := 7) (l' := [some (.ref 4), some (.int x)]) (st' := []) (σ' := σ) (pc2 := 18) (l2 := [some (.ref 4), some (.int x)]) (st2 := []) (σ2 := σ) (fun f => rfl) (z_ltz (by omega)) ?_
  refine pi_go 2 (pc' := 11) (l' := [some (.ref 4), some (.int x)]) (st' := [.int (σ 4 2)]) (σ' := σ) (fun f => rfl) ?_
  refine pi_tp (y := nI W.n1) (hc.p.n1) ?_
  refine pi_go 2 (pc' := 15) (l' := [some (.ref 4), some (.int x)]) (st' := [.int (σ 4 1), .int (nI W.n1)]) (σ' := σ) (fun f => rfl) ?_
  refine pi_tp (y := nI 40) (hc.p.m1) ?_
  refine pi_cf 1 (c := nI W.n1 < nI 40) (pc' := 18) (l' := [some (.ref 4), some (.int x)]) (st' := []) (σ' := σ) (pc2 := 21) (l2 := [some (.ref 4), some (.int x)]) (st2 := []) (σ2 := σ) (fun f => rfl) (fun q => absurd ((nI_ltI (by omega) (by omega)).mp q) (by omega)) ?_
  refine pi_rt 2 (v := some (.int (-4))) (σ' := σ) (fun f => rfl) ?_
  exact ⟨rfl, rfl⟩
set_option maxRecDepth 20000 in
theorem pi_C_temp1 {xs : Nat → Int32} {L d : Nat} {W : zW} {σ : pi_S} (hc : z_CK W σ)  : pi_wp xs L d 44 0 [some (.ref 4), none] [] σ (fun v s => v = some (.int (nI W.n1)) ∧ s 4 1 = σ 4 1 ∧ s 4 2 = nI 0 ∧ pi_fr [4] s σ) := by
  have hk := hc.p.wk
  have hnd8 := hk.wd.nd8
  have hns12 := hk.wd.ns12
  have hn60 := hk.nine
  have hnf := hk.nf
  have hnw := hk.nw
  have hnc := hk.nc
  have hn08 := hk.wd.n0
  have hn140 := hk.wd.n1
  refine pi_go 2 (pc' := 4) (l' := [some (.ref 4), none]) (st' := [.int (σ 4 2)]) (σ' := σ) (fun f => rfl) ?_
  refine pi_tp (y := nI W.n1) (hc.p.n1) ?_
  refine pi_go 4 (pc' := 10) (l' := [some (.ref 4), some (.int (nI W.n1))]) (st' := []) (σ' := (pi_up σ 4 2 (nI 0))) (fun f => rfl) ?_
  generalize es1 : pi_up σ 4 2 (nI 0) = s1
  refine pi_rt 2 (v := some (.int (nI W.n1))) (σ' := s1) (fun f => rfl) ?_
  exact ⟨rfl, (congrFun (congrFun es1 4) 1).symm.trans ((pi_up_sn _ _ _ (by decide)).trans (rfl)), (congrFun (congrFun es1 4) 2).symm.trans (pi_up_ss _ _ _ _), pi_fr_of es1 (by decide) (pi_fr_rf)⟩
set_option maxRecDepth 20000 in
theorem pi_C_appf {xs : Nat → Int32} {L d : Nat} {W : zW} {σ : pi_S} (hc : z_CK W σ) (a b c e : Int32) (hn : W.nf < 20)  : pi_wp xs L d 1 0 [some (.ref 17), some (.int a), some (.int b), some (.int c), some (.int e)] [] σ (fun v s => v = some (.int (nI (W.nf + 1))) ∧ s 17 4 = σ 17 4 ∧ s 17 5 = nI (W.nf + 1) ∧ s 18 = upd (σ 18) W.nf a ∧ s 19 = upd (σ 19) W.nf b ∧ s 20 = upd (σ 20) W.nf c ∧ s 21 = upd (σ 21) W.nf e ∧ pi_fr [17, 18, 19, 20, 21] s σ) := by
  have hk := hc.p.wk
  have hnd8 := hk.wd.nd8
  have hns12 := hk.wd.ns12
  have hn60 := hk.nine
  have hnf := hk.nf
  have hnw := hk.nw
  have hnc := hk.nc
  have hn08 := hk.wd.n0
  have hn140 := hk.wd.n1
  refine pi_go 2 (pc' := 4) (l' := [some (.ref 17), some (.int a), some (.int b), some (.int c), some (.int e)]) (st' := [.int (σ 17 5)]) (σ' := σ) (fun f => rfl) ?_
  refine pi_tp (y := nI W.nf) (hc.p.nf) ?_
  refine pi_cf 1 (c := nI W.nf < 0) (pc' := 7) (l' := [some (.ref 17), some (.int a), some (.int b), some (.int c), some (.int e)]) (st' := []) (σ' := σ) (pc2 := 18) (l2 := [some (.ref 17), some (.int a), some (.int b), some (.int c), some (.int e)]) (st2 := []) (σ2 := σ) (fun f => rfl) (z_ltz (by omega)) ?_
  refine pi_go 2 (pc' := 11) (l' := [some (.ref 17), some (.int a), some (.int b), some (.int c), some (.int e)]) (st' := [.int (σ 17 5)]) (σ' := σ) (fun f => rfl) ?_
  refine pi_tp (y := nI W.nf) (hc.p.nf) ?_
  refine pi_go 2 (pc' := 15) (l' := [some (.ref 17), some (.int a), some (.int b), some (.int c), some (.int e)]) (st' := [.int (σ 17 4), .int (nI W.nf)]) (σ' := σ) (fun f => rfl) ?_
  refine pi_tp (y := nI 20) (hc.p.mf) ?_
  refine pi_ct 1 (c := nI W.nf < nI 20) (pc' := 21) (l' := [some (.ref 17), some (.int a), some (.int b), some (.int c), some (.int e)]) (st' := []) (σ' := σ) (pc2 := 18) (l2 := [some (.ref 17), some (.int a), some (.int b), some (.int c), some (.int e)]) (st2 := []) (σ2 := σ) (fun f => rfl) ((nI_ltI (by omega) (by omega)).mpr hn) ?_
  refine pi_go 4 (pc' := 29) (l' := [some (.ref 17), some (.int a), some (.int b), some (.int c), some (.int e)]) (st' := [.int (σ 17 5), .ref 18]) (σ' := σ) (fun f => rfl) ?_
  refine pi_tp (y := nI W.nf) (hc.p.nf) ?_
  refine pi_au 2 (u := W.nf) (n := 24) (a := 18) (x := a) (pc' := 31) (l' := [some (.ref 17), some (.int a), some (.int b), some (.int c), some (.int e)]) (t := []) (σ' := σ) (fun f => rfl) (by omega) (by omega) ?_
  generalize es1 : pi_up σ 18 W.nf a = s1
  refine pi_go 4 (pc' := 39) (l' := [some (.ref 17), some (.int a), some (.int b), some (.int c), some (.int e)]) (st' := [.int (s1 17 5), .ref 19]) (σ' := s1) (fun f => rfl) ?_
  refine pi_tp (y := nI W.nf) ((congrFun ((congrFun es1 17).symm.trans (pi_up_ne _ _ _ (by decide))) 5).trans (hc.p.nf)) ?_
  refine pi_au 2 (u := W.nf) (n := 24) (a := 19) (x := b) (pc' := 41) (l' := [some (.ref 17), some (.int a), some (.int b), some (.int c), some (.int e)]) (t := []) (σ' := s1) (fun f => rfl) (by omega) (by omega) ?_
  generalize es2 : pi_up s1 19 W.nf b = s2
  refine pi_go 4 (pc' := 49) (l' := [some (.ref 17), some (.int a), some (.int b), some (.int c), some (.int e)]) (st' := [.int (s2 17 5), .ref 20]) (σ' := s2) (fun f => rfl) ?_
  refine pi_tp (y := nI W.nf) ((congrFun ((congrFun es2 17).symm.trans (pi_up_ne _ _ _ (by decide))) 5).trans ((congrFun ((congrFun es1 17).symm.trans (pi_up_ne _ _ _ (by decide))) 5).trans (hc.p.nf))) ?_
  refine pi_au 2 (u := W.nf) (n := 24) (a := 20) (x := c) (pc' := 51) (l' := [some (.ref 17), some (.int a), some (.int b), some (.int c), some (.int e)]) (t := []) (σ' := s2) (fun f => rfl) (by omega) (by omega) ?_
  generalize es3 : pi_up s2 20 W.nf c = s3
  refine pi_go 4 (pc' := 59) (l' := [some (.ref 17), some (.int a), some (.int b), some (.int c), some (.int e)]) (st' := [.int (s3 17 5), .ref 21]) (σ' := s3) (fun f => rfl) ?_
  refine pi_tp (y := nI W.nf) ((congrFun ((congrFun es3 17).symm.trans (pi_up_ne _ _ _ (by decide))) 5).trans ((congrFun ((congrFun es2 17).symm.trans (pi_up_ne _ _ _ (by decide))) 5).trans ((congrFun ((congrFun es1 17).symm.trans (pi_up_ne _ _ _ (by decide))) 5).trans (hc.p.nf)))) ?_
  refine pi_au 2 (u := W.nf) (n := 24) (a := 21) (x := e) (pc' := 62) (l' := [some (.ref 17), some (.int a), some (.int b), some (.int c), some (.int e)]) (t := []) (σ' := s3) (fun f => rfl) (by omega) (by omega) ?_
  generalize es4 : pi_up s3 21 W.nf e = s4
  refine pi_go 3 (pc' := 67) (l' := [some (.ref 17), some (.int a), some (.int b), some (.int c), some (.int e)]) (st' := [.int (s4 17 5), .ref 17]) (σ' := s4) (fun f => rfl) ?_
  refine pi_tp (y := nI W.nf) ((congrFun ((congrFun es4 17).symm.trans (pi_up_ne _ _ _ (by decide))) 5).trans ((congrFun ((congrFun es3 17).symm.trans (pi_up_ne _ _ _ (by decide))) 5).trans ((congrFun ((congrFun es2 17).symm.trans (pi_up_ne _ _ _ (by decide))) 5).trans ((congrFun ((congrFun es1 17).symm.trans (pi_up_ne _ _ _ (by decide))) 5).trans (hc.p.nf))))) ?_
  refine pi_go 2 (pc' := 69) (l' := [some (.ref 17), some (.int a), some (.int b), some (.int c), some (.int e)]) (st' := [.int (nI W.nf + nI 1), .ref 17]) (σ' := s4) (fun f => rfl) ?_
  refine pi_tp (y := nI (W.nf + 1)) (nI_add _ _) ?_
  refine pi_go 1 (pc' := 72) (l' := [some (.ref 17), some (.int a), some (.int b), some (.int c), some (.int e)]) (st' := []) (σ' := (pi_up s4 17 5 (nI (W.nf + 1)))) (fun f => rfl) ?_
  generalize es5 : pi_up s4 17 5 (nI (W.nf + 1)) = s5
  refine pi_go 2 (pc' := 76) (l' := [some (.ref 17), some (.int a), some (.int b), some (.int c), some (.int e)]) (st' := [.int (s5 17 5)]) (σ' := s5) (fun f => rfl) ?_
  refine pi_tp (y := nI (W.nf + 1)) ((congrFun (congrFun es5 17) 5).symm.trans (pi_up_ss _ _ _ _)) ?_
  refine pi_rt 1 (v := some (.int (nI (W.nf + 1)))) (σ' := s5) (fun f => rfl) ?_
  exact ⟨rfl, (congrFun (congrFun es5 17) 4).symm.trans ((pi_up_sn _ _ _ (by decide)).trans ((congrFun ((congrFun es4 17).symm.trans (pi_up_ne _ _ _ (by decide))) 4).trans ((congrFun ((congrFun es3 17).symm.trans (pi_up_ne _ _ _ (by decide))) 4).trans ((congrFun ((congrFun es2 17).symm.trans (pi_up_ne _ _ _ (by decide))) 4).trans ((congrFun ((congrFun es1 17).symm.trans (pi_up_ne _ _ _ (by decide))) 4).trans (rfl)))))), (congrFun (congrFun es5 17) 5).symm.trans (pi_up_ss _ _ _ _), (congrFun es5 18).symm.trans ((pi_up_ne _ _ _ (by decide)).trans ((congrFun es4 18).symm.trans ((pi_up_ne _ _ _ (by decide)).trans ((congrFun es3 18).symm.trans ((pi_up_ne _ _ _ (by decide)).trans ((congrFun es2 18).symm.trans ((pi_up_ne _ _ _ (by decide)).trans ((congrFun es1 18).symm.trans ((pi_up_self _ _ _ _)))))))))), (congrFun es5 19).symm.trans ((pi_up_ne _ _ _ (by decide)).trans ((congrFun es4 19).symm.trans ((pi_up_ne _ _ _ (by decide)).trans ((congrFun es3 19).symm.trans ((pi_up_ne _ _ _ (by decide)).trans ((congrFun es2 19).symm.trans ((pi_up_self _ _ _ _).trans (congrArg (fun z => upd z W.nf b) ((congrFun es1 19).symm.trans ((pi_up_ne _ _ _ (by decide)))))))))))), (congrFun es5 20).symm.trans ((pi_up_ne _ _ _ (by decide)).trans ((congrFun es4 20).symm.trans ((pi_up_ne _ _ _ (by decide)).trans ((congrFun es3 20).symm.trans ((pi_up_self _ _ _ _).trans (congrArg (fun z => upd z W.nf c) ((congrFun es2 20).symm.trans ((pi_up_ne _ _ _ (by decide)).trans ((congrFun es1 20).symm.trans ((pi_up_ne _ _ _ (by decide)))))))))))), (congrFun es5 21).symm.trans ((pi_up_ne _ _ _ (by decide)).trans ((congrFun es4 21).symm.trans ((pi_up_self _ _ _ _).trans (congrArg (fun z => upd z W.nf e) ((congrFun es3 21).symm.trans ((pi_up_ne _ _ _ (by decide)).trans ((congrFun es2 21).symm.trans ((pi_up_ne _ _ _ (by decide)).trans ((congrFun es1 21).symm.trans ((pi_up_ne _ _ _ (by decide)))))))))))), pi_fr_of es5 (by decide) (pi_fr_of es4 (by decide) (pi_fr_of es3 (by decide) (pi_fr_of es2 (by decide) (pi_fr_of es1 (by decide) (pi_fr_rf)))))⟩
set_option maxRecDepth 20000 in
theorem pi_C_appf_full {xs : Nat → Int32} {L d : Nat} {W : zW} {σ : pi_S} (hc : z_CK W σ) (a b c e : Int32) (hn : W.nf = 20)  : pi_wp xs L d 1 0 [some (.ref 17), some (.int a), some (.int b), some (.int c), some (.int e)] [] σ (fun v s => v = some (.int (-4)) ∧ σ = s) := by
  have hk := hc.p.wk
  have hnd8 := hk.wd.nd8
  have hns12 := hk.wd.ns12
  have hn60 := hk.nine
  have hnf := hk.nf
  have hnw := hk.nw
  have hnc := hk.nc
  have hn08 := hk.wd.n0
  have hn140 := hk.wd.n1
  refine pi_go 2 (pc' := 4) (l' := [some (.ref 17), some (.int a), some (.int b), some (.int c), some (.int e)]) (st' := [.int (σ 17 5)]) (σ' := σ) (fun f => rfl) ?_
  refine pi_tp (y := nI W.nf) (hc.p.nf) ?_
  refine pi_cf 1 (c := nI W.nf < 0) (pc' := 7) (l' := [some (.ref 17), some (.int a), some (.int b), some (.int c), some (.int e)]) (st' := []) (σ' := σ) (pc2 := 18) (l2 := [some (.ref 17), some (.int a), some (.int b), some (.int c), some (.int e)]) (st2 := []) (σ2 := σ) (fun f => rfl) (z_ltz (by omega)) ?_
  refine pi_go 2 (pc' := 11) (l' := [some (.ref 17), some (.int a), some (.int b), some (.int c), some (.int e)]) (st' := [.int (σ 17 5)]) (σ' := σ) (fun f => rfl) ?_
  refine pi_tp (y := nI W.nf) (hc.p.nf) ?_
  refine pi_go 2 (pc' := 15) (l' := [some (.ref 17), some (.int a), some (.int b), some (.int c), some (.int e)]) (st' := [.int (σ 17 4), .int (nI W.nf)]) (σ' := σ) (fun f => rfl) ?_
  refine pi_tp (y := nI 20) (hc.p.mf) ?_
  refine pi_cf 1 (c := nI W.nf < nI 20) (pc' := 18) (l' := [some (.ref 17), some (.int a), some (.int b), some (.int c), some (.int e)]) (st' := []) (σ' := σ) (pc2 := 21) (l2 := [some (.ref 17), some (.int a), some (.int b), some (.int c), some (.int e)]) (st2 := []) (σ2 := σ) (fun f => rfl) (fun q => absurd ((nI_ltI (by omega) (by omega)).mp q) (by omega)) ?_
  refine pi_rt 2 (v := some (.int (-4))) (σ' := σ) (fun f => rfl) ?_
  exact ⟨rfl, rfl⟩
set_option maxRecDepth 20000 in
theorem pi_C_dropf {xs : Nat → Int32} {L d : Nat} {W : zW} {σ : pi_S} (hc : z_CK W σ) (hn : ¬ W.nf = 0)  : pi_wp xs L d 2 0 [some (.ref 17)] [] σ (fun v s => v = some (.int (nI (W.nf - 1))) ∧ s 17 4 = σ 17 4 ∧ s 17 5 = nI (W.nf - 1) ∧ pi_fr [17] s σ) := by
  have hk := hc.p.wk
  have hnd8 := hk.wd.nd8
  have hns12 := hk.wd.ns12
  have hn60 := hk.nine
  have hnf := hk.nf
  have hnw := hk.nw
  have hnc := hk.nc
  have hn08 := hk.wd.n0
  have hn140 := hk.wd.n1
  refine pi_go 2 (pc' := 4) (l' := [some (.ref 17)]) (st' := [.int (σ 17 5)]) (σ' := σ) (fun f => rfl) ?_
  refine pi_tp (y := nI W.nf) (hc.p.nf) ?_
  refine pi_cf 1 (c := nI W.nf = 0) (pc' := 10) (l' := [some (.ref 17)]) (st' := []) (σ' := σ) (pc2 := 7) (l2 := [some (.ref 17)]) (st2 := []) (σ2 := σ) (fun f => rfl) (fun q => hn ((nI_eq (by omega) (by omega)).mp q)) ?_
  refine pi_go 3 (pc' := 15) (l' := [some (.ref 17)]) (st' := [.int (σ 17 5), .ref 17]) (σ' := σ) (fun f => rfl) ?_
  refine pi_tp (y := nI W.nf) (hc.p.nf) ?_
  refine pi_go 3 (pc' := 20) (l' := [some (.ref 17)]) (st' := []) (σ' := (pi_up σ 17 5 ((nI W.nf) - (nI 1)))) (fun f => rfl) ?_
  generalize es1 : pi_up σ 17 5 ((nI W.nf) - (nI 1)) = s1
  refine pi_go 2 (pc' := 24) (l' := [some (.ref 17)]) (st' := [.int (s1 17 5)]) (σ' := s1) (fun f => rfl) ?_
  refine pi_tp (y := (nI W.nf) - (nI 1)) ((congrFun (congrFun es1 17) 5).symm.trans (pi_up_ss _ _ _ _)) ?_
  refine pi_rt 1 (v := some (.int ((nI W.nf) - (nI 1)))) (σ' := s1) (fun f => rfl) ?_
  exact ⟨congrArg (fun z => some (Value.int z)) (z_sub1 hn), (congrFun (congrFun es1 17) 4).symm.trans ((pi_up_sn _ _ _ (by decide)).trans (rfl)), ((congrFun (congrFun es1 17) 5).symm.trans (pi_up_ss _ _ _ _)).trans (z_sub1 hn), pi_fr_of es1 (by decide) (pi_fr_rf)⟩
set_option maxRecDepth 20000 in
theorem pi_C_dropf_no {xs : Nat → Int32} {L d : Nat} {W : zW} {σ : pi_S} (hc : z_CK W σ) (hn : W.nf = 0)  : pi_wp xs L d 2 0 [some (.ref 17)] [] σ (fun v s => v = some (.int (-3)) ∧ σ = s) := by
  have hk := hc.p.wk
  have hnd8 := hk.wd.nd8
  have hns12 := hk.wd.ns12
  have hn60 := hk.nine
  have hnf := hk.nf
  have hnw := hk.nw
  have hnc := hk.nc
  have hn08 := hk.wd.n0
  have hn140 := hk.wd.n1
  refine pi_go 2 (pc' := 4) (l' := [some (.ref 17)]) (st' := [.int (σ 17 5)]) (σ' := σ) (fun f => rfl) ?_
  refine pi_tp (y := nI W.nf) (hc.p.nf) ?_
  refine pi_ct 1 (c := nI W.nf = 0) (pc' := 7) (l' := [some (.ref 17)]) (st' := []) (σ' := σ) (pc2 := 10) (l2 := [some (.ref 17)]) (st2 := []) (σ2 := σ) (fun f => rfl) (congrArg nI hn) ?_
  refine pi_rt 2 (v := some (.int (-3))) (σ' := σ) (fun f => rfl) ?_
  exact ⟨rfl, rfl⟩
set_option maxRecDepth 20000 in
theorem pi_C_appw {xs : Nat → Int32} {L d : Nat} {W : zW} {σ : pi_S} (hc : z_CK W σ) (a b c e : Int32) (hn : W.nw < 24)  : pi_wp xs L d 1 0 [some (.ref 22), some (.int a), some (.int b), some (.int c), some (.int e)] [] σ (fun v s => v = some (.int (nI (W.nw + 1))) ∧ s 22 4 = σ 22 4 ∧ s 22 5 = nI (W.nw + 1) ∧ s 23 = upd (σ 23) W.nw a ∧ s 24 = upd (σ 24) W.nw b ∧ s 25 = upd (σ 25) W.nw c ∧ s 26 = upd (σ 26) W.nw e ∧ pi_fr [22, 23, 24, 25, 26] s σ) := by
  have hk := hc.p.wk
  have hnd8 := hk.wd.nd8
  have hns12 := hk.wd.ns12
  have hn60 := hk.nine
  have hnf := hk.nf
  have hnw := hk.nw
  have hnc := hk.nc
  have hn08 := hk.wd.n0
  have hn140 := hk.wd.n1
  refine pi_go 2 (pc' := 4) (l' := [some (.ref 22), some (.int a), some (.int b), some (.int c), some (.int e)]) (st' := [.int (σ 22 5)]) (σ' := σ) (fun f => rfl) ?_
  refine pi_tp (y := nI W.nw) (hc.p.nw) ?_
  refine pi_cf 1 (c := nI W.nw < 0) (pc' := 7) (l' := [some (.ref 22), some (.int a), some (.int b), some (.int c), some (.int e)]) (st' := []) (σ' := σ) (pc2 := 18) (l2 := [some (.ref 22), some (.int a), some (.int b), some (.int c), some (.int e)]) (st2 := []) (σ2 := σ) (fun f => rfl) (z_ltz (by omega)) ?_
  refine pi_go 2 (pc' := 11) (l' := [some (.ref 22), some (.int a), some (.int b), some (.int c), some (.int e)]) (st' := [.int (σ 22 5)]) (σ' := σ) (fun f => rfl) ?_
  refine pi_tp (y := nI W.nw) (hc.p.nw) ?_
  refine pi_go 2 (pc' := 15) (l' := [some (.ref 22), some (.int a), some (.int b), some (.int c), some (.int e)]) (st' := [.int (σ 22 4), .int (nI W.nw)]) (σ' := σ) (fun f => rfl) ?_
  refine pi_tp (y := nI 24) (hc.p.mw) ?_
  refine pi_ct 1 (c := nI W.nw < nI 24) (pc' := 21) (l' := [some (.ref 22), some (.int a), some (.int b), some (.int c), some (.int e)]) (st' := []) (σ' := σ) (pc2 := 18) (l2 := [some (.ref 22), some (.int a), some (.int b), some (.int c), some (.int e)]) (st2 := []) (σ2 := σ) (fun f => rfl) ((nI_ltI (by omega) (by omega)).mpr hn) ?_
  refine pi_go 4 (pc' := 29) (l' := [some (.ref 22), some (.int a), some (.int b), some (.int c), some (.int e)]) (st' := [.int (σ 22 5), .ref 23]) (σ' := σ) (fun f => rfl) ?_
  refine pi_tp (y := nI W.nw) (hc.p.nw) ?_
  refine pi_au 2 (u := W.nw) (n := 24) (a := 23) (x := a) (pc' := 31) (l' := [some (.ref 22), some (.int a), some (.int b), some (.int c), some (.int e)]) (t := []) (σ' := σ) (fun f => rfl) (by omega) (by omega) ?_
  generalize es1 : pi_up σ 23 W.nw a = s1
  refine pi_go 4 (pc' := 39) (l' := [some (.ref 22), some (.int a), some (.int b), some (.int c), some (.int e)]) (st' := [.int (s1 22 5), .ref 24]) (σ' := s1) (fun f => rfl) ?_
  refine pi_tp (y := nI W.nw) ((congrFun ((congrFun es1 22).symm.trans (pi_up_ne _ _ _ (by decide))) 5).trans (hc.p.nw)) ?_
  refine pi_au 2 (u := W.nw) (n := 24) (a := 24) (x := b) (pc' := 41) (l' := [some (.ref 22), some (.int a), some (.int b), some (.int c), some (.int e)]) (t := []) (σ' := s1) (fun f => rfl) (by omega) (by omega) ?_
  generalize es2 : pi_up s1 24 W.nw b = s2
  refine pi_go 4 (pc' := 49) (l' := [some (.ref 22), some (.int a), some (.int b), some (.int c), some (.int e)]) (st' := [.int (s2 22 5), .ref 25]) (σ' := s2) (fun f => rfl) ?_
  refine pi_tp (y := nI W.nw) ((congrFun ((congrFun es2 22).symm.trans (pi_up_ne _ _ _ (by decide))) 5).trans ((congrFun ((congrFun es1 22).symm.trans (pi_up_ne _ _ _ (by decide))) 5).trans (hc.p.nw))) ?_
  refine pi_au 2 (u := W.nw) (n := 24) (a := 25) (x := c) (pc' := 51) (l' := [some (.ref 22), some (.int a), some (.int b), some (.int c), some (.int e)]) (t := []) (σ' := s2) (fun f => rfl) (by omega) (by omega) ?_
  generalize es3 : pi_up s2 25 W.nw c = s3
  refine pi_go 4 (pc' := 59) (l' := [some (.ref 22), some (.int a), some (.int b), some (.int c), some (.int e)]) (st' := [.int (s3 22 5), .ref 26]) (σ' := s3) (fun f => rfl) ?_
  refine pi_tp (y := nI W.nw) ((congrFun ((congrFun es3 22).symm.trans (pi_up_ne _ _ _ (by decide))) 5).trans ((congrFun ((congrFun es2 22).symm.trans (pi_up_ne _ _ _ (by decide))) 5).trans ((congrFun ((congrFun es1 22).symm.trans (pi_up_ne _ _ _ (by decide))) 5).trans (hc.p.nw)))) ?_
  refine pi_au 2 (u := W.nw) (n := 24) (a := 26) (x := e) (pc' := 62) (l' := [some (.ref 22), some (.int a), some (.int b), some (.int c), some (.int e)]) (t := []) (σ' := s3) (fun f => rfl) (by omega) (by omega) ?_
  generalize es4 : pi_up s3 26 W.nw e = s4
  refine pi_go 3 (pc' := 67) (l' := [some (.ref 22), some (.int a), some (.int b), some (.int c), some (.int e)]) (st' := [.int (s4 22 5), .ref 22]) (σ' := s4) (fun f => rfl) ?_
  refine pi_tp (y := nI W.nw) ((congrFun ((congrFun es4 22).symm.trans (pi_up_ne _ _ _ (by decide))) 5).trans ((congrFun ((congrFun es3 22).symm.trans (pi_up_ne _ _ _ (by decide))) 5).trans ((congrFun ((congrFun es2 22).symm.trans (pi_up_ne _ _ _ (by decide))) 5).trans ((congrFun ((congrFun es1 22).symm.trans (pi_up_ne _ _ _ (by decide))) 5).trans (hc.p.nw))))) ?_
  refine pi_go 2 (pc' := 69) (l' := [some (.ref 22), some (.int a), some (.int b), some (.int c), some (.int e)]) (st' := [.int (nI W.nw + nI 1), .ref 22]) (σ' := s4) (fun f => rfl) ?_
  refine pi_tp (y := nI (W.nw + 1)) (nI_add _ _) ?_
  refine pi_go 1 (pc' := 72) (l' := [some (.ref 22), some (.int a), some (.int b), some (.int c), some (.int e)]) (st' := []) (σ' := (pi_up s4 22 5 (nI (W.nw + 1)))) (fun f => rfl) ?_
  generalize es5 : pi_up s4 22 5 (nI (W.nw + 1)) = s5
  refine pi_go 2 (pc' := 76) (l' := [some (.ref 22), some (.int a), some (.int b), some (.int c), some (.int e)]) (st' := [.int (s5 22 5)]) (σ' := s5) (fun f => rfl) ?_
  refine pi_tp (y := nI (W.nw + 1)) ((congrFun (congrFun es5 22) 5).symm.trans (pi_up_ss _ _ _ _)) ?_
  refine pi_rt 1 (v := some (.int (nI (W.nw + 1)))) (σ' := s5) (fun f => rfl) ?_
  exact ⟨rfl, (congrFun (congrFun es5 22) 4).symm.trans ((pi_up_sn _ _ _ (by decide)).trans ((congrFun ((congrFun es4 22).symm.trans (pi_up_ne _ _ _ (by decide))) 4).trans ((congrFun ((congrFun es3 22).symm.trans (pi_up_ne _ _ _ (by decide))) 4).trans ((congrFun ((congrFun es2 22).symm.trans (pi_up_ne _ _ _ (by decide))) 4).trans ((congrFun ((congrFun es1 22).symm.trans (pi_up_ne _ _ _ (by decide))) 4).trans (rfl)))))), (congrFun (congrFun es5 22) 5).symm.trans (pi_up_ss _ _ _ _), (congrFun es5 23).symm.trans ((pi_up_ne _ _ _ (by decide)).trans ((congrFun es4 23).symm.trans ((pi_up_ne _ _ _ (by decide)).trans ((congrFun es3 23).symm.trans ((pi_up_ne _ _ _ (by decide)).trans ((congrFun es2 23).symm.trans ((pi_up_ne _ _ _ (by decide)).trans ((congrFun es1 23).symm.trans ((pi_up_self _ _ _ _)))))))))), (congrFun es5 24).symm.trans ((pi_up_ne _ _ _ (by decide)).trans ((congrFun es4 24).symm.trans ((pi_up_ne _ _ _ (by decide)).trans ((congrFun es3 24).symm.trans ((pi_up_ne _ _ _ (by decide)).trans ((congrFun es2 24).symm.trans ((pi_up_self _ _ _ _).trans (congrArg (fun z => upd z W.nw b) ((congrFun es1 24).symm.trans ((pi_up_ne _ _ _ (by decide)))))))))))), (congrFun es5 25).symm.trans ((pi_up_ne _ _ _ (by decide)).trans ((congrFun es4 25).symm.trans ((pi_up_ne _ _ _ (by decide)).trans ((congrFun es3 25).symm.trans ((pi_up_self _ _ _ _).trans (congrArg (fun z => upd z W.nw c) ((congrFun es2 25).symm.trans ((pi_up_ne _ _ _ (by decide)).trans ((congrFun es1 25).symm.trans ((pi_up_ne _ _ _ (by decide)))))))))))), (congrFun es5 26).symm.trans ((pi_up_ne _ _ _ (by decide)).trans ((congrFun es4 26).symm.trans ((pi_up_self _ _ _ _).trans (congrArg (fun z => upd z W.nw e) ((congrFun es3 26).symm.trans ((pi_up_ne _ _ _ (by decide)).trans ((congrFun es2 26).symm.trans ((pi_up_ne _ _ _ (by decide)).trans ((congrFun es1 26).symm.trans ((pi_up_ne _ _ _ (by decide)))))))))))), pi_fr_of es5 (by decide) (pi_fr_of es4 (by decide) (pi_fr_of es3 (by decide) (pi_fr_of es2 (by decide) (pi_fr_of es1 (by decide) (pi_fr_rf)))))⟩
set_option maxRecDepth 20000 in
theorem pi_C_appw_full {xs : Nat → Int32} {L d : Nat} {W : zW} {σ : pi_S} (hc : z_CK W σ) (a b c e : Int32) (hn : W.nw = 24)  : pi_wp xs L d 1 0 [some (.ref 22), some (.int a), some (.int b), some (.int c), some (.int e)] [] σ (fun v s => v = some (.int (-4)) ∧ σ = s) := by
  have hk := hc.p.wk
  have hnd8 := hk.wd.nd8
  have hns12 := hk.wd.ns12
  have hn60 := hk.nine
  have hnf := hk.nf
  have hnw := hk.nw
  have hnc := hk.nc
  have hn08 := hk.wd.n0
  have hn140 := hk.wd.n1
  refine pi_go 2 (pc' := 4) (l' := [some (.ref 22), some (.int a), some (.int b), some (.int c), some (.int e)]) (st' := [.int (σ 22 5)]) (σ' := σ) (fun f => rfl) ?_
  refine pi_tp (y := nI W.nw) (hc.p.nw) ?_
  refine pi_cf 1 (c := nI W.nw < 0) (pc' := 7) (l' := [some (.ref 22), some (.int a), some (.int b), some (.int c), some (.int e)]) (st' := []) (σ' := σ) (pc2 := 18) (l2 := [some (.ref 22), some (.int a), some (.int b), some (.int c), some (.int e)]) (st2 := []) (σ2 := σ) (fun f => rfl) (z_ltz (by omega)) ?_
  refine pi_go 2 (pc' := 11) (l' := [some (.ref 22), some (.int a), some (.int b), some (.int c), some (.int e)]) (st' := [.int (σ 22 5)]) (σ' := σ) (fun f => rfl) ?_
  refine pi_tp (y := nI W.nw) (hc.p.nw) ?_
  refine pi_go 2 (pc' := 15) (l' := [some (.ref 22), some (.int a), some (.int b), some (.int c), some (.int e)]) (st' := [.int (σ 22 4), .int (nI W.nw)]) (σ' := σ) (fun f => rfl) ?_
  refine pi_tp (y := nI 24) (hc.p.mw) ?_
  refine pi_cf 1 (c := nI W.nw < nI 24) (pc' := 18) (l' := [some (.ref 22), some (.int a), some (.int b), some (.int c), some (.int e)]) (st' := []) (σ' := σ) (pc2 := 21) (l2 := [some (.ref 22), some (.int a), some (.int b), some (.int c), some (.int e)]) (st2 := []) (σ2 := σ) (fun f => rfl) (fun q => absurd ((nI_ltI (by omega) (by omega)).mp q) (by omega)) ?_
  refine pi_rt 2 (v := some (.int (-4))) (σ' := σ) (fun f => rfl) ?_
  exact ⟨rfl, rfl⟩
set_option maxRecDepth 20000 in
theorem pi_C_dropw {xs : Nat → Int32} {L d : Nat} {W : zW} {σ : pi_S} (hc : z_CK W σ) (hn : ¬ W.nw = 0)  : pi_wp xs L d 2 0 [some (.ref 22)] [] σ (fun v s => v = some (.int (nI (W.nw - 1))) ∧ s 22 4 = σ 22 4 ∧ s 22 5 = nI (W.nw - 1) ∧ pi_fr [22] s σ) := by
  have hk := hc.p.wk
  have hnd8 := hk.wd.nd8
  have hns12 := hk.wd.ns12
  have hn60 := hk.nine
  have hnf := hk.nf
  have hnw := hk.nw
  have hnc := hk.nc
  have hn08 := hk.wd.n0
  have hn140 := hk.wd.n1
  refine pi_go 2 (pc' := 4) (l' := [some (.ref 22)]) (st' := [.int (σ 22 5)]) (σ' := σ) (fun f => rfl) ?_
  refine pi_tp (y := nI W.nw) (hc.p.nw) ?_
  refine pi_cf 1 (c := nI W.nw = 0) (pc' := 10) (l' := [some (.ref 22)]) (st' := []) (σ' := σ) (pc2 := 7) (l2 := [some (.ref 22)]) (st2 := []) (σ2 := σ) (fun f => rfl) (fun q => hn ((nI_eq (by omega) (by omega)).mp q)) ?_
  refine pi_go 3 (pc' := 15) (l' := [some (.ref 22)]) (st' := [.int (σ 22 5), .ref 22]) (σ' := σ) (fun f => rfl) ?_
  refine pi_tp (y := nI W.nw) (hc.p.nw) ?_
  refine pi_go 3 (pc' := 20) (l' := [some (.ref 22)]) (st' := []) (σ' := (pi_up σ 22 5 ((nI W.nw) - (nI 1)))) (fun f => rfl) ?_
  generalize es1 : pi_up σ 22 5 ((nI W.nw) - (nI 1)) = s1
  refine pi_go 2 (pc' := 24) (l' := [some (.ref 22)]) (st' := [.int (s1 22 5)]) (σ' := s1) (fun f => rfl) ?_
  refine pi_tp (y := (nI W.nw) - (nI 1)) ((congrFun (congrFun es1 22) 5).symm.trans (pi_up_ss _ _ _ _)) ?_
  refine pi_rt 1 (v := some (.int ((nI W.nw) - (nI 1)))) (σ' := s1) (fun f => rfl) ?_
  exact ⟨congrArg (fun z => some (Value.int z)) (z_sub1 hn), (congrFun (congrFun es1 22) 4).symm.trans ((pi_up_sn _ _ _ (by decide)).trans (rfl)), ((congrFun (congrFun es1 22) 5).symm.trans (pi_up_ss _ _ _ _)).trans (z_sub1 hn), pi_fr_of es1 (by decide) (pi_fr_rf)⟩
set_option maxRecDepth 20000 in
theorem pi_C_dropw_no {xs : Nat → Int32} {L d : Nat} {W : zW} {σ : pi_S} (hc : z_CK W σ) (hn : W.nw = 0)  : pi_wp xs L d 2 0 [some (.ref 22)] [] σ (fun v s => v = some (.int (-3)) ∧ σ = s) := by
  have hk := hc.p.wk
  have hnd8 := hk.wd.nd8
  have hns12 := hk.wd.ns12
  have hn60 := hk.nine
  have hnf := hk.nf
  have hnw := hk.nw
  have hnc := hk.nc
  have hn08 := hk.wd.n0
  have hn140 := hk.wd.n1
  refine pi_go 2 (pc' := 4) (l' := [some (.ref 22)]) (st' := [.int (σ 22 5)]) (σ' := σ) (fun f => rfl) ?_
  refine pi_tp (y := nI W.nw) (hc.p.nw) ?_
  refine pi_ct 1 (c := nI W.nw = 0) (pc' := 7) (l' := [some (.ref 22)]) (st' := []) (σ' := σ) (pc2 := 10) (l2 := [some (.ref 22)]) (st2 := []) (σ2 := σ) (fun f => rfl) (congrArg nI hn) ?_
  refine pi_rt 2 (v := some (.int (-3))) (σ' := σ) (fun f => rfl) ?_
  exact ⟨rfl, rfl⟩
set_option maxRecDepth 20000 in
theorem pi_C_appc {xs : Nat → Int32} {L d : Nat} {W : zW} {σ : pi_S} (hc : z_CK W σ) (a b c e : Int32) (hn : W.nc < 8)  : pi_wp xs L d 1 0 [some (.ref 27), some (.int a), some (.int b), some (.int c), some (.int e)] [] σ (fun v s => v = some (.int (nI (W.nc + 1))) ∧ s 27 4 = σ 27 4 ∧ s 27 5 = nI (W.nc + 1) ∧ s 28 = upd (σ 28) W.nc a ∧ s 29 = upd (σ 29) W.nc b ∧ s 30 = upd (σ 30) W.nc c ∧ s 31 = upd (σ 31) W.nc e ∧ pi_fr [27, 28, 29, 30, 31] s σ) := by
  have hk := hc.p.wk
  have hnd8 := hk.wd.nd8
  have hns12 := hk.wd.ns12
  have hn60 := hk.nine
  have hnf := hk.nf
  have hnw := hk.nw
  have hnc := hk.nc
  have hn08 := hk.wd.n0
  have hn140 := hk.wd.n1
  refine pi_go 2 (pc' := 4) (l' := [some (.ref 27), some (.int a), some (.int b), some (.int c), some (.int e)]) (st' := [.int (σ 27 5)]) (σ' := σ) (fun f => rfl) ?_
  refine pi_tp (y := nI W.nc) (hc.p.nc) ?_
  refine pi_cf 1 (c := nI W.nc < 0) (pc' := 7) (l' := [some (.ref 27), some (.int a), some (.int b), some (.int c), some (.int e)]) (st' := []) (σ' := σ) (pc2 := 18) (l2 := [some (.ref 27), some (.int a), some (.int b), some (.int c), some (.int e)]) (st2 := []) (σ2 := σ) (fun f => rfl) (z_ltz (by omega)) ?_
  refine pi_go 2 (pc' := 11) (l' := [some (.ref 27), some (.int a), some (.int b), some (.int c), some (.int e)]) (st' := [.int (σ 27 5)]) (σ' := σ) (fun f => rfl) ?_
  refine pi_tp (y := nI W.nc) (hc.p.nc) ?_
  refine pi_go 2 (pc' := 15) (l' := [some (.ref 27), some (.int a), some (.int b), some (.int c), some (.int e)]) (st' := [.int (σ 27 4), .int (nI W.nc)]) (σ' := σ) (fun f => rfl) ?_
  refine pi_tp (y := nI 8) (hc.p.mc) ?_
  refine pi_ct 1 (c := nI W.nc < nI 8) (pc' := 21) (l' := [some (.ref 27), some (.int a), some (.int b), some (.int c), some (.int e)]) (st' := []) (σ' := σ) (pc2 := 18) (l2 := [some (.ref 27), some (.int a), some (.int b), some (.int c), some (.int e)]) (st2 := []) (σ2 := σ) (fun f => rfl) ((nI_ltI (by omega) (by omega)).mpr hn) ?_
  refine pi_go 4 (pc' := 29) (l' := [some (.ref 27), some (.int a), some (.int b), some (.int c), some (.int e)]) (st' := [.int (σ 27 5), .ref 28]) (σ' := σ) (fun f => rfl) ?_
  refine pi_tp (y := nI W.nc) (hc.p.nc) ?_
  refine pi_au 2 (u := W.nc) (n := 24) (a := 28) (x := a) (pc' := 31) (l' := [some (.ref 27), some (.int a), some (.int b), some (.int c), some (.int e)]) (t := []) (σ' := σ) (fun f => rfl) (by omega) (by omega) ?_
  generalize es1 : pi_up σ 28 W.nc a = s1
  refine pi_go 4 (pc' := 39) (l' := [some (.ref 27), some (.int a), some (.int b), some (.int c), some (.int e)]) (st' := [.int (s1 27 5), .ref 29]) (σ' := s1) (fun f => rfl) ?_
  refine pi_tp (y := nI W.nc) ((congrFun ((congrFun es1 27).symm.trans (pi_up_ne _ _ _ (by decide))) 5).trans (hc.p.nc)) ?_
  refine pi_au 2 (u := W.nc) (n := 24) (a := 29) (x := b) (pc' := 41) (l' := [some (.ref 27), some (.int a), some (.int b), some (.int c), some (.int e)]) (t := []) (σ' := s1) (fun f => rfl) (by omega) (by omega) ?_
  generalize es2 : pi_up s1 29 W.nc b = s2
  refine pi_go 4 (pc' := 49) (l' := [some (.ref 27), some (.int a), some (.int b), some (.int c), some (.int e)]) (st' := [.int (s2 27 5), .ref 30]) (σ' := s2) (fun f => rfl) ?_
  refine pi_tp (y := nI W.nc) ((congrFun ((congrFun es2 27).symm.trans (pi_up_ne _ _ _ (by decide))) 5).trans ((congrFun ((congrFun es1 27).symm.trans (pi_up_ne _ _ _ (by decide))) 5).trans (hc.p.nc))) ?_
  refine pi_au 2 (u := W.nc) (n := 24) (a := 30) (x := c) (pc' := 51) (l' := [some (.ref 27), some (.int a), some (.int b), some (.int c), some (.int e)]) (t := []) (σ' := s2) (fun f => rfl) (by omega) (by omega) ?_
  generalize es3 : pi_up s2 30 W.nc c = s3
  refine pi_go 4 (pc' := 59) (l' := [some (.ref 27), some (.int a), some (.int b), some (.int c), some (.int e)]) (st' := [.int (s3 27 5), .ref 31]) (σ' := s3) (fun f => rfl) ?_
  refine pi_tp (y := nI W.nc) ((congrFun ((congrFun es3 27).symm.trans (pi_up_ne _ _ _ (by decide))) 5).trans ((congrFun ((congrFun es2 27).symm.trans (pi_up_ne _ _ _ (by decide))) 5).trans ((congrFun ((congrFun es1 27).symm.trans (pi_up_ne _ _ _ (by decide))) 5).trans (hc.p.nc)))) ?_
  refine pi_au 2 (u := W.nc) (n := 24) (a := 31) (x := e) (pc' := 62) (l' := [some (.ref 27), some (.int a), some (.int b), some (.int c), some (.int e)]) (t := []) (σ' := s3) (fun f => rfl) (by omega) (by omega) ?_
  generalize es4 : pi_up s3 31 W.nc e = s4
  refine pi_go 3 (pc' := 67) (l' := [some (.ref 27), some (.int a), some (.int b), some (.int c), some (.int e)]) (st' := [.int (s4 27 5), .ref 27]) (σ' := s4) (fun f => rfl) ?_
  refine pi_tp (y := nI W.nc) ((congrFun ((congrFun es4 27).symm.trans (pi_up_ne _ _ _ (by decide))) 5).trans ((congrFun ((congrFun es3 27).symm.trans (pi_up_ne _ _ _ (by decide))) 5).trans ((congrFun ((congrFun es2 27).symm.trans (pi_up_ne _ _ _ (by decide))) 5).trans ((congrFun ((congrFun es1 27).symm.trans (pi_up_ne _ _ _ (by decide))) 5).trans (hc.p.nc))))) ?_
  refine pi_go 2 (pc' := 69) (l' := [some (.ref 27), some (.int a), some (.int b), some (.int c), some (.int e)]) (st' := [.int (nI W.nc + nI 1), .ref 27]) (σ' := s4) (fun f => rfl) ?_
  refine pi_tp (y := nI (W.nc + 1)) (nI_add _ _) ?_
  refine pi_go 1 (pc' := 72) (l' := [some (.ref 27), some (.int a), some (.int b), some (.int c), some (.int e)]) (st' := []) (σ' := (pi_up s4 27 5 (nI (W.nc + 1)))) (fun f => rfl) ?_
  generalize es5 : pi_up s4 27 5 (nI (W.nc + 1)) = s5
  refine pi_go 2 (pc' := 76) (l' := [some (.ref 27), some (.int a), some (.int b), some (.int c), some (.int e)]) (st' := [.int (s5 27 5)]) (σ' := s5) (fun f => rfl) ?_
  refine pi_tp (y := nI (W.nc + 1)) ((congrFun (congrFun es5 27) 5).symm.trans (pi_up_ss _ _ _ _)) ?_
  refine pi_rt 1 (v := some (.int (nI (W.nc + 1)))) (σ' := s5) (fun f => rfl) ?_
  exact ⟨rfl, (congrFun (congrFun es5 27) 4).symm.trans ((pi_up_sn _ _ _ (by decide)).trans ((congrFun ((congrFun es4 27).symm.trans (pi_up_ne _ _ _ (by decide))) 4).trans ((congrFun ((congrFun es3 27).symm.trans (pi_up_ne _ _ _ (by decide))) 4).trans ((congrFun ((congrFun es2 27).symm.trans (pi_up_ne _ _ _ (by decide))) 4).trans ((congrFun ((congrFun es1 27).symm.trans (pi_up_ne _ _ _ (by decide))) 4).trans (rfl)))))), (congrFun (congrFun es5 27) 5).symm.trans (pi_up_ss _ _ _ _), (congrFun es5 28).symm.trans ((pi_up_ne _ _ _ (by decide)).trans ((congrFun es4 28).symm.trans ((pi_up_ne _ _ _ (by decide)).trans ((congrFun es3 28).symm.trans ((pi_up_ne _ _ _ (by decide)).trans ((congrFun es2 28).symm.trans ((pi_up_ne _ _ _ (by decide)).trans ((congrFun es1 28).symm.trans ((pi_up_self _ _ _ _)))))))))), (congrFun es5 29).symm.trans ((pi_up_ne _ _ _ (by decide)).trans ((congrFun es4 29).symm.trans ((pi_up_ne _ _ _ (by decide)).trans ((congrFun es3 29).symm.trans ((pi_up_ne _ _ _ (by decide)).trans ((congrFun es2 29).symm.trans ((pi_up_self _ _ _ _).trans (congrArg (fun z => upd z W.nc b) ((congrFun es1 29).symm.trans ((pi_up_ne _ _ _ (by decide)))))))))))), (congrFun es5 30).symm.trans ((pi_up_ne _ _ _ (by decide)).trans ((congrFun es4 30).symm.trans ((pi_up_ne _ _ _ (by decide)).trans ((congrFun es3 30).symm.trans ((pi_up_self _ _ _ _).trans (congrArg (fun z => upd z W.nc c) ((congrFun es2 30).symm.trans ((pi_up_ne _ _ _ (by decide)).trans ((congrFun es1 30).symm.trans ((pi_up_ne _ _ _ (by decide)))))))))))), (congrFun es5 31).symm.trans ((pi_up_ne _ _ _ (by decide)).trans ((congrFun es4 31).symm.trans ((pi_up_self _ _ _ _).trans (congrArg (fun z => upd z W.nc e) ((congrFun es3 31).symm.trans ((pi_up_ne _ _ _ (by decide)).trans ((congrFun es2 31).symm.trans ((pi_up_ne _ _ _ (by decide)).trans ((congrFun es1 31).symm.trans ((pi_up_ne _ _ _ (by decide)))))))))))), pi_fr_of es5 (by decide) (pi_fr_of es4 (by decide) (pi_fr_of es3 (by decide) (pi_fr_of es2 (by decide) (pi_fr_of es1 (by decide) (pi_fr_rf)))))⟩
set_option maxRecDepth 20000 in
theorem pi_C_appc_full {xs : Nat → Int32} {L d : Nat} {W : zW} {σ : pi_S} (hc : z_CK W σ) (a b c e : Int32) (hn : W.nc = 8)  : pi_wp xs L d 1 0 [some (.ref 27), some (.int a), some (.int b), some (.int c), some (.int e)] [] σ (fun v s => v = some (.int (-4)) ∧ σ = s) := by
  have hk := hc.p.wk
  have hnd8 := hk.wd.nd8
  have hns12 := hk.wd.ns12
  have hn60 := hk.nine
  have hnf := hk.nf
  have hnw := hk.nw
  have hnc := hk.nc
  have hn08 := hk.wd.n0
  have hn140 := hk.wd.n1
  refine pi_go 2 (pc' := 4) (l' := [some (.ref 27), some (.int a), some (.int b), some (.int c), some (.int e)]) (st' := [.int (σ 27 5)]) (σ' := σ) (fun f => rfl) ?_
  refine pi_tp (y := nI W.nc) (hc.p.nc) ?_
  refine pi_cf 1 (c := nI W.nc < 0) (pc' := 7) (l' := [some (.ref 27), some (.int a), some (.int b), some (.int c), some (.int e)]) (st' := []) (σ' := σ) (pc2 := 18) (l2 := [some (.ref 27), some (.int a), some (.int b), some (.int c), some (.int e)]) (st2 := []) (σ2 := σ) (fun f => rfl) (z_ltz (by omega)) ?_
  refine pi_go 2 (pc' := 11) (l' := [some (.ref 27), some (.int a), some (.int b), some (.int c), some (.int e)]) (st' := [.int (σ 27 5)]) (σ' := σ) (fun f => rfl) ?_
  refine pi_tp (y := nI W.nc) (hc.p.nc) ?_
  refine pi_go 2 (pc' := 15) (l' := [some (.ref 27), some (.int a), some (.int b), some (.int c), some (.int e)]) (st' := [.int (σ 27 4), .int (nI W.nc)]) (σ' := σ) (fun f => rfl) ?_
  refine pi_tp (y := nI 8) (hc.p.mc) ?_
  refine pi_cf 1 (c := nI W.nc < nI 8) (pc' := 18) (l' := [some (.ref 27), some (.int a), some (.int b), some (.int c), some (.int e)]) (st' := []) (σ' := σ) (pc2 := 21) (l2 := [some (.ref 27), some (.int a), some (.int b), some (.int c), some (.int e)]) (st2 := []) (σ2 := σ) (fun f => rfl) (fun q => absurd ((nI_ltI (by omega) (by omega)).mp q) (by omega)) ?_
  refine pi_rt 2 (v := some (.int (-4))) (σ' := σ) (fun f => rfl) ?_
  exact ⟨rfl, rfl⟩
set_option maxRecDepth 20000 in
theorem pi_C_dropc {xs : Nat → Int32} {L d : Nat} {W : zW} {σ : pi_S} (hc : z_CK W σ) (hn : ¬ W.nc = 0)  : pi_wp xs L d 2 0 [some (.ref 27)] [] σ (fun v s => v = some (.int (nI (W.nc - 1))) ∧ s 27 4 = σ 27 4 ∧ s 27 5 = nI (W.nc - 1) ∧ pi_fr [27] s σ) := by
  have hk := hc.p.wk
  have hnd8 := hk.wd.nd8
  have hns12 := hk.wd.ns12
  have hn60 := hk.nine
  have hnf := hk.nf
  have hnw := hk.nw
  have hnc := hk.nc
  have hn08 := hk.wd.n0
  have hn140 := hk.wd.n1
  refine pi_go 2 (pc' := 4) (l' := [some (.ref 27)]) (st' := [.int (σ 27 5)]) (σ' := σ) (fun f => rfl) ?_
  refine pi_tp (y := nI W.nc) (hc.p.nc) ?_
  refine pi_cf 1 (c := nI W.nc = 0) (pc' := 10) (l' := [some (.ref 27)]) (st' := []) (σ' := σ) (pc2 := 7) (l2 := [some (.ref 27)]) (st2 := []) (σ2 := σ) (fun f => rfl) (fun q => hn ((nI_eq (by omega) (by omega)).mp q)) ?_
  refine pi_go 3 (pc' := 15) (l' := [some (.ref 27)]) (st' := [.int (σ 27 5), .ref 27]) (σ' := σ) (fun f => rfl) ?_
  refine pi_tp (y := nI W.nc) (hc.p.nc) ?_
  refine pi_go 3 (pc' := 20) (l' := [some (.ref 27)]) (st' := []) (σ' := (pi_up σ 27 5 ((nI W.nc) - (nI 1)))) (fun f => rfl) ?_
  generalize es1 : pi_up σ 27 5 ((nI W.nc) - (nI 1)) = s1
  refine pi_go 2 (pc' := 24) (l' := [some (.ref 27)]) (st' := [.int (s1 27 5)]) (σ' := s1) (fun f => rfl) ?_
  refine pi_tp (y := (nI W.nc) - (nI 1)) ((congrFun (congrFun es1 27) 5).symm.trans (pi_up_ss _ _ _ _)) ?_
  refine pi_rt 1 (v := some (.int ((nI W.nc) - (nI 1)))) (σ' := s1) (fun f => rfl) ?_
  exact ⟨congrArg (fun z => some (Value.int z)) (z_sub1 hn), (congrFun (congrFun es1 27) 4).symm.trans ((pi_up_sn _ _ _ (by decide)).trans (rfl)), ((congrFun (congrFun es1 27) 5).symm.trans (pi_up_ss _ _ _ _)).trans (z_sub1 hn), pi_fr_of es1 (by decide) (pi_fr_rf)⟩
set_option maxRecDepth 20000 in
theorem pi_C_dropc_no {xs : Nat → Int32} {L d : Nat} {W : zW} {σ : pi_S} (hc : z_CK W σ) (hn : W.nc = 0)  : pi_wp xs L d 2 0 [some (.ref 27)] [] σ (fun v s => v = some (.int (-3)) ∧ σ = s) := by
  have hk := hc.p.wk
  have hnd8 := hk.wd.nd8
  have hns12 := hk.wd.ns12
  have hn60 := hk.nine
  have hnf := hk.nf
  have hnw := hk.nw
  have hnc := hk.nc
  have hn08 := hk.wd.n0
  have hn140 := hk.wd.n1
  refine pi_go 2 (pc' := 4) (l' := [some (.ref 27)]) (st' := [.int (σ 27 5)]) (σ' := σ) (fun f => rfl) ?_
  refine pi_tp (y := nI W.nc) (hc.p.nc) ?_
  refine pi_ct 1 (c := nI W.nc = 0) (pc' := 7) (l' := [some (.ref 27)]) (st' := []) (σ' := σ) (pc2 := 10) (l2 := [some (.ref 27)]) (st2 := []) (σ2 := σ) (fun f => rfl) (congrArg nI hn) ?_
  refine pi_rt 2 (v := some (.int (-3))) (σ' := σ) (fun f => rfl) ?_
  exact ⟨rfl, rfl⟩
set_option maxRecDepth 20000 in
theorem pi_C_actsOf0 {xs : Nat → Int32} {L d : Nat} {σ : pi_S}  : pi_wp xs L d 46 0 [some (.ref 16), some (.int (nI 0))] [] σ (fun v s => v = some (.ref 17) ∧ σ = s) := by
  refine pi_ct 2 (c := nI 0 = 0) (pc' := 4) (l' := [some (.ref 16), some (.int (nI 0))]) (st' := []) (σ' := σ) (pc2 := 9) (l2 := [some (.ref 16), some (.int (nI 0))]) (st2 := []) (σ2 := σ) (fun f => rfl) (by decide) ?_
  refine pi_rt 3 (v := some (.ref 17)) (σ' := σ) (fun f => rfl) ?_
  exact ⟨rfl, rfl⟩
set_option maxRecDepth 20000 in
theorem pi_C_actsOf1 {xs : Nat → Int32} {L d : Nat} {σ : pi_S}  : pi_wp xs L d 46 0 [some (.ref 16), some (.int (nI 1))] [] σ (fun v s => v = some (.ref 22) ∧ σ = s) := by
  refine pi_cf 2 (c := nI 1 = 0) (pc' := 9) (l' := [some (.ref 16), some (.int (nI 1))]) (st' := []) (σ' := σ) (pc2 := 4) (l2 := [some (.ref 16), some (.int (nI 1))]) (st2 := []) (σ2 := σ) (fun f => rfl) (by decide) ?_
  refine pi_ct 3 (c := nI 1 = nI 1) (pc' := 14) (l' := [some (.ref 16), some (.int (nI 1))]) (st' := []) (σ' := σ) (pc2 := 21) (l2 := [some (.ref 16), some (.int (nI 1))]) (st2 := []) (σ2 := σ) (fun f => rfl) (by decide) ?_
  refine pi_rt 4 (v := some (.ref 22)) (σ' := σ) (fun f => rfl) ?_
  exact ⟨rfl, rfl⟩
set_option maxRecDepth 20000 in
theorem pi_C_actsOf2 {xs : Nat → Int32} {L d : Nat} {σ : pi_S}  : pi_wp xs L d 46 0 [some (.ref 16), some (.int (nI 2))] [] σ (fun v s => v = some (.ref 27) ∧ σ = s) := by
  refine pi_cf 2 (c := nI 2 = 0) (pc' := 9) (l' := [some (.ref 16), some (.int (nI 2))]) (st' := []) (σ' := σ) (pc2 := 4) (l2 := [some (.ref 16), some (.int (nI 2))]) (st2 := []) (σ2 := σ) (fun f => rfl) (by decide) ?_
  refine pi_cf 3 (c := nI 2 = nI 1) (pc' := 21) (l' := [some (.ref 16), some (.int (nI 2))]) (st' := []) (σ' := σ) (pc2 := 14) (l2 := [some (.ref 16), some (.int (nI 2))]) (st2 := []) (σ2 := σ) (fun f => rfl) (by decide) ?_
  refine pi_rt 3 (v := some (.ref 27)) (σ' := σ) (fun f => rfl) ?_
  exact ⟨rfl, rfl⟩
set_option maxRecDepth 20000 in
theorem pi_C_exch_rt {xs : Nat → Int32} {L d : Nat} {W : zW} {σ : pi_S} (hc : z_CK W σ) {k : Nat} (hkn : k < 5) (x : Int32)  : pi_wp xs L (d + 1) 26 0 [some (.ref 13), some (.int (nI k)), some (.int x), none] [] σ (fun v s => v = some (.int (W.rt k)) ∧ s 13 = upd (σ 13) k x ∧ pi_fr [13] s σ) := by
  have hk := hc.p.wk
  have hnd8 := hk.wd.nd8
  have hns12 := hk.wd.ns12
  have hn60 := hk.nine
  have hnf := hk.nf
  have hnw := hk.nw
  have hnc := hk.nc
  have hn08 := hk.wd.n0
  have hn140 := hk.wd.n1
  refine pi_ca 4 (m' := 94) (l' := [some (.int (nI k)), some (.int (nI 5))]) (σ' := σ) (pc2 := 6) (l2 := [some (.ref 13), some (.int (nI k)), some (.int x), none]) (t := []) (fun f => rfl) (pi_below1 _ _ (z_BL (by omega) (by omega))) ?_
  rintro _ _ ⟨rfl, rfl⟩
  refine pi_cf 1 (c := nI 1 = 0) (pc' := 12) (l' := [some (.ref 13), some (.int (nI k)), some (.int x), none]) (st' := []) (σ' := σ) (pc2 := 9) (l2 := [some (.ref 13), some (.int (nI k)), some (.int x), none]) (st2 := []) (σ2 := σ) (fun f => rfl) (by decide) ?_
  refine pi_ai 3 (u := k) (n := 5) (g := σ 13) (pc' := 15) (l' := [some (.ref 13), some (.int (nI k)), some (.int x), none]) (t := []) (σ' := σ) (fun f => rfl) (by omega) (by omega) ?_
  refine pi_tp (y := W.rt k) ((hc.p.rt k (by omega))) ?_
  refine pi_au 5 (u := k) (n := 5) (a := 13) (x := x) (pc' := 20) (l' := [some (.ref 13), some (.int (nI k)), some (.int x), some (.int (W.rt k))]) (t := []) (σ' := σ) (fun f => rfl) (by omega) (by omega) ?_
  generalize es1 : pi_up σ 13 k x = s1
  refine pi_rt 2 (v := some (.int (W.rt k))) (σ' := s1) (fun f => rfl) ?_
  exact ⟨rfl, (congrFun es1 13).symm.trans ((pi_up_self _ _ _ _)), pi_fr_of es1 (by decide) (pi_fr_rf)⟩
set_option maxRecDepth 20000 in
theorem pi_C_exch_rt_bad {xs : Nat → Int32} {L d : Nat} {W : zW} {σ : pi_S} (hc : z_CK W σ) {a : Int32} (hb : ¬ z_B 5 a) (x : Int32)  : pi_wp xs L (d + 1) 26 0 [some (.ref 13), some (.int a), some (.int x), none] [] σ (fun v s => v = some (.int (-2)) ∧ σ = s) := by
  have hk := hc.p.wk
  have hnd8 := hk.wd.nd8
  have hns12 := hk.wd.ns12
  have hn60 := hk.nine
  have hnf := hk.nf
  have hnw := hk.nw
  have hnc := hk.nc
  have hn08 := hk.wd.n0
  have hn140 := hk.wd.n1
  refine pi_ca 4 (m' := 94) (l' := [some (.int a), some (.int (nI 5))]) (σ' := σ) (pc2 := 6) (l2 := [some (.ref 13), some (.int a), some (.int x), none]) (t := []) (fun f => rfl) (pi_C_belowB (a := a) (n := 5) (by omega)) ?_
  rintro _ _ (⟨b1, rfl, rfl⟩ | ⟨b1, rfl, rfl⟩)
  · refine pi_cf 1 (c := nI 1 = 0) (pc' := 12) (l' := [some (.ref 13), some (.int a), some (.int x), none]) (st' := []) (σ' := σ) (pc2 := 9) (l2 := [some (.ref 13), some (.int a), some (.int x), none]) (st2 := []) (σ2 := σ) (fun f => rfl) (by decide) ?_
    exact (hb b1).elim
  · refine pi_ct 1 (c := nI 0 = 0) (pc' := 9) (l' := [some (.ref 13), some (.int a), some (.int x), none]) (st' := []) (σ' := σ) (pc2 := 12) (l2 := [some (.ref 13), some (.int a), some (.int x), none]) (st2 := []) (σ2 := σ) (fun f => rfl) (by decide) ?_
    refine pi_rt 2 (v := some (.int (-2))) (σ' := σ) (fun f => rfl) ?_
    exact ⟨rfl, rfl⟩
set_option maxRecDepth 20000 in
theorem pi_C_exch_hd {xs : Nat → Int32} {L d : Nat} {W : zW} {σ : pi_S} (hc : z_CK W σ) {k : Nat} (hkn : k < 8) (x : Int32)  : pi_wp xs L (d + 1) 26 0 [some (.ref 14), some (.int (nI k)), some (.int x), none] [] σ (fun v s => v = some (.int (W.hd k)) ∧ s 14 = upd (σ 14) k x ∧ pi_fr [14] s σ) := by
  have hk := hc.p.wk
  have hnd8 := hk.wd.nd8
  have hns12 := hk.wd.ns12
  have hn60 := hk.nine
  have hnf := hk.nf
  have hnw := hk.nw
  have hnc := hk.nc
  have hn08 := hk.wd.n0
  have hn140 := hk.wd.n1
  refine pi_ca 4 (m' := 94) (l' := [some (.int (nI k)), some (.int (nI 8))]) (σ' := σ) (pc2 := 6) (l2 := [some (.ref 14), some (.int (nI k)), some (.int x), none]) (t := []) (fun f => rfl) (pi_below1 _ _ (z_BL (by omega) (by omega))) ?_
  rintro _ _ ⟨rfl, rfl⟩
  refine pi_cf 1 (c := nI 1 = 0) (pc' := 12) (l' := [some (.ref 14), some (.int (nI k)), some (.int x), none]) (st' := []) (σ' := σ) (pc2 := 9) (l2 := [some (.ref 14), some (.int (nI k)), some (.int x), none]) (st2 := []) (σ2 := σ) (fun f => rfl) (by decide) ?_
  refine pi_ai 3 (u := k) (n := 8) (g := σ 14) (pc' := 15) (l' := [some (.ref 14), some (.int (nI k)), some (.int x), none]) (t := []) (σ' := σ) (fun f => rfl) (by omega) (by omega) ?_
  refine pi_tp (y := W.hd k) ((hc.p.hd k (by omega))) ?_
  refine pi_au 5 (u := k) (n := 8) (a := 14) (x := x) (pc' := 20) (l' := [some (.ref 14), some (.int (nI k)), some (.int x), some (.int (W.hd k))]) (t := []) (σ' := σ) (fun f => rfl) (by omega) (by omega) ?_
  generalize es1 : pi_up σ 14 k x = s1
  refine pi_rt 2 (v := some (.int (W.hd k))) (σ' := s1) (fun f => rfl) ?_
  exact ⟨rfl, (congrFun es1 14).symm.trans ((pi_up_self _ _ _ _)), pi_fr_of es1 (by decide) (pi_fr_rf)⟩
set_option maxRecDepth 20000 in
theorem pi_C_exch_hd_bad {xs : Nat → Int32} {L d : Nat} {W : zW} {σ : pi_S} (hc : z_CK W σ) {a : Int32} (hb : ¬ z_B 8 a) (x : Int32)  : pi_wp xs L (d + 1) 26 0 [some (.ref 14), some (.int a), some (.int x), none] [] σ (fun v s => v = some (.int (-2)) ∧ σ = s) := by
  have hk := hc.p.wk
  have hnd8 := hk.wd.nd8
  have hns12 := hk.wd.ns12
  have hn60 := hk.nine
  have hnf := hk.nf
  have hnw := hk.nw
  have hnc := hk.nc
  have hn08 := hk.wd.n0
  have hn140 := hk.wd.n1
  refine pi_ca 4 (m' := 94) (l' := [some (.int a), some (.int (nI 8))]) (σ' := σ) (pc2 := 6) (l2 := [some (.ref 14), some (.int a), some (.int x), none]) (t := []) (fun f => rfl) (pi_C_belowB (a := a) (n := 8) (by omega)) ?_
  rintro _ _ (⟨b1, rfl, rfl⟩ | ⟨b1, rfl, rfl⟩)
  · refine pi_cf 1 (c := nI 1 = 0) (pc' := 12) (l' := [some (.ref 14), some (.int a), some (.int x), none]) (st' := []) (σ' := σ) (pc2 := 9) (l2 := [some (.ref 14), some (.int a), some (.int x), none]) (st2 := []) (σ2 := σ) (fun f => rfl) (by decide) ?_
    exact (hb b1).elim
  · refine pi_ct 1 (c := nI 0 = 0) (pc' := 9) (l' := [some (.ref 14), some (.int a), some (.int x), none]) (st' := []) (σ' := σ) (pc2 := 12) (l2 := [some (.ref 14), some (.int a), some (.int x), none]) (st2 := []) (σ2 := σ) (fun f => rfl) (by decide) ?_
    refine pi_rt 2 (v := some (.int (-2))) (σ' := σ) (fun f => rfl) ?_
    exact ⟨rfl, rfl⟩
set_option maxRecDepth 20000 in
theorem pi_C_exch_pr {xs : Nat → Int32} {L d : Nat} {W : zW} {σ : pi_S} (hc : z_CK W σ) {k : Nat} (hkn : k < 8) (x : Int32)  : pi_wp xs L (d + 1) 26 0 [some (.ref 15), some (.int (nI k)), some (.int x), none] [] σ (fun v s => v = some (.int (W.pr k)) ∧ s 15 = upd (σ 15) k x ∧ pi_fr [15] s σ) := by
  have hk := hc.p.wk
  have hnd8 := hk.wd.nd8
  have hns12 := hk.wd.ns12
  have hn60 := hk.nine
  have hnf := hk.nf
  have hnw := hk.nw
  have hnc := hk.nc
  have hn08 := hk.wd.n0
  have hn140 := hk.wd.n1
  refine pi_ca 4 (m' := 94) (l' := [some (.int (nI k)), some (.int (nI 8))]) (σ' := σ) (pc2 := 6) (l2 := [some (.ref 15), some (.int (nI k)), some (.int x), none]) (t := []) (fun f => rfl) (pi_below1 _ _ (z_BL (by omega) (by omega))) ?_
  rintro _ _ ⟨rfl, rfl⟩
  refine pi_cf 1 (c := nI 1 = 0) (pc' := 12) (l' := [some (.ref 15), some (.int (nI k)), some (.int x), none]) (st' := []) (σ' := σ) (pc2 := 9) (l2 := [some (.ref 15), some (.int (nI k)), some (.int x), none]) (st2 := []) (σ2 := σ) (fun f => rfl) (by decide) ?_
  refine pi_ai 3 (u := k) (n := 8) (g := σ 15) (pc' := 15) (l' := [some (.ref 15), some (.int (nI k)), some (.int x), none]) (t := []) (σ' := σ) (fun f => rfl) (by omega) (by omega) ?_
  refine pi_tp (y := W.pr k) ((hc.p.pr k (by omega))) ?_
  refine pi_au 5 (u := k) (n := 8) (a := 15) (x := x) (pc' := 20) (l' := [some (.ref 15), some (.int (nI k)), some (.int x), some (.int (W.pr k))]) (t := []) (σ' := σ) (fun f => rfl) (by omega) (by omega) ?_
  generalize es1 : pi_up σ 15 k x = s1
  refine pi_rt 2 (v := some (.int (W.pr k))) (σ' := s1) (fun f => rfl) ?_
  exact ⟨rfl, (congrFun es1 15).symm.trans ((pi_up_self _ _ _ _)), pi_fr_of es1 (by decide) (pi_fr_rf)⟩
set_option maxRecDepth 20000 in
theorem pi_C_exch_pr_bad {xs : Nat → Int32} {L d : Nat} {W : zW} {σ : pi_S} (hc : z_CK W σ) {a : Int32} (hb : ¬ z_B 8 a) (x : Int32)  : pi_wp xs L (d + 1) 26 0 [some (.ref 15), some (.int a), some (.int x), none] [] σ (fun v s => v = some (.int (-2)) ∧ σ = s) := by
  have hk := hc.p.wk
  have hnd8 := hk.wd.nd8
  have hns12 := hk.wd.ns12
  have hn60 := hk.nine
  have hnf := hk.nf
  have hnw := hk.nw
  have hnc := hk.nc
  have hn08 := hk.wd.n0
  have hn140 := hk.wd.n1
  refine pi_ca 4 (m' := 94) (l' := [some (.int a), some (.int (nI 8))]) (σ' := σ) (pc2 := 6) (l2 := [some (.ref 15), some (.int a), some (.int x), none]) (t := []) (fun f => rfl) (pi_C_belowB (a := a) (n := 8) (by omega)) ?_
  rintro _ _ (⟨b1, rfl, rfl⟩ | ⟨b1, rfl, rfl⟩)
  · refine pi_cf 1 (c := nI 1 = 0) (pc' := 12) (l' := [some (.ref 15), some (.int a), some (.int x), none]) (st' := []) (σ' := σ) (pc2 := 9) (l2 := [some (.ref 15), some (.int a), some (.int x), none]) (st2 := []) (σ2 := σ) (fun f => rfl) (by decide) ?_
    exact (hb b1).elim
  · refine pi_ct 1 (c := nI 0 = 0) (pc' := 9) (l' := [some (.ref 15), some (.int a), some (.int x), none]) (st' := []) (σ' := σ) (pc2 := 12) (l2 := [some (.ref 15), some (.int a), some (.int x), none]) (st2 := []) (σ2 := σ) (fun f => rfl) (by decide) ?_
    refine pi_rt 2 (v := some (.int (-2))) (σ' := σ) (fun f => rfl) ?_
    exact ⟨rfl, rfl⟩
set_option maxRecDepth 20000 in
theorem pi_C_chNine {xs : Nat → Int32} {L d : Nat} {W : zW} {σ : pi_S} (hc : z_CK W σ) {b : Nat} (hb : b < 60)  : pi_wp xs L (d + 1) 27 0 [some (.ref 12), some (.int (nI b)), none] [] σ (fun v s => v = some (.int (nI W.nine)) ∧ s 12 3 = nI b ∧ pi_fr [12] s σ) := by
  have hk := hc.p.wk
  have hnd8 := hk.wd.nd8
  have hns12 := hk.wd.ns12
  have hn60 := hk.nine
  have hnf := hk.nf
  have hnw := hk.nw
  have hnc := hk.nc
  have hn08 := hk.wd.n0
  have hn140 := hk.wd.n1
  refine pi_ca 3 (m' := 94) (l' := [some (.int (nI b)), some (.int (nI 60))]) (σ' := σ) (pc2 := 6) (l2 := [some (.ref 12), some (.int (nI b)), none]) (t := []) (fun f => rfl) (pi_below1 _ _ (z_BL (by omega) (by omega))) ?_
  rintro _ _ ⟨rfl, rfl⟩
  refine pi_cf 1 (c := nI 1 = 0) (pc' := 12) (l' := [some (.ref 12), some (.int (nI b)), none]) (st' := []) (σ' := σ) (pc2 := 9) (l2 := [some (.ref 12), some (.int (nI b)), none]) (st2 := []) (σ2 := σ) (fun f => rfl) (by decide) ?_
  refine pi_go 2 (pc' := 16) (l' := [some (.ref 12), some (.int (nI b)), none]) (st' := [.int (σ 12 3)]) (σ' := σ) (fun f => rfl) ?_
  refine pi_tp (y := nI W.nine) (hc.p.nine) ?_
  refine pi_go 4 (pc' := 22) (l' := [some (.ref 12), some (.int (nI b)), some (.int (nI W.nine))]) (st' := []) (σ' := (pi_up σ 12 3 (nI b))) (fun f => rfl) ?_
  generalize es1 : pi_up σ 12 3 (nI b) = s1
  refine pi_rt 2 (v := some (.int (nI W.nine))) (σ' := s1) (fun f => rfl) ?_
  exact ⟨rfl, (congrFun (congrFun es1 12) 3).symm.trans (pi_up_ss _ _ _ _), pi_fr_of es1 (by decide) (pi_fr_rf)⟩
set_option maxRecDepth 20000 in
theorem pi_C_chNine_bad {xs : Nat → Int32} {L d : Nat} {W : zW} {σ : pi_S} (hc : z_CK W σ) {a : Int32} (hb : ¬ z_B 60 a)  : pi_wp xs L (d + 1) 27 0 [some (.ref 12), some (.int a), none] [] σ (fun v s => v = some (.int (-2)) ∧ σ = s) := by
  have hk := hc.p.wk
  have hnd8 := hk.wd.nd8
  have hns12 := hk.wd.ns12
  have hn60 := hk.nine
  have hnf := hk.nf
  have hnw := hk.nw
  have hnc := hk.nc
  have hn08 := hk.wd.n0
  have hn140 := hk.wd.n1
  refine pi_ca 3 (m' := 94) (l' := [some (.int a), some (.int (nI 60))]) (σ' := σ) (pc2 := 6) (l2 := [some (.ref 12), some (.int a), none]) (t := []) (fun f => rfl) (pi_C_belowB (a := a) (n := 60) (by omega)) ?_
  rintro _ _ (⟨b1, rfl, rfl⟩ | ⟨b1, rfl, rfl⟩)
  · refine pi_cf 1 (c := nI 1 = 0) (pc' := 12) (l' := [some (.ref 12), some (.int a), none]) (st' := []) (σ' := σ) (pc2 := 9) (l2 := [some (.ref 12), some (.int a), none]) (st2 := []) (σ2 := σ) (fun f => rfl) (by decide) ?_
    exact (hb b1).elim
  · refine pi_ct 1 (c := nI 0 = 0) (pc' := 9) (l' := [some (.ref 12), some (.int a), none]) (st' := []) (σ' := σ) (pc2 := 12) (l2 := [some (.ref 12), some (.int a), none]) (st2 := []) (σ2 := σ) (fun f => rfl) (by decide) ?_
    refine pi_rt 2 (v := some (.int (-2))) (σ' := σ) (fun f => rfl) ?_
    exact ⟨rfl, rfl⟩
set_option maxRecDepth 20000 in
theorem pi_C_isHold {xs : Nat → Int32} {L d : Nat} {σ : pi_S} (a : Int32)  : pi_wp xs L d 28 0 [some (.int a)] [] σ (fun v s => (z_B 100 a ∧ v = some (.int (nI 1)) ∧ σ = s) ∨ (¬ z_B 100 a ∧ v = some (.int (nI 0)) ∧ σ = s)) := by
  refine pi_if 2 (c := a < 0) (pc' := 14) (l' := [some (.int a)]) (st' := []) (σ' := σ) (pc2 := 4) (l2 := [some (.int a)]) (st2 := []) (σ2 := σ) (fun f => rfl) (fun h1 => ?_) (fun h1 => ?_)
  · refine pi_rb 2 (c := (nI 0) &&& 1 = nI 0) (v := some (.int (nI 0))) (σ' := σ) (fun f => rfl) (by decide) ?_
    exact Or.inr ⟨fun q => Int32.not_lt.mpr ((z_B_in (c := 99) (by omega)).mpr q).1 h1, rfl, rfl⟩
  · refine pi_if 3 (c := nI 99 < a) (pc' := 14) (l' := [some (.int a)]) (st' := []) (σ' := σ) (pc2 := 10) (l2 := [some (.int a)]) (st2 := []) (σ2 := σ) (fun f => rfl) (fun h2 => ?_) (fun h2 => ?_)
    · refine pi_rb 2 (c := (nI 0) &&& 1 = nI 0) (v := some (.int (nI 0))) (σ' := σ) (fun f => rfl) (by decide) ?_
      exact Or.inr ⟨fun q => Int32.not_lt.mpr ((z_B_in (c := 99) (by omega)).mpr q).2 h2, rfl, rfl⟩
    · refine pi_rb 3 (c := (nI 1) &&& 1 = nI 1) (v := some (.int (nI 1))) (σ' := σ) (fun f => rfl) (by decide) ?_
      exact Or.inl ⟨(z_B_in (c := 99) (by omega)).mp ⟨Int32.not_lt.mp h1, Int32.not_lt.mp h2⟩, rfl, rfl⟩
theorem pi_C_isHoldT {xs : Nat → Int32} {L d : Nat} {σ : pi_S} {a : Int32} (h : z_B 100 a) : pi_wp xs L d 28 0 [some (.int a)] [] σ (fun v s => v = some (.int (nI 1)) ∧ σ = s) :=
  pi_mo (fun v s q => q.elim (fun q => q.2) (fun q => absurd h q.1)) (pi_C_isHold a)
set_option maxRecDepth 20000 in
theorem pi_C_chg0 {xs : Nat → Int32} {L d : Nat} {W : zW} {σ : pi_S} (hc : z_CK W σ) {k b : Nat} (hkn : k < 5) (hb : b ≤ 9)  : pi_wp xs L (d + 2) 25 0 [some (.ref 12), some (.int (nI 0)), some (.int (nI k)), some (.int (nI b))] [] σ (fun v s => v = some (.int (W.rt k)) ∧ s 13 = upd (σ 13) k (nI b) ∧ pi_fr [13] s σ) := by
  have hk := hc.p.wk
  have hnd8 := hk.wd.nd8
  have hns12 := hk.wd.ns12
  have hn60 := hk.nine
  have hnf := hk.nf
  have hnw := hk.nw
  have hnc := hk.nc
  have hn08 := hk.wd.n0
  have hn140 := hk.wd.n1
  refine pi_go 2 (pc' := 32) (l' := [some (.ref 12), some (.int (nI 0)), some (.int (nI k)), some (.int (nI b))]) (st' := []) (σ' := σ) (fun f => rfl) ?_
  refine pi_cf 2 (c := nI b < 0) (pc' := 36) (l' := [some (.ref 12), some (.int (nI 0)), some (.int (nI k)), some (.int (nI b))]) (st' := []) (σ' := σ) (pc2 := 54) (l2 := [some (.ref 12), some (.int (nI 0)), some (.int (nI k)), some (.int (nI b))]) (st2 := []) (σ2 := σ) (fun f => rfl) (z_ltz (by omega)) ?_
  refine pi_cf 3 (c := nI 9 < nI b) (pc' := 42) (l' := [some (.ref 12), some (.int (nI 0)), some (.int (nI k)), some (.int (nI b))]) (st' := []) (σ' := σ) (pc2 := 54) (l2 := [some (.ref 12), some (.int (nI 0)), some (.int (nI k)), some (.int (nI b))]) (st2 := []) (σ2 := σ) (fun f => rfl) (fun q => absurd ((nI_ltI (by omega) (by omega)).mp q) (by omega)) ?_
  refine pi_ca 5 (m' := 26) (l' := [some (.ref 13), some (.int (nI k)), some (.int (nI b)), none]) (σ' := σ) (pc2 := 51) (l2 := [some (.ref 12), some (.int (nI 0)), some (.int (nI k)), some (.int (nI b))]) (t := []) (fun f => rfl) (pi_C_exch_rt hc (by omega) (nI b)) ?_
  rintro _ t1 ⟨rfl, et1, rt1⟩
  refine pi_rt 2 (v := some (.int (W.rt k))) (σ' := t1) (fun f => rfl) ?_
  exact ⟨rfl, et1, pi_fr_tr rt1 (by decide) (pi_fr_rf)⟩
set_option maxRecDepth 20000 in
theorem pi_C_chg1 {xs : Nat → Int32} {L d : Nat} {W : zW} {σ : pi_S} (hc : z_CK W σ) {k b : Nat} (hkn : k < 8) (hb : b ≤ 99)  : pi_wp xs L (d + 2) 25 0 [some (.ref 12), some (.int (nI 1)), some (.int (nI k)), some (.int (nI b))] [] σ (fun v s => v = some (.int (W.hd k)) ∧ s 14 = upd (σ 14) k (nI b) ∧ pi_fr [14] s σ) := by
  have hk := hc.p.wk
  have hnd8 := hk.wd.nd8
  have hns12 := hk.wd.ns12
  have hn60 := hk.nine
  have hnf := hk.nf
  have hnw := hk.nw
  have hnc := hk.nc
  have hn08 := hk.wd.n0
  have hn140 := hk.wd.n1
  refine pi_go 2 (pc' := 57) (l' := [some (.ref 12), some (.int (nI 1)), some (.int (nI k)), some (.int (nI b))]) (st' := []) (σ' := σ) (fun f => rfl) ?_
  refine pi_ca 2 (m' := 28) (l' := [some (.int (nI b))]) (σ' := σ) (pc2 := 61) (l2 := [some (.ref 12), some (.int (nI 1)), some (.int (nI k)), some (.int (nI b))]) (t := []) (fun f => rfl) (pi_C_isHoldT ⟨_, by omega, rfl⟩) ?_
  rintro _ _ ⟨rfl, rfl⟩
  refine pi_cf 1 (c := nI 1 = 0) (pc' := 64) (l' := [some (.ref 12), some (.int (nI 1)), some (.int (nI k)), some (.int (nI b))]) (st' := []) (σ' := σ) (pc2 := 76) (l2 := [some (.ref 12), some (.int (nI 1)), some (.int (nI k)), some (.int (nI b))]) (st2 := []) (σ2 := σ) (fun f => rfl) (by decide) ?_
  refine pi_ca 5 (m' := 26) (l' := [some (.ref 14), some (.int (nI k)), some (.int (nI b)), none]) (σ' := σ) (pc2 := 73) (l2 := [some (.ref 12), some (.int (nI 1)), some (.int (nI k)), some (.int (nI b))]) (t := []) (fun f => rfl) (pi_C_exch_hd hc (by omega) (nI b)) ?_
  rintro _ t1 ⟨rfl, et1, rt1⟩
  refine pi_rt 2 (v := some (.int (W.hd k))) (σ' := t1) (fun f => rfl) ?_
  exact ⟨rfl, et1, pi_fr_tr rt1 (by decide) (pi_fr_rf)⟩
set_option maxRecDepth 20000 in
theorem pi_C_chg2 {xs : Nat → Int32} {L d : Nat} {W : zW} {σ : pi_S} (hc : z_CK W σ) {k b : Nat} (hkn : k < 8) (hb : b ≤ 9) (hb1 : 1 ≤ b)  : pi_wp xs L (d + 2) 25 0 [some (.ref 12), some (.int (nI 2)), some (.int (nI k)), some (.int (nI b))] [] σ (fun v s => v = some (.int (W.pr k)) ∧ s 15 = upd (σ 15) k (nI b) ∧ pi_fr [15] s σ) := by
  have hk := hc.p.wk
  have hnd8 := hk.wd.nd8
  have hns12 := hk.wd.ns12
  have hn60 := hk.nine
  have hnf := hk.nf
  have hnw := hk.nw
  have hnc := hk.nc
  have hn08 := hk.wd.n0
  have hn140 := hk.wd.n1
  refine pi_go 2 (pc' := 79) (l' := [some (.ref 12), some (.int (nI 2)), some (.int (nI k)), some (.int (nI b))]) (st' := []) (σ' := σ) (fun f => rfl) ?_
  refine pi_cf 3 (c := nI b < nI 1) (pc' := 84) (l' := [some (.ref 12), some (.int (nI 2)), some (.int (nI k)), some (.int (nI b))]) (st' := []) (σ' := σ) (pc2 := 102) (l2 := [some (.ref 12), some (.int (nI 2)), some (.int (nI k)), some (.int (nI b))]) (st2 := []) (σ2 := σ) (fun f => rfl) (fun q => absurd ((nI_ltI (by omega) (by omega)).mp q) (by omega)) ?_
  refine pi_cf 3 (c := nI 9 < nI b) (pc' := 90) (l' := [some (.ref 12), some (.int (nI 2)), some (.int (nI k)), some (.int (nI b))]) (st' := []) (σ' := σ) (pc2 := 102) (l2 := [some (.ref 12), some (.int (nI 2)), some (.int (nI k)), some (.int (nI b))]) (st2 := []) (σ2 := σ) (fun f => rfl) (fun q => absurd ((nI_ltI (by omega) (by omega)).mp q) (by omega)) ?_
  refine pi_ca 5 (m' := 26) (l' := [some (.ref 15), some (.int (nI k)), some (.int (nI b)), none]) (σ' := σ) (pc2 := 99) (l2 := [some (.ref 12), some (.int (nI 2)), some (.int (nI k)), some (.int (nI b))]) (t := []) (fun f => rfl) (pi_C_exch_pr hc (by omega) (nI b)) ?_
  rintro _ t1 ⟨rfl, et1, rt1⟩
  refine pi_rt 2 (v := some (.int (W.pr k))) (σ' := t1) (fun f => rfl) ?_
  exact ⟨rfl, et1, pi_fr_tr rt1 (by decide) (pi_fr_rf)⟩
set_option maxRecDepth 20000 in
theorem pi_C_chg3 {xs : Nat → Int32} {L d : Nat} {W : zW} {σ : pi_S} (hc : z_CK W σ) {b : Nat} (hb : b < 60)  : pi_wp xs L (d + 2) 25 0 [some (.ref 12), some (.int (nI 3)), some (.int (nI 0)), some (.int (nI b))] [] σ (fun v s => v = some (.int (nI W.nine)) ∧ s 12 3 = nI b ∧ pi_fr [12] s σ) := by
  have hk := hc.p.wk
  have hnd8 := hk.wd.nd8
  have hns12 := hk.wd.ns12
  have hn60 := hk.nine
  have hnf := hk.nf
  have hnw := hk.nw
  have hnc := hk.nc
  have hn08 := hk.wd.n0
  have hn140 := hk.wd.n1
  refine pi_go 2 (pc' := 105) (l' := [some (.ref 12), some (.int (nI 3)), some (.int (nI 0)), some (.int (nI b))]) (st' := []) (σ' := σ) (fun f => rfl) ?_
  refine pi_ct 2 (c := nI 0 = 0) (pc' := 109) (l' := [some (.ref 12), some (.int (nI 3)), some (.int (nI 0)), some (.int (nI b))]) (st' := []) (σ' := σ) (pc2 := 117) (l2 := [some (.ref 12), some (.int (nI 3)), some (.int (nI 0)), some (.int (nI b))]) (st2 := []) (σ2 := σ) (fun f => rfl) (by decide) ?_
  refine pi_ca 3 (m' := 27) (l' := [some (.ref 12), some (.int (nI b)), none]) (σ' := σ) (pc2 := 114) (l2 := [some (.ref 12), some (.int (nI 3)), some (.int (nI 0)), some (.int (nI b))]) (t := []) (fun f => rfl) (pi_C_chNine hc (by omega)) ?_
  rintro _ t1 ⟨rfl, et1, rt1⟩
  refine pi_rt 2 (v := some (.int (nI W.nine))) (σ' := t1) (fun f => rfl) ?_
  exact ⟨rfl, et1, pi_fr_tr rt1 (by decide) (pi_fr_rf)⟩
set_option maxRecDepth 20000 in
theorem pi_C_chg0_bad {xs : Nat → Int32} {L d : Nat} {W : zW} {σ : pi_S} (hc : z_CK W σ) {b c : Int32} (hb : ¬ (z_B 5 b ∧ z_B 10 c))  : pi_wp xs L (d + 2) 25 0 [some (.ref 12), some (.int (nI 0)), some (.int b), some (.int c)] [] σ (fun v s => v = some (.int (-2)) ∧ σ = s) := by
  have hk := hc.p.wk
  have hnd8 := hk.wd.nd8
  have hns12 := hk.wd.ns12
  have hn60 := hk.nine
  have hnf := hk.nf
  have hnw := hk.nw
  have hnc := hk.nc
  have hn08 := hk.wd.n0
  have hn140 := hk.wd.n1
  refine pi_go 2 (pc' := 32) (l' := [some (.ref 12), some (.int (nI 0)), some (.int b), some (.int c)]) (st' := []) (σ' := σ) (fun f => rfl) ?_
  refine pi_if 2 (c := c < 0) (pc' := 54) (l' := [some (.ref 12), some (.int (nI 0)), some (.int b), some (.int c)]) (st' := []) (σ' := σ) (pc2 := 36) (l2 := [some (.ref 12), some (.int (nI 0)), some (.int b), some (.int c)]) (st2 := []) (σ2 := σ) (fun f => rfl) (fun h1 => ?_) (fun h1 => ?_)
  · refine pi_rt 2 (v := some (.int (-2))) (σ' := σ) (fun f => rfl) ?_
    exact ⟨rfl, rfl⟩
  · refine pi_if 3 (c := nI 9 < c) (pc' := 54) (l' := [some (.ref 12), some (.int (nI 0)), some (.int b), some (.int c)]) (st' := []) (σ' := σ) (pc2 := 42) (l2 := [some (.ref 12), some (.int (nI 0)), some (.int b), some (.int c)]) (st2 := []) (σ2 := σ) (fun f => rfl) (fun h2 => ?_) (fun h2 => ?_)
    · refine pi_rt 2 (v := some (.int (-2))) (σ' := σ) (fun f => rfl) ?_
      exact ⟨rfl, rfl⟩
    · refine pi_ca 5 (m' := 26) (l' := [some (.ref 13), some (.int b), some (.int c), none]) (σ' := σ) (pc2 := 51) (l2 := [some (.ref 12), some (.int (nI 0)), some (.int b), some (.int c)]) (t := []) (fun f => rfl) (pi_C_exch_rt_bad hc (fun q => hb ⟨q, (z_B_in (c := 9) (by omega)).mp ⟨Int32.not_lt.mp h1, Int32.not_lt.mp h2⟩⟩) c) ?_
      rintro _ _ ⟨rfl, rfl⟩
      refine pi_rt 2 (v := some (.int (-2))) (σ' := σ) (fun f => rfl) ?_
      exact ⟨rfl, rfl⟩
set_option maxRecDepth 20000 in
theorem pi_C_chg1_bad {xs : Nat → Int32} {L d : Nat} {W : zW} {σ : pi_S} (hc : z_CK W σ) {b c : Int32} (hb : ¬ (z_B 8 b ∧ z_B 100 c))  : pi_wp xs L (d + 2) 25 0 [some (.ref 12), some (.int (nI 1)), some (.int b), some (.int c)] [] σ (fun v s => v = some (.int (-2)) ∧ σ = s) := by
  have hk := hc.p.wk
  have hnd8 := hk.wd.nd8
  have hns12 := hk.wd.ns12
  have hn60 := hk.nine
  have hnf := hk.nf
  have hnw := hk.nw
  have hnc := hk.nc
  have hn08 := hk.wd.n0
  have hn140 := hk.wd.n1
  refine pi_go 2 (pc' := 57) (l' := [some (.ref 12), some (.int (nI 1)), some (.int b), some (.int c)]) (st' := []) (σ' := σ) (fun f => rfl) ?_
  refine pi_ca 2 (m' := 28) (l' := [some (.int c)]) (σ' := σ) (pc2 := 61) (l2 := [some (.ref 12), some (.int (nI 1)), some (.int b), some (.int c)]) (t := []) (fun f => rfl) (pi_C_isHold c) ?_
  rintro _ _ (⟨b1, rfl, rfl⟩ | ⟨b1, rfl, rfl⟩)
  · refine pi_cf 1 (c := nI 1 = 0) (pc' := 64) (l' := [some (.ref 12), some (.int (nI 1)), some (.int b), some (.int c)]) (st' := []) (σ' := σ) (pc2 := 76) (l2 := [some (.ref 12), some (.int (nI 1)), some (.int b), some (.int c)]) (st2 := []) (σ2 := σ) (fun f => rfl) (by decide) ?_
    refine pi_ca 5 (m' := 26) (l' := [some (.ref 14), some (.int b), some (.int c), none]) (σ' := σ) (pc2 := 73) (l2 := [some (.ref 12), some (.int (nI 1)), some (.int b), some (.int c)]) (t := []) (fun f => rfl) (pi_C_exch_hd_bad hc (fun q => hb ⟨q, b1⟩) c) ?_
    rintro _ _ ⟨rfl, rfl⟩
    refine pi_rt 2 (v := some (.int (-2))) (σ' := σ) (fun f => rfl) ?_
    exact ⟨rfl, rfl⟩
  · refine pi_ct 1 (c := nI 0 = 0) (pc' := 76) (l' := [some (.ref 12), some (.int (nI 1)), some (.int b), some (.int c)]) (st' := []) (σ' := σ) (pc2 := 64) (l2 := [some (.ref 12), some (.int (nI 1)), some (.int b), some (.int c)]) (st2 := []) (σ2 := σ) (fun f => rfl) (by decide) ?_
    refine pi_rt 2 (v := some (.int (-2))) (σ' := σ) (fun f => rfl) ?_
    exact ⟨rfl, rfl⟩
set_option maxRecDepth 20000 in
theorem pi_C_chg2_bad {xs : Nat → Int32} {L d : Nat} {W : zW} {σ : pi_S} (hc : z_CK W σ) {b c : Int32} (hb : ¬ (z_B 8 b ∧ z_P 9 c))  : pi_wp xs L (d + 2) 25 0 [some (.ref 12), some (.int (nI 2)), some (.int b), some (.int c)] [] σ (fun v s => v = some (.int (-2)) ∧ σ = s) := by
  have hk := hc.p.wk
  have hnd8 := hk.wd.nd8
  have hns12 := hk.wd.ns12
  have hn60 := hk.nine
  have hnf := hk.nf
  have hnw := hk.nw
  have hnc := hk.nc
  have hn08 := hk.wd.n0
  have hn140 := hk.wd.n1
  refine pi_go 2 (pc' := 79) (l' := [some (.ref 12), some (.int (nI 2)), some (.int b), some (.int c)]) (st' := []) (σ' := σ) (fun f => rfl) ?_
  refine pi_if 3 (c := c < nI 1) (pc' := 102) (l' := [some (.ref 12), some (.int (nI 2)), some (.int b), some (.int c)]) (st' := []) (σ' := σ) (pc2 := 84) (l2 := [some (.ref 12), some (.int (nI 2)), some (.int b), some (.int c)]) (st2 := []) (σ2 := σ) (fun f => rfl) (fun h1 => ?_) (fun h1 => ?_)
  · refine pi_rt 2 (v := some (.int (-2))) (σ' := σ) (fun f => rfl) ?_
    exact ⟨rfl, rfl⟩
  · refine pi_if 3 (c := nI 9 < c) (pc' := 102) (l' := [some (.ref 12), some (.int (nI 2)), some (.int b), some (.int c)]) (st' := []) (σ' := σ) (pc2 := 90) (l2 := [some (.ref 12), some (.int (nI 2)), some (.int b), some (.int c)]) (st2 := []) (σ2 := σ) (fun f => rfl) (fun h2 => ?_) (fun h2 => ?_)
    · refine pi_rt 2 (v := some (.int (-2))) (σ' := σ) (fun f => rfl) ?_
      exact ⟨rfl, rfl⟩
    · refine pi_ca 5 (m' := 26) (l' := [some (.ref 15), some (.int b), some (.int c), none]) (σ' := σ) (pc2 := 99) (l2 := [some (.ref 12), some (.int (nI 2)), some (.int b), some (.int c)]) (t := []) (fun f => rfl) (pi_C_exch_pr_bad hc (fun q => hb ⟨q, (z_P_in (by omega)).mp ⟨Int32.not_lt.mp h1, Int32.not_lt.mp h2⟩⟩) c) ?_
      rintro _ _ ⟨rfl, rfl⟩
      refine pi_rt 2 (v := some (.int (-2))) (σ' := σ) (fun f => rfl) ?_
      exact ⟨rfl, rfl⟩
set_option maxRecDepth 20000 in
theorem pi_C_chg3_bad {xs : Nat → Int32} {L d : Nat} {W : zW} {σ : pi_S} (hc : z_CK W σ) {b c : Int32} (hb : ¬ (z_B 1 b ∧ z_B 60 c))  : pi_wp xs L (d + 2) 25 0 [some (.ref 12), some (.int (nI 3)), some (.int b), some (.int c)] [] σ (fun v s => v = some (.int (-2)) ∧ σ = s) := by
  have hk := hc.p.wk
  have hnd8 := hk.wd.nd8
  have hns12 := hk.wd.ns12
  have hn60 := hk.nine
  have hnf := hk.nf
  have hnw := hk.nw
  have hnc := hk.nc
  have hn08 := hk.wd.n0
  have hn140 := hk.wd.n1
  refine pi_go 2 (pc' := 105) (l' := [some (.ref 12), some (.int (nI 3)), some (.int b), some (.int c)]) (st' := []) (σ' := σ) (fun f => rfl) ?_
  refine pi_if 2 (c := b = 0) (pc' := 109) (l' := [some (.ref 12), some (.int (nI 3)), some (.int b), some (.int c)]) (st' := []) (σ' := σ) (pc2 := 117) (l2 := [some (.ref 12), some (.int (nI 3)), some (.int b), some (.int c)]) (st2 := []) (σ2 := σ) (fun f => rfl) (fun h1 => ?_) (fun h1 => ?_)
  · refine pi_ca 3 (m' := 27) (l' := [some (.ref 12), some (.int c), none]) (σ' := σ) (pc2 := 114) (l2 := [some (.ref 12), some (.int (nI 3)), some (.int b), some (.int c)]) (t := []) (fun f => rfl) (pi_C_chNine_bad hc (fun q => hb ⟨⟨0, by omega, h1⟩, q⟩)) ?_
    rintro _ _ ⟨rfl, rfl⟩
    refine pi_rt 2 (v := some (.int (-2))) (σ' := σ) (fun f => rfl) ?_
    exact ⟨rfl, rfl⟩
  · refine pi_rt 2 (v := some (.int (-2))) (σ' := σ) (fun f => rfl) ?_
    exact ⟨rfl, rfl⟩
theorem z_sw4 {a : Int32} (h : ¬ z_B 4 a) : a.toInt < (0 : Int) ∨ (3 : Int) < a.toInt := by
  refine Classical.byContradiction fun q => h ((z_B_in (c := 3) (by omega)).mp ?_)
  have q1 : ¬ a.toInt < 0 := fun z => q (Or.inl z)
  have q2 : ¬ (3 : Int) < a.toInt := fun z => q (Or.inr z)
  rw [Int32.le_iff_toInt_le, Int32.le_iff_toInt_le, nI_toInt (by omega), nI_toInt (by omega)]
  omega
set_option maxRecDepth 20000 in
theorem pi_C_chgx_bad {xs : Nat → Int32} {L d : Nat} {W : zW} {σ : pi_S} (hc : z_CK W σ) {a b c : Int32} (hb : ¬ z_B 4 a)  : pi_wp xs L (d + 2) 25 0 [some (.ref 12), some (.int a), some (.int b), some (.int c)] [] σ (fun v s => v = some (.int (-2)) ∧ σ = s) := by
  have hk := hc.p.wk
  have hnd8 := hk.wd.nd8
  have hns12 := hk.wd.ns12
  have hn60 := hk.nine
  have hnf := hk.nf
  have hnw := hk.nw
  have hnc := hk.nc
  have hn08 := hk.wd.n0
  have hn140 := hk.wd.n1
  refine pi_go 2 (pc' := 120) (l' := [some (.ref 12), some (.int a), some (.int b), some (.int c)]) (st' := []) (σ' := σ) (fun f => if_pos (z_sw4 hb)) ?_
  refine pi_rt 2 (v := some (.int (-2))) (σ' := σ) (fun f => rfl) ?_
  exact ⟨rfl, rfl⟩
set_option maxRecDepth 20000 in
theorem pi_X_type0 {xs : Nat → Int32} {L d : Nat} {W : zW} {σ : pi_S} (hR : z_CR W σ) {c : Nat} {V : zW} (hc : c < 256) (hn : W.n0 < 8) (hw : z_wd (((W.sN 0 (W.n0 + 1)).sI 0 (upd W.tx (0 + W.n0) (nI c))).der V))  : pi_wp xs L (d + 9) 61 0 [some (.ref 0), some (.int (nI 0)), some (.int (nI c)), none] [] σ (fun v s => v = some (.int (nI (W.n0 + 1))) ∧ z_CR (((W.sN 0 (W.n0 + 1)).sI 0 (upd W.tx (0 + W.n0) (nI c))).der V) s ∧ pi_fr z_CC s σ) := by
  have hk := hR.k.p.wk
  have hnd8 := hk.wd.nd8
  have hns12 := hk.wd.ns12
  have hn60 := hk.nine
  have hnf := hk.nf
  have hnw := hk.nw
  have hnc := hk.nc
  have hn08 := hk.wd.n0
  have hn140 := hk.wd.n1
  refine pi_ca 3 (m' := 94) (l' := [some (.int (nI 0)), some (.int (nI 2))]) (σ' := σ) (pc2 := 5) (l2 := [some (.ref 0), some (.int (nI 0)), some (.int (nI c)), none]) (t := []) (fun f => rfl) (pi_below1 _ _ (z_BL (by omega) (by omega))) ?_
  rintro _ _ ⟨rfl, rfl⟩
  refine pi_cf 1 (c := nI 1 = 0) (pc' := 8) (l' := [some (.ref 0), some (.int (nI 0)), some (.int (nI c)), none]) (st' := []) (σ' := σ) (pc2 := 18) (l2 := [some (.ref 0), some (.int (nI 0)), some (.int (nI c)), none]) (st2 := []) (σ2 := σ) (fun f => rfl) (by decide) ?_
  refine pi_ca 3 (m' := 94) (l' := [some (.int (nI c)), some (.int (nI 256))]) (σ' := σ) (pc2 := 15) (l2 := [some (.ref 0), some (.int (nI 0)), some (.int (nI c)), none]) (t := []) (fun f => rfl) (pi_below1 _ _ (z_BL (by omega) (by omega))) ?_
  rintro _ _ ⟨rfl, rfl⟩
  refine pi_cf 1 (c := nI 1 = 0) (pc' := 21) (l' := [some (.ref 0), some (.int (nI 0)), some (.int (nI c)), none]) (st' := []) (σ' := σ) (pc2 := 18) (l2 := [some (.ref 0), some (.int (nI 0)), some (.int (nI c)), none]) (st2 := []) (σ2 := σ) (fun f => rfl) (by decide) ?_
  refine pi_ca 4 (m' := 47) (l' := [some (.ref 1), some (.int (nI 0))]) (σ' := σ) (pc2 := 29) (l2 := [some (.ref 0), some (.int (nI 0)), some (.int (nI c)), none]) (t := []) (fun f => rfl) (pi_C_textOf0) ?_
  rintro _ _ ⟨rfl, rfl⟩
  refine pi_ca 2 (m' := 43) (l' := [some (.ref 2), some (.int (nI c))]) (σ' := σ) (pc2 := 33) (l2 := [some (.ref 0), some (.int (nI 0)), some (.int (nI c)), none]) (t := []) (fun f => rfl) (pi_C_tapp0 hR.k (nI c) hn) ?_
  rintro _ t1 ⟨rfl, mt1, gt1, et1, rt1⟩
  have hcp : z_CP (((W.sN 0 (W.n0 + 1)).sI 0 (upd W.tx (0 + W.n0) (nI c))).der V) t1 := hR.k.p.ty0 hw mt1 gt1 et1 (pi_fr_tr rt1 (by decide) (pi_fr_rf))
  refine pi_ca 4 (m' := 50) (l' := [some (.ref 1), none]) (σ' := t1) (pc2 := 41) (l2 := [some (.ref 0), some (.int (nI 0)), some (.int (nI c)), some (.int (nI (W.n0 + 1)))]) (t := []) (fun f => rfl) (pi_C_survey hcp.wk (z_TX.mk hcp.n0 hcp.n1 hcp.t0 hcp.t1)) ?_
  rintro _ t2 ⟨rfl, ctt2, rt2⟩
  have hck := z_CK.mk (hcp.of (pi_fr_tr rt2 (by decide) pi_fr_rf)) ctt2
  refine pi_ca 3 (m' := 97) (l' := [some (.ref 0), some (.int (nI (W.n0 + 1)))]) (σ' := t2) (pc2 := 46) (l2 := [some (.ref 0), some (.int (nI 0)), some (.int (nI c)), some (.int (nI (W.n0 + 1)))]) (t := []) (fun f => rfl) (pi_C_settled hck (hR.tl.of (pi_fr_tr rt2 (by decide) (pi_fr_tr rt1 (by decide) (pi_fr_rf)))) (nI (W.n0 + 1))) ?_
  rintro _ t3 ⟨rfl, gt3, rt3⟩
  refine pi_rt 1 (v := some (.int (nI (W.n0 + 1)))) (σ' := t3) (fun f => rfl) ?_
  exact ⟨rfl, gt3, pi_fr_tr rt3 (by decide) (pi_fr_tr rt2 (by decide) (pi_fr_tr rt1 (by decide) (pi_fr_rf)))⟩
set_option maxRecDepth 20000 in
theorem pi_X_type0_full {xs : Nat → Int32} {L d : Nat} {W : zW} {σ : pi_S} (hR : z_CR W σ) {c : Nat} (hc : c < 256) (hn : W.n0 = 8)  : pi_wp xs L (d + 9) 61 0 [some (.ref 0), some (.int (nI 0)), some (.int (nI c)), none] [] σ (fun v s => v = some (.int (-4)) ∧ z_CR W s ∧ pi_fr z_CC s σ) := by
  have hk := hR.k.p.wk
  have hnd8 := hk.wd.nd8
  have hns12 := hk.wd.ns12
  have hn60 := hk.nine
  have hnf := hk.nf
  have hnw := hk.nw
  have hnc := hk.nc
  have hn08 := hk.wd.n0
  have hn140 := hk.wd.n1
  refine pi_ca 3 (m' := 94) (l' := [some (.int (nI 0)), some (.int (nI 2))]) (σ' := σ) (pc2 := 5) (l2 := [some (.ref 0), some (.int (nI 0)), some (.int (nI c)), none]) (t := []) (fun f => rfl) (pi_below1 _ _ (z_BL (by omega) (by omega))) ?_
  rintro _ _ ⟨rfl, rfl⟩
  refine pi_cf 1 (c := nI 1 = 0) (pc' := 8) (l' := [some (.ref 0), some (.int (nI 0)), some (.int (nI c)), none]) (st' := []) (σ' := σ) (pc2 := 18) (l2 := [some (.ref 0), some (.int (nI 0)), some (.int (nI c)), none]) (st2 := []) (σ2 := σ) (fun f => rfl) (by decide) ?_
  refine pi_ca 3 (m' := 94) (l' := [some (.int (nI c)), some (.int (nI 256))]) (σ' := σ) (pc2 := 15) (l2 := [some (.ref 0), some (.int (nI 0)), some (.int (nI c)), none]) (t := []) (fun f => rfl) (pi_below1 _ _ (z_BL (by omega) (by omega))) ?_
  rintro _ _ ⟨rfl, rfl⟩
  refine pi_cf 1 (c := nI 1 = 0) (pc' := 21) (l' := [some (.ref 0), some (.int (nI 0)), some (.int (nI c)), none]) (st' := []) (σ' := σ) (pc2 := 18) (l2 := [some (.ref 0), some (.int (nI 0)), some (.int (nI c)), none]) (st2 := []) (σ2 := σ) (fun f => rfl) (by decide) ?_
  refine pi_ca 4 (m' := 47) (l' := [some (.ref 1), some (.int (nI 0))]) (σ' := σ) (pc2 := 29) (l2 := [some (.ref 0), some (.int (nI 0)), some (.int (nI c)), none]) (t := []) (fun f => rfl) (pi_C_textOf0) ?_
  rintro _ _ ⟨rfl, rfl⟩
  refine pi_ca 2 (m' := 43) (l' := [some (.ref 2), some (.int (nI c))]) (σ' := σ) (pc2 := 33) (l2 := [some (.ref 0), some (.int (nI 0)), some (.int (nI c)), none]) (t := []) (fun f => rfl) (pi_C_tapp0_full hR.k (nI c) hn) ?_
  rintro _ _ ⟨rfl, rfl⟩
  have hcp := hR.k.p
  refine pi_ca 4 (m' := 50) (l' := [some (.ref 1), none]) (σ' := σ) (pc2 := 41) (l2 := [some (.ref 0), some (.int (nI 0)), some (.int (nI c)), some (.int (-4))]) (t := []) (fun f => rfl) (pi_C_survey hcp.wk (z_TX.mk hcp.n0 hcp.n1 hcp.t0 hcp.t1)) ?_
  rintro _ t1 ⟨rfl, ctt1, rt1⟩
  have hck := z_CK.mk (hcp.of (pi_fr_tr rt1 (by decide) pi_fr_rf)) ctt1
  refine pi_ca 3 (m' := 97) (l' := [some (.ref 0), some (.int (-4))]) (σ' := t1) (pc2 := 46) (l2 := [some (.ref 0), some (.int (nI 0)), some (.int (nI c)), some (.int (-4))]) (t := []) (fun f => rfl) (pi_C_settled hck (hR.tl.of (pi_fr_tr rt1 (by decide) (pi_fr_rf))) (-4)) ?_
  rintro _ t2 ⟨rfl, gt2, rt2⟩
  refine pi_rt 1 (v := some (.int (-4))) (σ' := t2) (fun f => rfl) ?_
  exact ⟨rfl, gt2, pi_fr_tr rt2 (by decide) (pi_fr_tr rt1 (by decide) (pi_fr_rf))⟩
set_option maxRecDepth 20000 in
theorem pi_X_wipe0 {xs : Nat → Int32} {L d : Nat} {W : zW} {σ : pi_S} (hR : z_CR W σ) {V : zW} (hw : z_wd ((W.sN 0 0).der V))  : pi_wp xs L (d + 9) 62 0 [some (.ref 0), some (.int (nI 0)), none] [] σ (fun v s => v = some (.int (nI W.n0)) ∧ z_CR ((W.sN 0 0).der V) s ∧ pi_fr z_CC s σ) := by
  have hk := hR.k.p.wk
  have hnd8 := hk.wd.nd8
  have hns12 := hk.wd.ns12
  have hn60 := hk.nine
  have hnf := hk.nf
  have hnw := hk.nw
  have hnc := hk.nc
  have hn08 := hk.wd.n0
  have hn140 := hk.wd.n1
  refine pi_ca 3 (m' := 94) (l' := [some (.int (nI 0)), some (.int (nI 2))]) (σ' := σ) (pc2 := 5) (l2 := [some (.ref 0), some (.int (nI 0)), none]) (t := []) (fun f => rfl) (pi_below1 _ _ (z_BL (by omega) (by omega))) ?_
  rintro _ _ ⟨rfl, rfl⟩
  refine pi_cf 1 (c := nI 1 = 0) (pc' := 11) (l' := [some (.ref 0), some (.int (nI 0)), none]) (st' := []) (σ' := σ) (pc2 := 8) (l2 := [some (.ref 0), some (.int (nI 0)), none]) (st2 := []) (σ2 := σ) (fun f => rfl) (by decide) ?_
  refine pi_ca 4 (m' := 47) (l' := [some (.ref 1), some (.int (nI 0))]) (σ' := σ) (pc2 := 19) (l2 := [some (.ref 0), some (.int (nI 0)), none]) (t := []) (fun f => rfl) (pi_C_textOf0) ?_
  rintro _ _ ⟨rfl, rfl⟩
  refine pi_ca 1 (m' := 44) (l' := [some (.ref 2), none]) (σ' := σ) (pc2 := 22) (l2 := [some (.ref 0), some (.int (nI 0)), none]) (t := []) (fun f => rfl) (pi_C_temp0 hR.k) ?_
  rintro _ t1 ⟨rfl, mt1, gt1, rt1⟩
  have hcp : z_CP ((W.sN 0 0).der V) t1 := hR.k.p.wi0 hw mt1 gt1 (pi_fr_tr rt1 (by decide) (pi_fr_rf))
  refine pi_ca 4 (m' := 50) (l' := [some (.ref 1), none]) (σ' := t1) (pc2 := 30) (l2 := [some (.ref 0), some (.int (nI 0)), some (.int (nI W.n0))]) (t := []) (fun f => rfl) (pi_C_survey hcp.wk (z_TX.mk hcp.n0 hcp.n1 hcp.t0 hcp.t1)) ?_
  rintro _ t2 ⟨rfl, ctt2, rt2⟩
  have hck := z_CK.mk (hcp.of (pi_fr_tr rt2 (by decide) pi_fr_rf)) ctt2
  refine pi_ca 3 (m' := 97) (l' := [some (.ref 0), some (.int (nI W.n0))]) (σ' := t2) (pc2 := 35) (l2 := [some (.ref 0), some (.int (nI 0)), some (.int (nI W.n0))]) (t := []) (fun f => rfl) (pi_C_settled hck (hR.tl.of (pi_fr_tr rt2 (by decide) (pi_fr_tr rt1 (by decide) (pi_fr_rf)))) (nI W.n0)) ?_
  rintro _ t3 ⟨rfl, gt3, rt3⟩
  refine pi_rt 1 (v := some (.int (nI W.n0))) (σ' := t3) (fun f => rfl) ?_
  exact ⟨rfl, gt3, pi_fr_tr rt3 (by decide) (pi_fr_tr rt2 (by decide) (pi_fr_tr rt1 (by decide) (pi_fr_rf)))⟩
set_option maxRecDepth 20000 in
theorem pi_X_type1 {xs : Nat → Int32} {L d : Nat} {W : zW} {σ : pi_S} (hR : z_CR W σ) {c : Nat} {V : zW} (hc : c < 256) (hn : W.n1 < 40) (hw : z_wd (((W.sN 1 (W.n1 + 1)).sI 0 (upd W.tx (40 + W.n1) (nI c))).der V))  : pi_wp xs L (d + 9) 61 0 [some (.ref 0), some (.int (nI 1)), some (.int (nI c)), none] [] σ (fun v s => v = some (.int (nI (W.n1 + 1))) ∧ z_CR (((W.sN 1 (W.n1 + 1)).sI 0 (upd W.tx (40 + W.n1) (nI c))).der V) s ∧ pi_fr z_CC s σ) := by
  have hk := hR.k.p.wk
  have hnd8 := hk.wd.nd8
  have hns12 := hk.wd.ns12
  have hn60 := hk.nine
  have hnf := hk.nf
  have hnw := hk.nw
  have hnc := hk.nc
  have hn08 := hk.wd.n0
  have hn140 := hk.wd.n1
  refine pi_ca 3 (m' := 94) (l' := [some (.int (nI 1)), some (.int (nI 2))]) (σ' := σ) (pc2 := 5) (l2 := [some (.ref 0), some (.int (nI 1)), some (.int (nI c)), none]) (t := []) (fun f => rfl) (pi_below1 _ _ (z_BL (by omega) (by omega))) ?_
  rintro _ _ ⟨rfl, rfl⟩
  refine pi_cf 1 (c := nI 1 = 0) (pc' := 8) (l' := [some (.ref 0), some (.int (nI 1)), some (.int (nI c)), none]) (st' := []) (σ' := σ) (pc2 := 18) (l2 := [some (.ref 0), some (.int (nI 1)), some (.int (nI c)), none]) (st2 := []) (σ2 := σ) (fun f => rfl) (by decide) ?_
  refine pi_ca 3 (m' := 94) (l' := [some (.int (nI c)), some (.int (nI 256))]) (σ' := σ) (pc2 := 15) (l2 := [some (.ref 0), some (.int (nI 1)), some (.int (nI c)), none]) (t := []) (fun f => rfl) (pi_below1 _ _ (z_BL (by omega) (by omega))) ?_
  rintro _ _ ⟨rfl, rfl⟩
  refine pi_cf 1 (c := nI 1 = 0) (pc' := 21) (l' := [some (.ref 0), some (.int (nI 1)), some (.int (nI c)), none]) (st' := []) (σ' := σ) (pc2 := 18) (l2 := [some (.ref 0), some (.int (nI 1)), some (.int (nI c)), none]) (st2 := []) (σ2 := σ) (fun f => rfl) (by decide) ?_
  refine pi_ca 4 (m' := 47) (l' := [some (.ref 1), some (.int (nI 1))]) (σ' := σ) (pc2 := 29) (l2 := [some (.ref 0), some (.int (nI 1)), some (.int (nI c)), none]) (t := []) (fun f => rfl) (pi_C_textOf1) ?_
  rintro _ _ ⟨rfl, rfl⟩
  refine pi_ca 2 (m' := 43) (l' := [some (.ref 4), some (.int (nI c))]) (σ' := σ) (pc2 := 33) (l2 := [some (.ref 0), some (.int (nI 1)), some (.int (nI c)), none]) (t := []) (fun f => rfl) (pi_C_tapp1 hR.k (nI c) hn) ?_
  rintro _ t1 ⟨rfl, mt1, gt1, et1, rt1⟩
  have hcp : z_CP (((W.sN 1 (W.n1 + 1)).sI 0 (upd W.tx (40 + W.n1) (nI c))).der V) t1 := hR.k.p.ty1 hw mt1 gt1 et1 (pi_fr_tr rt1 (by decide) (pi_fr_rf))
  refine pi_ca 4 (m' := 50) (l' := [some (.ref 1), none]) (σ' := t1) (pc2 := 41) (l2 := [some (.ref 0), some (.int (nI 1)), some (.int (nI c)), some (.int (nI (W.n1 + 1)))]) (t := []) (fun f => rfl) (pi_C_survey hcp.wk (z_TX.mk hcp.n0 hcp.n1 hcp.t0 hcp.t1)) ?_
  rintro _ t2 ⟨rfl, ctt2, rt2⟩
  have hck := z_CK.mk (hcp.of (pi_fr_tr rt2 (by decide) pi_fr_rf)) ctt2
  refine pi_ca 3 (m' := 97) (l' := [some (.ref 0), some (.int (nI (W.n1 + 1)))]) (σ' := t2) (pc2 := 46) (l2 := [some (.ref 0), some (.int (nI 1)), some (.int (nI c)), some (.int (nI (W.n1 + 1)))]) (t := []) (fun f => rfl) (pi_C_settled hck (hR.tl.of (pi_fr_tr rt2 (by decide) (pi_fr_tr rt1 (by decide) (pi_fr_rf)))) (nI (W.n1 + 1))) ?_
  rintro _ t3 ⟨rfl, gt3, rt3⟩
  refine pi_rt 1 (v := some (.int (nI (W.n1 + 1)))) (σ' := t3) (fun f => rfl) ?_
  exact ⟨rfl, gt3, pi_fr_tr rt3 (by decide) (pi_fr_tr rt2 (by decide) (pi_fr_tr rt1 (by decide) (pi_fr_rf)))⟩
set_option maxRecDepth 20000 in
theorem pi_X_type1_full {xs : Nat → Int32} {L d : Nat} {W : zW} {σ : pi_S} (hR : z_CR W σ) {c : Nat} (hc : c < 256) (hn : W.n1 = 40)  : pi_wp xs L (d + 9) 61 0 [some (.ref 0), some (.int (nI 1)), some (.int (nI c)), none] [] σ (fun v s => v = some (.int (-4)) ∧ z_CR W s ∧ pi_fr z_CC s σ) := by
  have hk := hR.k.p.wk
  have hnd8 := hk.wd.nd8
  have hns12 := hk.wd.ns12
  have hn60 := hk.nine
  have hnf := hk.nf
  have hnw := hk.nw
  have hnc := hk.nc
  have hn08 := hk.wd.n0
  have hn140 := hk.wd.n1
  refine pi_ca 3 (m' := 94) (l' := [some (.int (nI 1)), some (.int (nI 2))]) (σ' := σ) (pc2 := 5) (l2 := [some (.ref 0), some (.int (nI 1)), some (.int (nI c)), none]) (t := []) (fun f => rfl) (pi_below1 _ _ (z_BL (by omega) (by omega))) ?_
  rintro _ _ ⟨rfl, rfl⟩
  refine pi_cf 1 (c := nI 1 = 0) (pc' := 8) (l' := [some (.ref 0), some (.int (nI 1)), some (.int (nI c)), none]) (st' := []) (σ' := σ) (pc2 := 18) (l2 := [some (.ref 0), some (.int (nI 1)), some (.int (nI c)), none]) (st2 := []) (σ2 := σ) (fun f => rfl) (by decide) ?_
  refine pi_ca 3 (m' := 94) (l' := [some (.int (nI c)), some (.int (nI 256))]) (σ' := σ) (pc2 := 15) (l2 := [some (.ref 0), some (.int (nI 1)), some (.int (nI c)), none]) (t := []) (fun f => rfl) (pi_below1 _ _ (z_BL (by omega) (by omega))) ?_
  rintro _ _ ⟨rfl, rfl⟩
  refine pi_cf 1 (c := nI 1 = 0) (pc' := 21) (l' := [some (.ref 0), some (.int (nI 1)), some (.int (nI c)), none]) (st' := []) (σ' := σ) (pc2 := 18) (l2 := [some (.ref 0), some (.int (nI 1)), some (.int (nI c)), none]) (st2 := []) (σ2 := σ) (fun f => rfl) (by decide) ?_
  refine pi_ca 4 (m' := 47) (l' := [some (.ref 1), some (.int (nI 1))]) (σ' := σ) (pc2 := 29) (l2 := [some (.ref 0), some (.int (nI 1)), some (.int (nI c)), none]) (t := []) (fun f => rfl) (pi_C_textOf1) ?_
  rintro _ _ ⟨rfl, rfl⟩
  refine pi_ca 2 (m' := 43) (l' := [some (.ref 4), some (.int (nI c))]) (σ' := σ) (pc2 := 33) (l2 := [some (.ref 0), some (.int (nI 1)), some (.int (nI c)), none]) (t := []) (fun f => rfl) (pi_C_tapp1_full hR.k (nI c) hn) ?_
  rintro _ _ ⟨rfl, rfl⟩
  have hcp := hR.k.p
  refine pi_ca 4 (m' := 50) (l' := [some (.ref 1), none]) (σ' := σ) (pc2 := 41) (l2 := [some (.ref 0), some (.int (nI 1)), some (.int (nI c)), some (.int (-4))]) (t := []) (fun f => rfl) (pi_C_survey hcp.wk (z_TX.mk hcp.n0 hcp.n1 hcp.t0 hcp.t1)) ?_
  rintro _ t1 ⟨rfl, ctt1, rt1⟩
  have hck := z_CK.mk (hcp.of (pi_fr_tr rt1 (by decide) pi_fr_rf)) ctt1
  refine pi_ca 3 (m' := 97) (l' := [some (.ref 0), some (.int (-4))]) (σ' := t1) (pc2 := 46) (l2 := [some (.ref 0), some (.int (nI 1)), some (.int (nI c)), some (.int (-4))]) (t := []) (fun f => rfl) (pi_C_settled hck (hR.tl.of (pi_fr_tr rt1 (by decide) (pi_fr_rf))) (-4)) ?_
  rintro _ t2 ⟨rfl, gt2, rt2⟩
  refine pi_rt 1 (v := some (.int (-4))) (σ' := t2) (fun f => rfl) ?_
  exact ⟨rfl, gt2, pi_fr_tr rt2 (by decide) (pi_fr_tr rt1 (by decide) (pi_fr_rf))⟩
set_option maxRecDepth 20000 in
theorem pi_X_wipe1 {xs : Nat → Int32} {L d : Nat} {W : zW} {σ : pi_S} (hR : z_CR W σ) {V : zW} (hw : z_wd ((W.sN 1 0).der V))  : pi_wp xs L (d + 9) 62 0 [some (.ref 0), some (.int (nI 1)), none] [] σ (fun v s => v = some (.int (nI W.n1)) ∧ z_CR ((W.sN 1 0).der V) s ∧ pi_fr z_CC s σ) := by
  have hk := hR.k.p.wk
  have hnd8 := hk.wd.nd8
  have hns12 := hk.wd.ns12
  have hn60 := hk.nine
  have hnf := hk.nf
  have hnw := hk.nw
  have hnc := hk.nc
  have hn08 := hk.wd.n0
  have hn140 := hk.wd.n1
  refine pi_ca 3 (m' := 94) (l' := [some (.int (nI 1)), some (.int (nI 2))]) (σ' := σ) (pc2 := 5) (l2 := [some (.ref 0), some (.int (nI 1)), none]) (t := []) (fun f => rfl) (pi_below1 _ _ (z_BL (by omega) (by omega))) ?_
  rintro _ _ ⟨rfl, rfl⟩
  refine pi_cf 1 (c := nI 1 = 0) (pc' := 11) (l' := [some (.ref 0), some (.int (nI 1)), none]) (st' := []) (σ' := σ) (pc2 := 8) (l2 := [some (.ref 0), some (.int (nI 1)), none]) (st2 := []) (σ2 := σ) (fun f => rfl) (by decide) ?_
  refine pi_ca 4 (m' := 47) (l' := [some (.ref 1), some (.int (nI 1))]) (σ' := σ) (pc2 := 19) (l2 := [some (.ref 0), some (.int (nI 1)), none]) (t := []) (fun f => rfl) (pi_C_textOf1) ?_
  rintro _ _ ⟨rfl, rfl⟩
  refine pi_ca 1 (m' := 44) (l' := [some (.ref 4), none]) (σ' := σ) (pc2 := 22) (l2 := [some (.ref 0), some (.int (nI 1)), none]) (t := []) (fun f => rfl) (pi_C_temp1 hR.k) ?_
  rintro _ t1 ⟨rfl, mt1, gt1, rt1⟩
  have hcp : z_CP ((W.sN 1 0).der V) t1 := hR.k.p.wi1 hw mt1 gt1 (pi_fr_tr rt1 (by decide) (pi_fr_rf))
  refine pi_ca 4 (m' := 50) (l' := [some (.ref 1), none]) (σ' := t1) (pc2 := 30) (l2 := [some (.ref 0), some (.int (nI 1)), some (.int (nI W.n1))]) (t := []) (fun f => rfl) (pi_C_survey hcp.wk (z_TX.mk hcp.n0 hcp.n1 hcp.t0 hcp.t1)) ?_
  rintro _ t2 ⟨rfl, ctt2, rt2⟩
  have hck := z_CK.mk (hcp.of (pi_fr_tr rt2 (by decide) pi_fr_rf)) ctt2
  refine pi_ca 3 (m' := 97) (l' := [some (.ref 0), some (.int (nI W.n1))]) (σ' := t2) (pc2 := 35) (l2 := [some (.ref 0), some (.int (nI 1)), some (.int (nI W.n1))]) (t := []) (fun f => rfl) (pi_C_settled hck (hR.tl.of (pi_fr_tr rt2 (by decide) (pi_fr_tr rt1 (by decide) (pi_fr_rf)))) (nI W.n1)) ?_
  rintro _ t3 ⟨rfl, gt3, rt3⟩
  refine pi_rt 1 (v := some (.int (nI W.n1))) (σ' := t3) (fun f => rfl) ?_
  exact ⟨rfl, gt3, pi_fr_tr rt3 (by decide) (pi_fr_tr rt2 (by decide) (pi_fr_tr rt1 (by decide) (pi_fr_rf)))⟩
set_option maxRecDepth 20000 in
theorem pi_X_type_bad {xs : Nat → Int32} {L d : Nat} {W : zW} {σ : pi_S} (hR : z_CR W σ) {a b : Int32} (hb : ¬ (z_B 2 a ∧ z_B 256 b))  : pi_wp xs L (d + 9) 61 0 [some (.ref 0), some (.int a), some (.int b), none] [] σ (fun v s => v = some (.int (-2)) ∧ z_CR W s ∧ pi_fr z_CJ s σ) := by
  have hk := hR.k.p.wk
  have hnd8 := hk.wd.nd8
  have hns12 := hk.wd.ns12
  have hn60 := hk.nine
  have hnf := hk.nf
  have hnw := hk.nw
  have hnc := hk.nc
  have hn08 := hk.wd.n0
  have hn140 := hk.wd.n1
  refine pi_ca 3 (m' := 94) (l' := [some (.int a), some (.int (nI 2))]) (σ' := σ) (pc2 := 5) (l2 := [some (.ref 0), some (.int a), some (.int b), none]) (t := []) (fun f => rfl) (pi_C_belowB (a := a) (n := 2) (by omega)) ?_
  rintro _ _ (⟨b1, rfl, rfl⟩ | ⟨b1, rfl, rfl⟩)
  · refine pi_cf 1 (c := nI 1 = 0) (pc' := 8) (l' := [some (.ref 0), some (.int a), some (.int b), none]) (st' := []) (σ' := σ) (pc2 := 18) (l2 := [some (.ref 0), some (.int a), some (.int b), none]) (st2 := []) (σ2 := σ) (fun f => rfl) (by decide) ?_
    refine pi_ca 3 (m' := 94) (l' := [some (.int b), some (.int (nI 256))]) (σ' := σ) (pc2 := 15) (l2 := [some (.ref 0), some (.int a), some (.int b), none]) (t := []) (fun f => rfl) (pi_C_belowB (a := b) (n := 256) (by omega)) ?_
    rintro _ _ (⟨b2, rfl, rfl⟩ | ⟨b2, rfl, rfl⟩)
    · refine pi_cf 1 (c := nI 1 = 0) (pc' := 21) (l' := [some (.ref 0), some (.int a), some (.int b), none]) (st' := []) (σ' := σ) (pc2 := 18) (l2 := [some (.ref 0), some (.int a), some (.int b), none]) (st2 := []) (σ2 := σ) (fun f => rfl) (by decide) ?_
      exact (hb ⟨b1, b2⟩).elim
    · refine pi_ct 1 (c := nI 0 = 0) (pc' := 18) (l' := [some (.ref 0), some (.int a), some (.int b), none]) (st' := []) (σ' := σ) (pc2 := 21) (l2 := [some (.ref 0), some (.int a), some (.int b), none]) (st2 := []) (σ2 := σ) (fun f => rfl) (by decide) ?_
      refine pi_rt 2 (v := some (.int (-2))) (σ' := σ) (fun f => rfl) ?_
      exact ⟨rfl, hR, pi_fr_rf⟩
  · refine pi_ct 1 (c := nI 0 = 0) (pc' := 18) (l' := [some (.ref 0), some (.int a), some (.int b), none]) (st' := []) (σ' := σ) (pc2 := 8) (l2 := [some (.ref 0), some (.int a), some (.int b), none]) (st2 := []) (σ2 := σ) (fun f => rfl) (by decide) ?_
    refine pi_rt 2 (v := some (.int (-2))) (σ' := σ) (fun f => rfl) ?_
    exact ⟨rfl, hR, pi_fr_rf⟩
set_option maxRecDepth 20000 in
theorem pi_X_wipe_bad {xs : Nat → Int32} {L d : Nat} {W : zW} {σ : pi_S} (hR : z_CR W σ) {a : Int32} (hb : ¬ (z_B 2 a))  : pi_wp xs L (d + 9) 62 0 [some (.ref 0), some (.int a), none] [] σ (fun v s => v = some (.int (-2)) ∧ z_CR W s ∧ pi_fr z_CJ s σ) := by
  have hk := hR.k.p.wk
  have hnd8 := hk.wd.nd8
  have hns12 := hk.wd.ns12
  have hn60 := hk.nine
  have hnf := hk.nf
  have hnw := hk.nw
  have hnc := hk.nc
  have hn08 := hk.wd.n0
  have hn140 := hk.wd.n1
  refine pi_ca 3 (m' := 94) (l' := [some (.int a), some (.int (nI 2))]) (σ' := σ) (pc2 := 5) (l2 := [some (.ref 0), some (.int a), none]) (t := []) (fun f => rfl) (pi_C_belowB (a := a) (n := 2) (by omega)) ?_
  rintro _ _ (⟨b1, rfl, rfl⟩ | ⟨b1, rfl, rfl⟩)
  · refine pi_cf 1 (c := nI 1 = 0) (pc' := 11) (l' := [some (.ref 0), some (.int a), none]) (st' := []) (σ' := σ) (pc2 := 8) (l2 := [some (.ref 0), some (.int a), none]) (st2 := []) (σ2 := σ) (fun f => rfl) (by decide) ?_
    exact (hb b1).elim
  · refine pi_ct 1 (c := nI 0 = 0) (pc' := 8) (l' := [some (.ref 0), some (.int a), none]) (st' := []) (σ' := σ) (pc2 := 11) (l2 := [some (.ref 0), some (.int a), none]) (st2 := []) (σ2 := σ) (fun f => rfl) (by decide) ?_
    refine pi_rt 2 (v := some (.int (-2))) (σ' := σ) (fun f => rfl) ?_
    exact ⟨rfl, hR, pi_fr_rf⟩
set_option maxRecDepth 20000 in
theorem pi_X_set0 {xs : Nat → Int32} {L d : Nat} {W : zW} {σ : pi_S} (hR : z_CR W σ) {k b : Nat} (hk5 : k < 5) (hb : b ≤ 9)  : pi_wp xs L (d + 9) 66 0 [some (.ref 0), some (.int (nI 0)), some (.int (nI k)), some (.int (nI b))] [] σ (fun v s => v = some (.int (W.rt k)) ∧ z_CR (W.sI 1 (upd W.rt k (nI b))) s ∧ pi_fr z_CC s σ) := by
  have hk := hR.k.p.wk
  have hnd8 := hk.wd.nd8
  have hns12 := hk.wd.ns12
  have hn60 := hk.nine
  have hnf := hk.nf
  have hnw := hk.nw
  have hnc := hk.nc
  have hn08 := hk.wd.n0
  have hn140 := hk.wd.n1
  refine pi_ca 7 (m' := 25) (l' := [some (.ref 12), some (.int (nI 0)), some (.int (nI k)), some (.int (nI b))]) (σ' := σ) (pc2 := 11) (l2 := [some (.ref 0), some (.int (nI 0)), some (.int (nI k)), some (.int (nI b))]) (t := [.ref 0]) (fun f => rfl) (pi_C_chg0 hR.k (by omega) (by omega)) ?_
  rintro _ t1 ⟨rfl, et1, rt1⟩
  have hcp : z_CP (W.sI 1 (upd W.rt k (nI b))) t1 := hR.k.p.se0 hb et1 (pi_fr_tr rt1 (by decide) (pi_fr_rf))
  have hct : z_CT (W.sI 1 (upd W.rt k (nI b))) t1 := (hR.k.t.of2 (pi_fr_tr rt1 (by decide) (pi_fr_rf)) : z_CT W t1)
  have hck := z_CK.mk hcp hct
  refine pi_ca 1 (m' := 97) (l' := [some (.ref 0), some (.int (W.rt k))]) (σ' := t1) (pc2 := 14) (l2 := [some (.ref 0), some (.int (nI 0)), some (.int (nI k)), some (.int (nI b))]) (t := []) (fun f => rfl) (pi_C_settled hck (hR.tl.of (pi_fr_tr rt1 (by decide) (pi_fr_rf))) (W.rt k)) ?_
  rintro _ t2 ⟨rfl, gt2, rt2⟩
  refine pi_rt 1 (v := some (.int (W.rt k))) (σ' := t2) (fun f => rfl) ?_
  exact ⟨rfl, gt2, pi_fr_tr rt2 (by decide) (pi_fr_tr rt1 (by decide) (pi_fr_rf))⟩
set_option maxRecDepth 20000 in
theorem pi_X_set1 {xs : Nat → Int32} {L d : Nat} {W : zW} {σ : pi_S} (hR : z_CR W σ) {k b : Nat} (hk5 : k < 8) (hb : b ≤ 99)  : pi_wp xs L (d + 9) 66 0 [some (.ref 0), some (.int (nI 1)), some (.int (nI k)), some (.int (nI b))] [] σ (fun v s => v = some (.int (W.hd k)) ∧ z_CR (W.sI 2 (upd W.hd k (nI b))) s ∧ pi_fr z_CC s σ) := by
  have hk := hR.k.p.wk
  have hnd8 := hk.wd.nd8
  have hns12 := hk.wd.ns12
  have hn60 := hk.nine
  have hnf := hk.nf
  have hnw := hk.nw
  have hnc := hk.nc
  have hn08 := hk.wd.n0
  have hn140 := hk.wd.n1
  refine pi_ca 7 (m' := 25) (l' := [some (.ref 12), some (.int (nI 1)), some (.int (nI k)), some (.int (nI b))]) (σ' := σ) (pc2 := 11) (l2 := [some (.ref 0), some (.int (nI 1)), some (.int (nI k)), some (.int (nI b))]) (t := [.ref 0]) (fun f => rfl) (pi_C_chg1 hR.k (by omega) (by omega)) ?_
  rintro _ t1 ⟨rfl, et1, rt1⟩
  have hcp : z_CP (W.sI 2 (upd W.hd k (nI b))) t1 := hR.k.p.se1 hb et1 (pi_fr_tr rt1 (by decide) (pi_fr_rf))
  have hct : z_CT (W.sI 2 (upd W.hd k (nI b))) t1 := (hR.k.t.of2 (pi_fr_tr rt1 (by decide) (pi_fr_rf)) : z_CT W t1)
  have hck := z_CK.mk hcp hct
  refine pi_ca 1 (m' := 97) (l' := [some (.ref 0), some (.int (W.hd k))]) (σ' := t1) (pc2 := 14) (l2 := [some (.ref 0), some (.int (nI 1)), some (.int (nI k)), some (.int (nI b))]) (t := []) (fun f => rfl) (pi_C_settled hck (hR.tl.of (pi_fr_tr rt1 (by decide) (pi_fr_rf))) (W.hd k)) ?_
  rintro _ t2 ⟨rfl, gt2, rt2⟩
  refine pi_rt 1 (v := some (.int (W.hd k))) (σ' := t2) (fun f => rfl) ?_
  exact ⟨rfl, gt2, pi_fr_tr rt2 (by decide) (pi_fr_tr rt1 (by decide) (pi_fr_rf))⟩
set_option maxRecDepth 20000 in
theorem pi_X_set2 {xs : Nat → Int32} {L d : Nat} {W : zW} {σ : pi_S} (hR : z_CR W σ) {k b : Nat} (hk5 : k < 8) (hb : b ≤ 9) (hb1 : 1 ≤ b)  : pi_wp xs L (d + 9) 66 0 [some (.ref 0), some (.int (nI 2)), some (.int (nI k)), some (.int (nI b))] [] σ (fun v s => v = some (.int (W.pr k)) ∧ z_CR (W.sI 3 (upd W.pr k (nI b))) s ∧ pi_fr z_CC s σ) := by
  have hk := hR.k.p.wk
  have hnd8 := hk.wd.nd8
  have hns12 := hk.wd.ns12
  have hn60 := hk.nine
  have hnf := hk.nf
  have hnw := hk.nw
  have hnc := hk.nc
  have hn08 := hk.wd.n0
  have hn140 := hk.wd.n1
  refine pi_ca 7 (m' := 25) (l' := [some (.ref 12), some (.int (nI 2)), some (.int (nI k)), some (.int (nI b))]) (σ' := σ) (pc2 := 11) (l2 := [some (.ref 0), some (.int (nI 2)), some (.int (nI k)), some (.int (nI b))]) (t := [.ref 0]) (fun f => rfl) (pi_C_chg2 hR.k (by omega) (by omega) (by omega)) ?_
  rintro _ t1 ⟨rfl, et1, rt1⟩
  have hcp : z_CP (W.sI 3 (upd W.pr k (nI b))) t1 := hR.k.p.se2 hb et1 (pi_fr_tr rt1 (by decide) (pi_fr_rf))
  have hct : z_CT (W.sI 3 (upd W.pr k (nI b))) t1 := (hR.k.t.of2 (pi_fr_tr rt1 (by decide) (pi_fr_rf)) : z_CT W t1)
  have hck := z_CK.mk hcp hct
  refine pi_ca 1 (m' := 97) (l' := [some (.ref 0), some (.int (W.pr k))]) (σ' := t1) (pc2 := 14) (l2 := [some (.ref 0), some (.int (nI 2)), some (.int (nI k)), some (.int (nI b))]) (t := []) (fun f => rfl) (pi_C_settled hck (hR.tl.of (pi_fr_tr rt1 (by decide) (pi_fr_rf))) (W.pr k)) ?_
  rintro _ t2 ⟨rfl, gt2, rt2⟩
  refine pi_rt 1 (v := some (.int (W.pr k))) (σ' := t2) (fun f => rfl) ?_
  exact ⟨rfl, gt2, pi_fr_tr rt2 (by decide) (pi_fr_tr rt1 (by decide) (pi_fr_rf))⟩
set_option maxRecDepth 20000 in
theorem pi_X_set3 {xs : Nat → Int32} {L d : Nat} {W : zW} {σ : pi_S} (hR : z_CR W σ) {b : Nat} (hb : b < 60)  : pi_wp xs L (d + 9) 66 0 [some (.ref 0), some (.int (nI 3)), some (.int (nI 0)), some (.int (nI b))] [] σ (fun v s => v = some (.int (nI W.nine)) ∧ z_CR (W.sN 2 b) s ∧ pi_fr z_CC s σ) := by
  have hk := hR.k.p.wk
  have hnd8 := hk.wd.nd8
  have hns12 := hk.wd.ns12
  have hn60 := hk.nine
  have hnf := hk.nf
  have hnw := hk.nw
  have hnc := hk.nc
  have hn08 := hk.wd.n0
  have hn140 := hk.wd.n1
  refine pi_ca 7 (m' := 25) (l' := [some (.ref 12), some (.int (nI 3)), some (.int (nI 0)), some (.int (nI b))]) (σ' := σ) (pc2 := 11) (l2 := [some (.ref 0), some (.int (nI 3)), some (.int (nI 0)), some (.int (nI b))]) (t := [.ref 0]) (fun f => rfl) (pi_C_chg3 hR.k (by omega)) ?_
  rintro _ t1 ⟨rfl, et1, rt1⟩
  have hcp : z_CP (W.sN 2 b) t1 := hR.k.p.se3 hb et1 (pi_fr_tr rt1 (by decide) (pi_fr_rf))
  have hct : z_CT (W.sN 2 b) t1 := (hR.k.t.of2 (pi_fr_tr rt1 (by decide) (pi_fr_rf)) : z_CT W t1)
  have hck := z_CK.mk hcp hct
  refine pi_ca 1 (m' := 97) (l' := [some (.ref 0), some (.int (nI W.nine))]) (σ' := t1) (pc2 := 14) (l2 := [some (.ref 0), some (.int (nI 3)), some (.int (nI 0)), some (.int (nI b))]) (t := []) (fun f => rfl) (pi_C_settled hck (hR.tl.of (pi_fr_tr rt1 (by decide) (pi_fr_rf))) (nI W.nine)) ?_
  rintro _ t2 ⟨rfl, gt2, rt2⟩
  refine pi_rt 1 (v := some (.int (nI W.nine))) (σ' := t2) (fun f => rfl) ?_
  exact ⟨rfl, gt2, pi_fr_tr rt2 (by decide) (pi_fr_tr rt1 (by decide) (pi_fr_rf))⟩
set_option maxRecDepth 20000 in
theorem pi_X_set0_bad {xs : Nat → Int32} {L d : Nat} {W : zW} {σ : pi_S} (hR : z_CR W σ) {b c : Int32} (hb : ¬ (z_B 5 b ∧ z_B 10 c))  : pi_wp xs L (d + 9) 66 0 [some (.ref 0), some (.int (nI 0)), some (.int b), some (.int c)] [] σ (fun v s => v = some (.int (-2)) ∧ z_CR W s ∧ pi_fr z_CC s σ) := by
  have hk := hR.k.p.wk
  have hnd8 := hk.wd.nd8
  have hns12 := hk.wd.ns12
  have hn60 := hk.nine
  have hnf := hk.nf
  have hnw := hk.nw
  have hnc := hk.nc
  have hn08 := hk.wd.n0
  have hn140 := hk.wd.n1
  refine pi_ca 7 (m' := 25) (l' := [some (.ref 12), some (.int (nI 0)), some (.int b), some (.int c)]) (σ' := σ) (pc2 := 11) (l2 := [some (.ref 0), some (.int (nI 0)), some (.int b), some (.int c)]) (t := [.ref 0]) (fun f => rfl) (pi_C_chg0_bad hR.k hb) ?_
  rintro _ _ ⟨rfl, rfl⟩
  have hck := hR.k
  refine pi_ca 1 (m' := 97) (l' := [some (.ref 0), some (.int (-2))]) (σ' := σ) (pc2 := 14) (l2 := [some (.ref 0), some (.int (nI 0)), some (.int b), some (.int c)]) (t := []) (fun f => rfl) (pi_C_settled hck (hR.tl.of (pi_fr_rf)) (-2)) ?_
  rintro _ t1 ⟨rfl, gt1, rt1⟩
  refine pi_rt 1 (v := some (.int (-2))) (σ' := t1) (fun f => rfl) ?_
  exact ⟨rfl, gt1, pi_fr_tr rt1 (by decide) (pi_fr_rf)⟩
set_option maxRecDepth 20000 in
theorem pi_X_set1_bad {xs : Nat → Int32} {L d : Nat} {W : zW} {σ : pi_S} (hR : z_CR W σ) {b c : Int32} (hb : ¬ (z_B 8 b ∧ z_B 100 c))  : pi_wp xs L (d + 9) 66 0 [some (.ref 0), some (.int (nI 1)), some (.int b), some (.int c)] [] σ (fun v s => v = some (.int (-2)) ∧ z_CR W s ∧ pi_fr z_CC s σ) := by
  have hk := hR.k.p.wk
  have hnd8 := hk.wd.nd8
  have hns12 := hk.wd.ns12
  have hn60 := hk.nine
  have hnf := hk.nf
  have hnw := hk.nw
  have hnc := hk.nc
  have hn08 := hk.wd.n0
  have hn140 := hk.wd.n1
  refine pi_ca 7 (m' := 25) (l' := [some (.ref 12), some (.int (nI 1)), some (.int b), some (.int c)]) (σ' := σ) (pc2 := 11) (l2 := [some (.ref 0), some (.int (nI 1)), some (.int b), some (.int c)]) (t := [.ref 0]) (fun f => rfl) (pi_C_chg1_bad hR.k hb) ?_
  rintro _ _ ⟨rfl, rfl⟩
  have hck := hR.k
  refine pi_ca 1 (m' := 97) (l' := [some (.ref 0), some (.int (-2))]) (σ' := σ) (pc2 := 14) (l2 := [some (.ref 0), some (.int (nI 1)), some (.int b), some (.int c)]) (t := []) (fun f => rfl) (pi_C_settled hck (hR.tl.of (pi_fr_rf)) (-2)) ?_
  rintro _ t1 ⟨rfl, gt1, rt1⟩
  refine pi_rt 1 (v := some (.int (-2))) (σ' := t1) (fun f => rfl) ?_
  exact ⟨rfl, gt1, pi_fr_tr rt1 (by decide) (pi_fr_rf)⟩
set_option maxRecDepth 20000 in
theorem pi_X_set2_bad {xs : Nat → Int32} {L d : Nat} {W : zW} {σ : pi_S} (hR : z_CR W σ) {b c : Int32} (hb : ¬ (z_B 8 b ∧ z_P 9 c))  : pi_wp xs L (d + 9) 66 0 [some (.ref 0), some (.int (nI 2)), some (.int b), some (.int c)] [] σ (fun v s => v = some (.int (-2)) ∧ z_CR W s ∧ pi_fr z_CC s σ) := by
  have hk := hR.k.p.wk
  have hnd8 := hk.wd.nd8
  have hns12 := hk.wd.ns12
  have hn60 := hk.nine
  have hnf := hk.nf
  have hnw := hk.nw
  have hnc := hk.nc
  have hn08 := hk.wd.n0
  have hn140 := hk.wd.n1
  refine pi_ca 7 (m' := 25) (l' := [some (.ref 12), some (.int (nI 2)), some (.int b), some (.int c)]) (σ' := σ) (pc2 := 11) (l2 := [some (.ref 0), some (.int (nI 2)), some (.int b), some (.int c)]) (t := [.ref 0]) (fun f => rfl) (pi_C_chg2_bad hR.k hb) ?_
  rintro _ _ ⟨rfl, rfl⟩
  have hck := hR.k
  refine pi_ca 1 (m' := 97) (l' := [some (.ref 0), some (.int (-2))]) (σ' := σ) (pc2 := 14) (l2 := [some (.ref 0), some (.int (nI 2)), some (.int b), some (.int c)]) (t := []) (fun f => rfl) (pi_C_settled hck (hR.tl.of (pi_fr_rf)) (-2)) ?_
  rintro _ t1 ⟨rfl, gt1, rt1⟩
  refine pi_rt 1 (v := some (.int (-2))) (σ' := t1) (fun f => rfl) ?_
  exact ⟨rfl, gt1, pi_fr_tr rt1 (by decide) (pi_fr_rf)⟩
set_option maxRecDepth 20000 in
theorem pi_X_set3_bad {xs : Nat → Int32} {L d : Nat} {W : zW} {σ : pi_S} (hR : z_CR W σ) {b c : Int32} (hb : ¬ (z_B 1 b ∧ z_B 60 c))  : pi_wp xs L (d + 9) 66 0 [some (.ref 0), some (.int (nI 3)), some (.int b), some (.int c)] [] σ (fun v s => v = some (.int (-2)) ∧ z_CR W s ∧ pi_fr z_CC s σ) := by
  have hk := hR.k.p.wk
  have hnd8 := hk.wd.nd8
  have hns12 := hk.wd.ns12
  have hn60 := hk.nine
  have hnf := hk.nf
  have hnw := hk.nw
  have hnc := hk.nc
  have hn08 := hk.wd.n0
  have hn140 := hk.wd.n1
  refine pi_ca 7 (m' := 25) (l' := [some (.ref 12), some (.int (nI 3)), some (.int b), some (.int c)]) (σ' := σ) (pc2 := 11) (l2 := [some (.ref 0), some (.int (nI 3)), some (.int b), some (.int c)]) (t := [.ref 0]) (fun f => rfl) (pi_C_chg3_bad hR.k hb) ?_
  rintro _ _ ⟨rfl, rfl⟩
  have hck := hR.k
  refine pi_ca 1 (m' := 97) (l' := [some (.ref 0), some (.int (-2))]) (σ' := σ) (pc2 := 14) (l2 := [some (.ref 0), some (.int (nI 3)), some (.int b), some (.int c)]) (t := []) (fun f => rfl) (pi_C_settled hck (hR.tl.of (pi_fr_rf)) (-2)) ?_
  rintro _ t1 ⟨rfl, gt1, rt1⟩
  refine pi_rt 1 (v := some (.int (-2))) (σ' := t1) (fun f => rfl) ?_
  exact ⟨rfl, gt1, pi_fr_tr rt1 (by decide) (pi_fr_rf)⟩
set_option maxRecDepth 20000 in
theorem pi_X_setx_bad {xs : Nat → Int32} {L d : Nat} {W : zW} {σ : pi_S} (hR : z_CR W σ) {a b c : Int32} (hb : ¬ z_B 4 a)  : pi_wp xs L (d + 9) 66 0 [some (.ref 0), some (.int a), some (.int b), some (.int c)] [] σ (fun v s => v = some (.int (-2)) ∧ z_CR W s ∧ pi_fr z_CC s σ) := by
  have hk := hR.k.p.wk
  have hnd8 := hk.wd.nd8
  have hns12 := hk.wd.ns12
  have hn60 := hk.nine
  have hnf := hk.nf
  have hnw := hk.nw
  have hnc := hk.nc
  have hn08 := hk.wd.n0
  have hn140 := hk.wd.n1
  refine pi_ca 7 (m' := 25) (l' := [some (.ref 12), some (.int a), some (.int b), some (.int c)]) (σ' := σ) (pc2 := 11) (l2 := [some (.ref 0), some (.int a), some (.int b), some (.int c)]) (t := [.ref 0]) (fun f => rfl) (pi_C_chgx_bad hR.k hb) ?_
  rintro _ _ ⟨rfl, rfl⟩
  have hck := hR.k
  refine pi_ca 1 (m' := 97) (l' := [some (.ref 0), some (.int (-2))]) (σ' := σ) (pc2 := 14) (l2 := [some (.ref 0), some (.int a), some (.int b), some (.int c)]) (t := []) (fun f => rfl) (pi_C_settled hck (hR.tl.of (pi_fr_rf)) (-2)) ?_
  rintro _ t1 ⟨rfl, gt1, rt1⟩
  refine pi_rt 1 (v := some (.int (-2))) (σ' := t1) (fun f => rfl) ?_
  exact ⟨rfl, gt1, pi_fr_tr rt1 (by decide) (pi_fr_rf)⟩
set_option maxRecDepth 20000 in
theorem pi_X_fall {xs : Nat → Int32} {L d : Nat} {W : zW} {σ : pi_S} (hR : z_CR W σ) {mi dr kd b : Nat} (hmi : mi < 60) (hd : dr < 8) (hkd : kd < 5) (hb1 : 1 ≤ b) (hb9 : b ≤ 9) (hn : W.nf < 20)  : pi_wp xs L (d + 9) 68 0 [some (.ref 0), some (.int (nI mi)), some (.int (nI dr)), some (.int (nI kd)), some (.int (nI b))] [] σ (fun v s => v = some (.int (nI (W.nf + 1))) ∧ z_CR (W.fall (nI mi) dr kd (nI b)) s ∧ pi_fr z_CC s σ) := by
  have hk := hR.k.p.wk
  have hnd8 := hk.wd.nd8
  have hns12 := hk.wd.ns12
  have hn60 := hk.nine
  have hnf := hk.nf
  have hnw := hk.nw
  have hnc := hk.nc
  have hn08 := hk.wd.n0
  have hn140 := hk.wd.n1
  refine pi_ca 3 (m' := 94) (l' := [some (.int (nI mi)), some (.int (nI 60))]) (σ' := σ) (pc2 := 6) (l2 := [some (.ref 0), some (.int (nI mi)), some (.int (nI dr)), some (.int (nI kd)), some (.int (nI b))]) (t := []) (fun f => rfl) (pi_below1 _ _ (z_BL (by omega) (by omega))) ?_
  rintro _ _ ⟨rfl, rfl⟩
  refine pi_cf 1 (c := nI 1 = 0) (pc' := 9) (l' := [some (.ref 0), some (.int (nI mi)), some (.int (nI dr)), some (.int (nI kd)), some (.int (nI b))]) (st' := []) (σ' := σ) (pc2 := 39) (l2 := [some (.ref 0), some (.int (nI mi)), some (.int (nI dr)), some (.int (nI kd)), some (.int (nI b))]) (st2 := []) (σ2 := σ) (fun f => rfl) (by decide) ?_
  refine pi_ca 3 (m' := 94) (l' := [some (.int (nI dr)), some (.int (nI 8))]) (σ' := σ) (pc2 := 15) (l2 := [some (.ref 0), some (.int (nI mi)), some (.int (nI dr)), some (.int (nI kd)), some (.int (nI b))]) (t := []) (fun f => rfl) (pi_below1 _ _ (z_BL (by omega) (by omega))) ?_
  rintro _ _ ⟨rfl, rfl⟩
  refine pi_cf 1 (c := nI 1 = 0) (pc' := 18) (l' := [some (.ref 0), some (.int (nI mi)), some (.int (nI dr)), some (.int (nI kd)), some (.int (nI b))]) (st' := []) (σ' := σ) (pc2 := 39) (l2 := [some (.ref 0), some (.int (nI mi)), some (.int (nI dr)), some (.int (nI kd)), some (.int (nI b))]) (st2 := []) (σ2 := σ) (fun f => rfl) (by decide) ?_
  refine pi_ca 3 (m' := 94) (l' := [some (.int (nI kd)), some (.int (nI 5))]) (σ' := σ) (pc2 := 23) (l2 := [some (.ref 0), some (.int (nI mi)), some (.int (nI dr)), some (.int (nI kd)), some (.int (nI b))]) (t := []) (fun f => rfl) (pi_below1 _ _ (z_BL (by omega) (by omega))) ?_
  rintro _ _ ⟨rfl, rfl⟩
  refine pi_cf 1 (c := nI 1 = 0) (pc' := 26) (l' := [some (.ref 0), some (.int (nI mi)), some (.int (nI dr)), some (.int (nI kd)), some (.int (nI b))]) (st' := []) (σ' := σ) (pc2 := 39) (l2 := [some (.ref 0), some (.int (nI mi)), some (.int (nI dr)), some (.int (nI kd)), some (.int (nI b))]) (st2 := []) (σ2 := σ) (fun f => rfl) (by decide) ?_
  refine pi_cf 3 (c := nI b < nI 1) (pc' := 32) (l' := [some (.ref 0), some (.int (nI mi)), some (.int (nI dr)), some (.int (nI kd)), some (.int (nI b))]) (st' := []) (σ' := σ) (pc2 := 39) (l2 := [some (.ref 0), some (.int (nI mi)), some (.int (nI dr)), some (.int (nI kd)), some (.int (nI b))]) (st2 := []) (σ2 := σ) (fun f => rfl) (fun q => absurd ((nI_ltI (by omega) (by omega)).mp q) (by omega)) ?_
  refine pi_ct 3 (c := nI b ≤ nI 9) (pc' := 42) (l' := [some (.ref 0), some (.int (nI mi)), some (.int (nI dr)), some (.int (nI kd)), some (.int (nI b))]) (st' := []) (σ' := σ) (pc2 := 39) (l2 := [some (.ref 0), some (.int (nI mi)), some (.int (nI dr)), some (.int (nI kd)), some (.int (nI b))]) (st2 := []) (σ2 := σ) (fun f => rfl) ((nI_leI (by omega) (by omega)).mpr (by omega)) ?_
  refine pi_ca 9 (m' := 1) (l' := [some (.ref 17), some (.int (nI mi)), some (.int (nI dr)), some (.int (nI kd)), some (.int (nI b))]) (σ' := σ) (pc2 := 58) (l2 := [some (.ref 0), some (.int (nI mi)), some (.int (nI dr)), some (.int (nI kd)), some (.int (nI b))]) (t := [.ref 0]) (fun f => rfl) (pi_C_appf hR.k (nI mi) (nI dr) (nI kd) (nI b) hn) ?_
  rintro _ t1 ⟨rfl, mt1, gt1, et1_1, et1_2, et1_3, et1_4, rt1⟩
  have hcp : z_CP (W.fall (nI mi) dr kd (nI b)) t1 := hR.k.p.fall hn hd hkd hb1 hb9 mt1 gt1 et1_1 et1_2 et1_3 et1_4 (pi_fr_tr rt1 (by decide) (pi_fr_rf))
  have hct : z_CT (W.fall (nI mi) dr kd (nI b)) t1 := (hR.k.t.of2 (pi_fr_tr rt1 (by decide) (pi_fr_rf)) : z_CT W t1)
  have hck := z_CK.mk hcp hct
  refine pi_ca 1 (m' := 97) (l' := [some (.ref 0), some (.int (nI (W.nf + 1)))]) (σ' := t1) (pc2 := 61) (l2 := [some (.ref 0), some (.int (nI mi)), some (.int (nI dr)), some (.int (nI kd)), some (.int (nI b))]) (t := []) (fun f => rfl) (pi_C_settled hck (hR.tl.of (pi_fr_tr rt1 (by decide) (pi_fr_rf))) (nI (W.nf + 1))) ?_
  rintro _ t2 ⟨rfl, gt2, rt2⟩
  refine pi_rt 1 (v := some (.int (nI (W.nf + 1)))) (σ' := t2) (fun f => rfl) ?_
  exact ⟨rfl, gt2, pi_fr_tr rt2 (by decide) (pi_fr_tr rt1 (by decide) (pi_fr_rf))⟩
set_option maxRecDepth 20000 in
theorem pi_X_fall_full {xs : Nat → Int32} {L d : Nat} {W : zW} {σ : pi_S} (hR : z_CR W σ) {mi dr kd b : Nat} (hmi : mi < 60) (hd : dr < 8) (hkd : kd < 5) (hb1 : 1 ≤ b) (hb9 : b ≤ 9) (hn : W.nf = 20)  : pi_wp xs L (d + 9) 68 0 [some (.ref 0), some (.int (nI mi)), some (.int (nI dr)), some (.int (nI kd)), some (.int (nI b))] [] σ (fun v s => v = some (.int (-4)) ∧ z_CR W s ∧ pi_fr z_CC s σ) := by
  have hk := hR.k.p.wk
  have hnd8 := hk.wd.nd8
  have hns12 := hk.wd.ns12
  have hn60 := hk.nine
  have hnf := hk.nf
  have hnw := hk.nw
  have hnc := hk.nc
  have hn08 := hk.wd.n0
  have hn140 := hk.wd.n1
  refine pi_ca 3 (m' := 94) (l' := [some (.int (nI mi)), some (.int (nI 60))]) (σ' := σ) (pc2 := 6) (l2 := [some (.ref 0), some (.int (nI mi)), some (.int (nI dr)), some (.int (nI kd)), some (.int (nI b))]) (t := []) (fun f => rfl) (pi_below1 _ _ (z_BL (by omega) (by omega))) ?_
  rintro _ _ ⟨rfl, rfl⟩
  refine pi_cf 1 (c := nI 1 = 0) (pc' := 9) (l' := [some (.ref 0), some (.int (nI mi)), some (.int (nI dr)), some (.int (nI kd)), some (.int (nI b))]) (st' := []) (σ' := σ) (pc2 := 39) (l2 := [some (.ref 0), some (.int (nI mi)), some (.int (nI dr)), some (.int (nI kd)), some (.int (nI b))]) (st2 := []) (σ2 := σ) (fun f => rfl) (by decide) ?_
  refine pi_ca 3 (m' := 94) (l' := [some (.int (nI dr)), some (.int (nI 8))]) (σ' := σ) (pc2 := 15) (l2 := [some (.ref 0), some (.int (nI mi)), some (.int (nI dr)), some (.int (nI kd)), some (.int (nI b))]) (t := []) (fun f => rfl) (pi_below1 _ _ (z_BL (by omega) (by omega))) ?_
  rintro _ _ ⟨rfl, rfl⟩
  refine pi_cf 1 (c := nI 1 = 0) (pc' := 18) (l' := [some (.ref 0), some (.int (nI mi)), some (.int (nI dr)), some (.int (nI kd)), some (.int (nI b))]) (st' := []) (σ' := σ) (pc2 := 39) (l2 := [some (.ref 0), some (.int (nI mi)), some (.int (nI dr)), some (.int (nI kd)), some (.int (nI b))]) (st2 := []) (σ2 := σ) (fun f => rfl) (by decide) ?_
  refine pi_ca 3 (m' := 94) (l' := [some (.int (nI kd)), some (.int (nI 5))]) (σ' := σ) (pc2 := 23) (l2 := [some (.ref 0), some (.int (nI mi)), some (.int (nI dr)), some (.int (nI kd)), some (.int (nI b))]) (t := []) (fun f => rfl) (pi_below1 _ _ (z_BL (by omega) (by omega))) ?_
  rintro _ _ ⟨rfl, rfl⟩
  refine pi_cf 1 (c := nI 1 = 0) (pc' := 26) (l' := [some (.ref 0), some (.int (nI mi)), some (.int (nI dr)), some (.int (nI kd)), some (.int (nI b))]) (st' := []) (σ' := σ) (pc2 := 39) (l2 := [some (.ref 0), some (.int (nI mi)), some (.int (nI dr)), some (.int (nI kd)), some (.int (nI b))]) (st2 := []) (σ2 := σ) (fun f => rfl) (by decide) ?_
  refine pi_cf 3 (c := nI b < nI 1) (pc' := 32) (l' := [some (.ref 0), some (.int (nI mi)), some (.int (nI dr)), some (.int (nI kd)), some (.int (nI b))]) (st' := []) (σ' := σ) (pc2 := 39) (l2 := [some (.ref 0), some (.int (nI mi)), some (.int (nI dr)), some (.int (nI kd)), some (.int (nI b))]) (st2 := []) (σ2 := σ) (fun f => rfl) (fun q => absurd ((nI_ltI (by omega) (by omega)).mp q) (by omega)) ?_
  refine pi_ct 3 (c := nI b ≤ nI 9) (pc' := 42) (l' := [some (.ref 0), some (.int (nI mi)), some (.int (nI dr)), some (.int (nI kd)), some (.int (nI b))]) (st' := []) (σ' := σ) (pc2 := 39) (l2 := [some (.ref 0), some (.int (nI mi)), some (.int (nI dr)), some (.int (nI kd)), some (.int (nI b))]) (st2 := []) (σ2 := σ) (fun f => rfl) ((nI_leI (by omega) (by omega)).mpr (by omega)) ?_
  refine pi_ca 9 (m' := 1) (l' := [some (.ref 17), some (.int (nI mi)), some (.int (nI dr)), some (.int (nI kd)), some (.int (nI b))]) (σ' := σ) (pc2 := 58) (l2 := [some (.ref 0), some (.int (nI mi)), some (.int (nI dr)), some (.int (nI kd)), some (.int (nI b))]) (t := [.ref 0]) (fun f => rfl) (pi_C_appf_full hR.k (nI mi) (nI dr) (nI kd) (nI b) hn) ?_
  rintro _ _ ⟨rfl, rfl⟩
  have hck := hR.k
  refine pi_ca 1 (m' := 97) (l' := [some (.ref 0), some (.int (-4))]) (σ' := σ) (pc2 := 61) (l2 := [some (.ref 0), some (.int (nI mi)), some (.int (nI dr)), some (.int (nI kd)), some (.int (nI b))]) (t := []) (fun f => rfl) (pi_C_settled hck (hR.tl.of (pi_fr_rf)) (-4)) ?_
  rintro _ t1 ⟨rfl, gt1, rt1⟩
  refine pi_rt 1 (v := some (.int (-4))) (σ' := t1) (fun f => rfl) ?_
  exact ⟨rfl, gt1, pi_fr_tr rt1 (by decide) (pi_fr_rf)⟩
set_option maxRecDepth 20000 in
theorem pi_X_fall_bad {xs : Nat → Int32} {L d : Nat} {W : zW} {σ : pi_S} (hR : z_CR W σ) {a b c e : Int32} (hb : ¬ (z_B 60 a ∧ z_B 8 b ∧ z_B 5 c ∧ z_P 9 e))  : pi_wp xs L (d + 9) 68 0 [some (.ref 0), some (.int a), some (.int b), some (.int c), some (.int e)] [] σ (fun v s => v = some (.int (-2)) ∧ z_CR W s ∧ pi_fr z_CJ s σ) := by
  have hk := hR.k.p.wk
  have hnd8 := hk.wd.nd8
  have hns12 := hk.wd.ns12
  have hn60 := hk.nine
  have hnf := hk.nf
  have hnw := hk.nw
  have hnc := hk.nc
  have hn08 := hk.wd.n0
  have hn140 := hk.wd.n1
  refine pi_ca 3 (m' := 94) (l' := [some (.int a), some (.int (nI 60))]) (σ' := σ) (pc2 := 6) (l2 := [some (.ref 0), some (.int a), some (.int b), some (.int c), some (.int e)]) (t := []) (fun f => rfl) (pi_C_belowB (a := a) (n := 60) (by omega)) ?_
  rintro _ _ (⟨b1, rfl, rfl⟩ | ⟨b1, rfl, rfl⟩)
  · refine pi_cf 1 (c := nI 1 = 0) (pc' := 9) (l' := [some (.ref 0), some (.int a), some (.int b), some (.int c), some (.int e)]) (st' := []) (σ' := σ) (pc2 := 39) (l2 := [some (.ref 0), some (.int a), some (.int b), some (.int c), some (.int e)]) (st2 := []) (σ2 := σ) (fun f => rfl) (by decide) ?_
    refine pi_ca 3 (m' := 94) (l' := [some (.int b), some (.int (nI 8))]) (σ' := σ) (pc2 := 15) (l2 := [some (.ref 0), some (.int a), some (.int b), some (.int c), some (.int e)]) (t := []) (fun f => rfl) (pi_C_belowB (a := b) (n := 8) (by omega)) ?_
    rintro _ _ (⟨b2, rfl, rfl⟩ | ⟨b2, rfl, rfl⟩)
    · refine pi_cf 1 (c := nI 1 = 0) (pc' := 18) (l' := [some (.ref 0), some (.int a), some (.int b), some (.int c), some (.int e)]) (st' := []) (σ' := σ) (pc2 := 39) (l2 := [some (.ref 0), some (.int a), some (.int b), some (.int c), some (.int e)]) (st2 := []) (σ2 := σ) (fun f => rfl) (by decide) ?_
      refine pi_ca 3 (m' := 94) (l' := [some (.int c), some (.int (nI 5))]) (σ' := σ) (pc2 := 23) (l2 := [some (.ref 0), some (.int a), some (.int b), some (.int c), some (.int e)]) (t := []) (fun f => rfl) (pi_C_belowB (a := c) (n := 5) (by omega)) ?_
      rintro _ _ (⟨b3, rfl, rfl⟩ | ⟨b3, rfl, rfl⟩)
      · refine pi_cf 1 (c := nI 1 = 0) (pc' := 26) (l' := [some (.ref 0), some (.int a), some (.int b), some (.int c), some (.int e)]) (st' := []) (σ' := σ) (pc2 := 39) (l2 := [some (.ref 0), some (.int a), some (.int b), some (.int c), some (.int e)]) (st2 := []) (σ2 := σ) (fun f => rfl) (by decide) ?_
        refine pi_if 3 (c := e < nI 1) (pc' := 39) (l' := [some (.ref 0), some (.int a), some (.int b), some (.int c), some (.int e)]) (st' := []) (σ' := σ) (pc2 := 32) (l2 := [some (.ref 0), some (.int a), some (.int b), some (.int c), some (.int e)]) (st2 := []) (σ2 := σ) (fun f => rfl) (fun h4 => ?_) (fun h4 => ?_)
        · refine pi_rt 2 (v := some (.int (-2))) (σ' := σ) (fun f => rfl) ?_
          exact ⟨rfl, hR, pi_fr_rf⟩
        · refine pi_if 3 (c := e ≤ nI 9) (pc' := 42) (l' := [some (.ref 0), some (.int a), some (.int b), some (.int c), some (.int e)]) (st' := []) (σ' := σ) (pc2 := 39) (l2 := [some (.ref 0), some (.int a), some (.int b), some (.int c), some (.int e)]) (st2 := []) (σ2 := σ) (fun f => rfl) (fun h5 => ?_) (fun h5 => ?_)
          · exact (hb ⟨b1, b2, b3, (z_P_in (by omega)).mp ⟨Int32.not_lt.mp h4, h5⟩⟩).elim
          · refine pi_rt 2 (v := some (.int (-2))) (σ' := σ) (fun f => rfl) ?_
            exact ⟨rfl, hR, pi_fr_rf⟩
      · refine pi_ct 1 (c := nI 0 = 0) (pc' := 39) (l' := [some (.ref 0), some (.int a), some (.int b), some (.int c), some (.int e)]) (st' := []) (σ' := σ) (pc2 := 26) (l2 := [some (.ref 0), some (.int a), some (.int b), some (.int c), some (.int e)]) (st2 := []) (σ2 := σ) (fun f => rfl) (by decide) ?_
        refine pi_rt 2 (v := some (.int (-2))) (σ' := σ) (fun f => rfl) ?_
        exact ⟨rfl, hR, pi_fr_rf⟩
    · refine pi_ct 1 (c := nI 0 = 0) (pc' := 39) (l' := [some (.ref 0), some (.int a), some (.int b), some (.int c), some (.int e)]) (st' := []) (σ' := σ) (pc2 := 18) (l2 := [some (.ref 0), some (.int a), some (.int b), some (.int c), some (.int e)]) (st2 := []) (σ2 := σ) (fun f => rfl) (by decide) ?_
      refine pi_rt 2 (v := some (.int (-2))) (σ' := σ) (fun f => rfl) ?_
      exact ⟨rfl, hR, pi_fr_rf⟩
  · refine pi_ct 1 (c := nI 0 = 0) (pc' := 39) (l' := [some (.ref 0), some (.int a), some (.int b), some (.int c), some (.int e)]) (st' := []) (σ' := σ) (pc2 := 9) (l2 := [some (.ref 0), some (.int a), some (.int b), some (.int c), some (.int e)]) (st2 := []) (σ2 := σ) (fun f => rfl) (by decide) ?_
    refine pi_rt 2 (v := some (.int (-2))) (σ' := σ) (fun f => rfl) ?_
    exact ⟨rfl, hR, pi_fr_rf⟩
set_option maxRecDepth 20000 in
theorem pi_X_sweep {xs : Nat → Int32} {L d : Nat} {W : zW} {σ : pi_S} (hR : z_CR W σ) {mi p : Nat} (hmi : mi < 60) (hp : p < 12) (hn : W.nw < 24)  : pi_wp xs L (d + 9) 69 0 [some (.ref 0), some (.int (nI mi)), some (.int (nI p))] [] σ (fun v s => v = some (.int (nI (W.nw + 1))) ∧ z_CR (((W.sN 4 (W.nw + 1)).sI 6 (z_u W.sm W.nw (nI mi))).sF 2 (z_u W.ws W.nw p)) s ∧ pi_fr z_CC s σ) := by
  have hk := hR.k.p.wk
  have hnd8 := hk.wd.nd8
  have hns12 := hk.wd.ns12
  have hn60 := hk.nine
  have hnf := hk.nf
  have hnw := hk.nw
  have hnc := hk.nc
  have hn08 := hk.wd.n0
  have hn140 := hk.wd.n1
  refine pi_ca 3 (m' := 94) (l' := [some (.int (nI mi)), some (.int (nI 60))]) (σ' := σ) (pc2 := 6) (l2 := [some (.ref 0), some (.int (nI mi)), some (.int (nI p))]) (t := []) (fun f => rfl) (pi_below1 _ _ (z_BL (by omega) (by omega))) ?_
  rintro _ _ ⟨rfl, rfl⟩
  refine pi_cf 1 (c := nI 1 = 0) (pc' := 9) (l' := [some (.ref 0), some (.int (nI mi)), some (.int (nI p))]) (st' := []) (σ' := σ) (pc2 := 18) (l2 := [some (.ref 0), some (.int (nI mi)), some (.int (nI p))]) (st2 := []) (σ2 := σ) (fun f => rfl) (by decide) ?_
  refine pi_ca 3 (m' := 94) (l' := [some (.int (nI p)), some (.int (nI 12))]) (σ' := σ) (pc2 := 15) (l2 := [some (.ref 0), some (.int (nI mi)), some (.int (nI p))]) (t := []) (fun f => rfl) (pi_below1 _ _ (z_BL (by omega) (by omega))) ?_
  rintro _ _ ⟨rfl, rfl⟩
  refine pi_cf 1 (c := nI 1 = 0) (pc' := 21) (l' := [some (.ref 0), some (.int (nI mi)), some (.int (nI p))]) (st' := []) (σ' := σ) (pc2 := 18) (l2 := [some (.ref 0), some (.int (nI mi)), some (.int (nI p))]) (st2 := []) (σ2 := σ) (fun f => rfl) (by decide) ?_
  refine pi_ca 9 (m' := 1) (l' := [some (.ref 22), some (.int (nI mi)), some (.int (nI p)), some (.int (nI 0)), some (.int (nI 0))]) (σ' := σ) (pc2 := 36) (l2 := [some (.ref 0), some (.int (nI mi)), some (.int (nI p))]) (t := [.ref 0]) (fun f => rfl) (pi_C_appw hR.k (nI mi) (nI p) (nI 0) (nI 0) hn) ?_
  rintro _ t1 ⟨rfl, mt1, gt1, et1_1, et1_2, et1_3, et1_4, rt1⟩
  have hcp : z_CP (((W.sN 4 (W.nw + 1)).sI 6 (z_u W.sm W.nw (nI mi))).sF 2 (z_u W.ws W.nw p)) t1 := hR.k.p.sweep hn hp mt1 gt1 et1_1 et1_2 (pi_fr_tr rt1 (by decide) (pi_fr_rf))
  have hct : z_CT (((W.sN 4 (W.nw + 1)).sI 6 (z_u W.sm W.nw (nI mi))).sF 2 (z_u W.ws W.nw p)) t1 := (hR.k.t.of2 (pi_fr_tr rt1 (by decide) (pi_fr_rf)) : z_CT W t1)
  have hck := z_CK.mk hcp hct
  refine pi_ca 1 (m' := 97) (l' := [some (.ref 0), some (.int (nI (W.nw + 1)))]) (σ' := t1) (pc2 := 39) (l2 := [some (.ref 0), some (.int (nI mi)), some (.int (nI p))]) (t := []) (fun f => rfl) (pi_C_settled hck (hR.tl.of (pi_fr_tr rt1 (by decide) (pi_fr_rf))) (nI (W.nw + 1))) ?_
  rintro _ t2 ⟨rfl, gt2, rt2⟩
  refine pi_rt 1 (v := some (.int (nI (W.nw + 1)))) (σ' := t2) (fun f => rfl) ?_
  exact ⟨rfl, gt2, pi_fr_tr rt2 (by decide) (pi_fr_tr rt1 (by decide) (pi_fr_rf))⟩
set_option maxRecDepth 20000 in
theorem pi_X_sweep_full {xs : Nat → Int32} {L d : Nat} {W : zW} {σ : pi_S} (hR : z_CR W σ) {mi p : Nat} (hmi : mi < 60) (hp : p < 12) (hn : W.nw = 24)  : pi_wp xs L (d + 9) 69 0 [some (.ref 0), some (.int (nI mi)), some (.int (nI p))] [] σ (fun v s => v = some (.int (-4)) ∧ z_CR W s ∧ pi_fr z_CC s σ) := by
  have hk := hR.k.p.wk
  have hnd8 := hk.wd.nd8
  have hns12 := hk.wd.ns12
  have hn60 := hk.nine
  have hnf := hk.nf
  have hnw := hk.nw
  have hnc := hk.nc
  have hn08 := hk.wd.n0
  have hn140 := hk.wd.n1
  refine pi_ca 3 (m' := 94) (l' := [some (.int (nI mi)), some (.int (nI 60))]) (σ' := σ) (pc2 := 6) (l2 := [some (.ref 0), some (.int (nI mi)), some (.int (nI p))]) (t := []) (fun f => rfl) (pi_below1 _ _ (z_BL (by omega) (by omega))) ?_
  rintro _ _ ⟨rfl, rfl⟩
  refine pi_cf 1 (c := nI 1 = 0) (pc' := 9) (l' := [some (.ref 0), some (.int (nI mi)), some (.int (nI p))]) (st' := []) (σ' := σ) (pc2 := 18) (l2 := [some (.ref 0), some (.int (nI mi)), some (.int (nI p))]) (st2 := []) (σ2 := σ) (fun f => rfl) (by decide) ?_
  refine pi_ca 3 (m' := 94) (l' := [some (.int (nI p)), some (.int (nI 12))]) (σ' := σ) (pc2 := 15) (l2 := [some (.ref 0), some (.int (nI mi)), some (.int (nI p))]) (t := []) (fun f => rfl) (pi_below1 _ _ (z_BL (by omega) (by omega))) ?_
  rintro _ _ ⟨rfl, rfl⟩
  refine pi_cf 1 (c := nI 1 = 0) (pc' := 21) (l' := [some (.ref 0), some (.int (nI mi)), some (.int (nI p))]) (st' := []) (σ' := σ) (pc2 := 18) (l2 := [some (.ref 0), some (.int (nI mi)), some (.int (nI p))]) (st2 := []) (σ2 := σ) (fun f => rfl) (by decide) ?_
  refine pi_ca 9 (m' := 1) (l' := [some (.ref 22), some (.int (nI mi)), some (.int (nI p)), some (.int (nI 0)), some (.int (nI 0))]) (σ' := σ) (pc2 := 36) (l2 := [some (.ref 0), some (.int (nI mi)), some (.int (nI p))]) (t := [.ref 0]) (fun f => rfl) (pi_C_appw_full hR.k (nI mi) (nI p) (nI 0) (nI 0) hn) ?_
  rintro _ _ ⟨rfl, rfl⟩
  have hck := hR.k
  refine pi_ca 1 (m' := 97) (l' := [some (.ref 0), some (.int (-4))]) (σ' := σ) (pc2 := 39) (l2 := [some (.ref 0), some (.int (nI mi)), some (.int (nI p))]) (t := []) (fun f => rfl) (pi_C_settled hck (hR.tl.of (pi_fr_rf)) (-4)) ?_
  rintro _ t1 ⟨rfl, gt1, rt1⟩
  refine pi_rt 1 (v := some (.int (-4))) (σ' := t1) (fun f => rfl) ?_
  exact ⟨rfl, gt1, pi_fr_tr rt1 (by decide) (pi_fr_rf)⟩
set_option maxRecDepth 20000 in
theorem pi_X_sweep_bad {xs : Nat → Int32} {L d : Nat} {W : zW} {σ : pi_S} (hR : z_CR W σ) {a b : Int32} (hb : ¬ (z_B 60 a ∧ z_B 12 b))  : pi_wp xs L (d + 9) 69 0 [some (.ref 0), some (.int a), some (.int b)] [] σ (fun v s => v = some (.int (-2)) ∧ z_CR W s ∧ pi_fr z_CJ s σ) := by
  have hk := hR.k.p.wk
  have hnd8 := hk.wd.nd8
  have hns12 := hk.wd.ns12
  have hn60 := hk.nine
  have hnf := hk.nf
  have hnw := hk.nw
  have hnc := hk.nc
  have hn08 := hk.wd.n0
  have hn140 := hk.wd.n1
  refine pi_ca 3 (m' := 94) (l' := [some (.int a), some (.int (nI 60))]) (σ' := σ) (pc2 := 6) (l2 := [some (.ref 0), some (.int a), some (.int b)]) (t := []) (fun f => rfl) (pi_C_belowB (a := a) (n := 60) (by omega)) ?_
  rintro _ _ (⟨b1, rfl, rfl⟩ | ⟨b1, rfl, rfl⟩)
  · refine pi_cf 1 (c := nI 1 = 0) (pc' := 9) (l' := [some (.ref 0), some (.int a), some (.int b)]) (st' := []) (σ' := σ) (pc2 := 18) (l2 := [some (.ref 0), some (.int a), some (.int b)]) (st2 := []) (σ2 := σ) (fun f => rfl) (by decide) ?_
    refine pi_ca 3 (m' := 94) (l' := [some (.int b), some (.int (nI 12))]) (σ' := σ) (pc2 := 15) (l2 := [some (.ref 0), some (.int a), some (.int b)]) (t := []) (fun f => rfl) (pi_C_belowB (a := b) (n := 12) (by omega)) ?_
    rintro _ _ (⟨b2, rfl, rfl⟩ | ⟨b2, rfl, rfl⟩)
    · refine pi_cf 1 (c := nI 1 = 0) (pc' := 21) (l' := [some (.ref 0), some (.int a), some (.int b)]) (st' := []) (σ' := σ) (pc2 := 18) (l2 := [some (.ref 0), some (.int a), some (.int b)]) (st2 := []) (σ2 := σ) (fun f => rfl) (by decide) ?_
      exact (hb ⟨b1, b2⟩).elim
    · refine pi_ct 1 (c := nI 0 = 0) (pc' := 18) (l' := [some (.ref 0), some (.int a), some (.int b)]) (st' := []) (σ' := σ) (pc2 := 21) (l2 := [some (.ref 0), some (.int a), some (.int b)]) (st2 := []) (σ2 := σ) (fun f => rfl) (by decide) ?_
      refine pi_rt 2 (v := some (.int (-2))) (σ' := σ) (fun f => rfl) ?_
      exact ⟨rfl, hR, pi_fr_rf⟩
  · refine pi_ct 1 (c := nI 0 = 0) (pc' := 18) (l' := [some (.ref 0), some (.int a), some (.int b)]) (st' := []) (σ' := σ) (pc2 := 9) (l2 := [some (.ref 0), some (.int a), some (.int b)]) (st2 := []) (σ2 := σ) (fun f => rfl) (by decide) ?_
    refine pi_rt 2 (v := some (.int (-2))) (σ' := σ) (fun f => rfl) ?_
    exact ⟨rfl, hR, pi_fr_rf⟩
set_option maxRecDepth 20000 in
theorem pi_X_cart {xs : Nat → Int32} {L d : Nat} {W : zW} {σ : pi_S} (hR : z_CR W σ) {mi p : Nat} (hmi : mi < 60) (hp : p < 8) (hn : W.nc < 8)  : pi_wp xs L (d + 9) 70 0 [some (.ref 0), some (.int (nI mi)), some (.int (nI p))] [] σ (fun v s => v = some (.int (nI (W.nc + 1))) ∧ z_CR (((W.sN 5 (W.nc + 1)).sI 7 (z_u W.cm W.nc (nI mi))).sF 3 (z_u W.cd W.nc p)) s ∧ pi_fr z_CC s σ) := by
  have hk := hR.k.p.wk
  have hnd8 := hk.wd.nd8
  have hns12 := hk.wd.ns12
  have hn60 := hk.nine
  have hnf := hk.nf
  have hnw := hk.nw
  have hnc := hk.nc
  have hn08 := hk.wd.n0
  have hn140 := hk.wd.n1
  refine pi_ca 3 (m' := 94) (l' := [some (.int (nI mi)), some (.int (nI 60))]) (σ' := σ) (pc2 := 6) (l2 := [some (.ref 0), some (.int (nI mi)), some (.int (nI p))]) (t := []) (fun f => rfl) (pi_below1 _ _ (z_BL (by omega) (by omega))) ?_
  rintro _ _ ⟨rfl, rfl⟩
  refine pi_cf 1 (c := nI 1 = 0) (pc' := 9) (l' := [some (.ref 0), some (.int (nI mi)), some (.int (nI p))]) (st' := []) (σ' := σ) (pc2 := 18) (l2 := [some (.ref 0), some (.int (nI mi)), some (.int (nI p))]) (st2 := []) (σ2 := σ) (fun f => rfl) (by decide) ?_
  refine pi_ca 3 (m' := 94) (l' := [some (.int (nI p)), some (.int (nI 8))]) (σ' := σ) (pc2 := 15) (l2 := [some (.ref 0), some (.int (nI mi)), some (.int (nI p))]) (t := []) (fun f => rfl) (pi_below1 _ _ (z_BL (by omega) (by omega))) ?_
  rintro _ _ ⟨rfl, rfl⟩
  refine pi_cf 1 (c := nI 1 = 0) (pc' := 21) (l' := [some (.ref 0), some (.int (nI mi)), some (.int (nI p))]) (st' := []) (σ' := σ) (pc2 := 18) (l2 := [some (.ref 0), some (.int (nI mi)), some (.int (nI p))]) (st2 := []) (σ2 := σ) (fun f => rfl) (by decide) ?_
  refine pi_ca 9 (m' := 1) (l' := [some (.ref 27), some (.int (nI mi)), some (.int (nI p)), some (.int (nI 0)), some (.int (nI 0))]) (σ' := σ) (pc2 := 36) (l2 := [some (.ref 0), some (.int (nI mi)), some (.int (nI p))]) (t := [.ref 0]) (fun f => rfl) (pi_C_appc hR.k (nI mi) (nI p) (nI 0) (nI 0) hn) ?_
  rintro _ t1 ⟨rfl, mt1, gt1, et1_1, et1_2, et1_3, et1_4, rt1⟩
  have hcp : z_CP (((W.sN 5 (W.nc + 1)).sI 7 (z_u W.cm W.nc (nI mi))).sF 3 (z_u W.cd W.nc p)) t1 := hR.k.p.cart hn hp mt1 gt1 et1_1 et1_2 (pi_fr_tr rt1 (by decide) (pi_fr_rf))
  have hct : z_CT (((W.sN 5 (W.nc + 1)).sI 7 (z_u W.cm W.nc (nI mi))).sF 3 (z_u W.cd W.nc p)) t1 := (hR.k.t.of2 (pi_fr_tr rt1 (by decide) (pi_fr_rf)) : z_CT W t1)
  have hck := z_CK.mk hcp hct
  refine pi_ca 1 (m' := 97) (l' := [some (.ref 0), some (.int (nI (W.nc + 1)))]) (σ' := t1) (pc2 := 39) (l2 := [some (.ref 0), some (.int (nI mi)), some (.int (nI p))]) (t := []) (fun f => rfl) (pi_C_settled hck (hR.tl.of (pi_fr_tr rt1 (by decide) (pi_fr_rf))) (nI (W.nc + 1))) ?_
  rintro _ t2 ⟨rfl, gt2, rt2⟩
  refine pi_rt 1 (v := some (.int (nI (W.nc + 1)))) (σ' := t2) (fun f => rfl) ?_
  exact ⟨rfl, gt2, pi_fr_tr rt2 (by decide) (pi_fr_tr rt1 (by decide) (pi_fr_rf))⟩
set_option maxRecDepth 20000 in
theorem pi_X_cart_full {xs : Nat → Int32} {L d : Nat} {W : zW} {σ : pi_S} (hR : z_CR W σ) {mi p : Nat} (hmi : mi < 60) (hp : p < 8) (hn : W.nc = 8)  : pi_wp xs L (d + 9) 70 0 [some (.ref 0), some (.int (nI mi)), some (.int (nI p))] [] σ (fun v s => v = some (.int (-4)) ∧ z_CR W s ∧ pi_fr z_CC s σ) := by
  have hk := hR.k.p.wk
  have hnd8 := hk.wd.nd8
  have hns12 := hk.wd.ns12
  have hn60 := hk.nine
  have hnf := hk.nf
  have hnw := hk.nw
  have hnc := hk.nc
  have hn08 := hk.wd.n0
  have hn140 := hk.wd.n1
  refine pi_ca 3 (m' := 94) (l' := [some (.int (nI mi)), some (.int (nI 60))]) (σ' := σ) (pc2 := 6) (l2 := [some (.ref 0), some (.int (nI mi)), some (.int (nI p))]) (t := []) (fun f => rfl) (pi_below1 _ _ (z_BL (by omega) (by omega))) ?_
  rintro _ _ ⟨rfl, rfl⟩
  refine pi_cf 1 (c := nI 1 = 0) (pc' := 9) (l' := [some (.ref 0), some (.int (nI mi)), some (.int (nI p))]) (st' := []) (σ' := σ) (pc2 := 18) (l2 := [some (.ref 0), some (.int (nI mi)), some (.int (nI p))]) (st2 := []) (σ2 := σ) (fun f => rfl) (by decide) ?_
  refine pi_ca 3 (m' := 94) (l' := [some (.int (nI p)), some (.int (nI 8))]) (σ' := σ) (pc2 := 15) (l2 := [some (.ref 0), some (.int (nI mi)), some (.int (nI p))]) (t := []) (fun f => rfl) (pi_below1 _ _ (z_BL (by omega) (by omega))) ?_
  rintro _ _ ⟨rfl, rfl⟩
  refine pi_cf 1 (c := nI 1 = 0) (pc' := 21) (l' := [some (.ref 0), some (.int (nI mi)), some (.int (nI p))]) (st' := []) (σ' := σ) (pc2 := 18) (l2 := [some (.ref 0), some (.int (nI mi)), some (.int (nI p))]) (st2 := []) (σ2 := σ) (fun f => rfl) (by decide) ?_
  refine pi_ca 9 (m' := 1) (l' := [some (.ref 27), some (.int (nI mi)), some (.int (nI p)), some (.int (nI 0)), some (.int (nI 0))]) (σ' := σ) (pc2 := 36) (l2 := [some (.ref 0), some (.int (nI mi)), some (.int (nI p))]) (t := [.ref 0]) (fun f => rfl) (pi_C_appc_full hR.k (nI mi) (nI p) (nI 0) (nI 0) hn) ?_
  rintro _ _ ⟨rfl, rfl⟩
  have hck := hR.k
  refine pi_ca 1 (m' := 97) (l' := [some (.ref 0), some (.int (-4))]) (σ' := σ) (pc2 := 39) (l2 := [some (.ref 0), some (.int (nI mi)), some (.int (nI p))]) (t := []) (fun f => rfl) (pi_C_settled hck (hR.tl.of (pi_fr_rf)) (-4)) ?_
  rintro _ t1 ⟨rfl, gt1, rt1⟩
  refine pi_rt 1 (v := some (.int (-4))) (σ' := t1) (fun f => rfl) ?_
  exact ⟨rfl, gt1, pi_fr_tr rt1 (by decide) (pi_fr_rf)⟩
set_option maxRecDepth 20000 in
theorem pi_X_cart_bad {xs : Nat → Int32} {L d : Nat} {W : zW} {σ : pi_S} (hR : z_CR W σ) {a b : Int32} (hb : ¬ (z_B 60 a ∧ z_B 8 b))  : pi_wp xs L (d + 9) 70 0 [some (.ref 0), some (.int a), some (.int b)] [] σ (fun v s => v = some (.int (-2)) ∧ z_CR W s ∧ pi_fr z_CJ s σ) := by
  have hk := hR.k.p.wk
  have hnd8 := hk.wd.nd8
  have hns12 := hk.wd.ns12
  have hn60 := hk.nine
  have hnf := hk.nf
  have hnw := hk.nw
  have hnc := hk.nc
  have hn08 := hk.wd.n0
  have hn140 := hk.wd.n1
  refine pi_ca 3 (m' := 94) (l' := [some (.int a), some (.int (nI 60))]) (σ' := σ) (pc2 := 6) (l2 := [some (.ref 0), some (.int a), some (.int b)]) (t := []) (fun f => rfl) (pi_C_belowB (a := a) (n := 60) (by omega)) ?_
  rintro _ _ (⟨b1, rfl, rfl⟩ | ⟨b1, rfl, rfl⟩)
  · refine pi_cf 1 (c := nI 1 = 0) (pc' := 9) (l' := [some (.ref 0), some (.int a), some (.int b)]) (st' := []) (σ' := σ) (pc2 := 18) (l2 := [some (.ref 0), some (.int a), some (.int b)]) (st2 := []) (σ2 := σ) (fun f => rfl) (by decide) ?_
    refine pi_ca 3 (m' := 94) (l' := [some (.int b), some (.int (nI 8))]) (σ' := σ) (pc2 := 15) (l2 := [some (.ref 0), some (.int a), some (.int b)]) (t := []) (fun f => rfl) (pi_C_belowB (a := b) (n := 8) (by omega)) ?_
    rintro _ _ (⟨b2, rfl, rfl⟩ | ⟨b2, rfl, rfl⟩)
    · refine pi_cf 1 (c := nI 1 = 0) (pc' := 21) (l' := [some (.ref 0), some (.int a), some (.int b)]) (st' := []) (σ' := σ) (pc2 := 18) (l2 := [some (.ref 0), some (.int a), some (.int b)]) (st2 := []) (σ2 := σ) (fun f => rfl) (by decide) ?_
      exact (hb ⟨b1, b2⟩).elim
    · refine pi_ct 1 (c := nI 0 = 0) (pc' := 18) (l' := [some (.ref 0), some (.int a), some (.int b)]) (st' := []) (σ' := σ) (pc2 := 21) (l2 := [some (.ref 0), some (.int a), some (.int b)]) (st2 := []) (σ2 := σ) (fun f => rfl) (by decide) ?_
      refine pi_rt 2 (v := some (.int (-2))) (σ' := σ) (fun f => rfl) ?_
      exact ⟨rfl, hR, pi_fr_rf⟩
  · refine pi_ct 1 (c := nI 0 = 0) (pc' := 18) (l' := [some (.ref 0), some (.int a), some (.int b)]) (st' := []) (σ' := σ) (pc2 := 9) (l2 := [some (.ref 0), some (.int a), some (.int b)]) (st2 := []) (σ2 := σ) (fun f => rfl) (by decide) ?_
    refine pi_rt 2 (v := some (.int (-2))) (σ' := σ) (fun f => rfl) ?_
    exact ⟨rfl, hR, pi_fr_rf⟩
set_option maxRecDepth 20000 in
theorem pi_X_rain {xs : Nat → Int32} {L d : Nat} {W : zW} {σ : pi_S} (hR : z_CR W σ) {mi b : Nat} (hmi : mi < 60) (hb : b < 2)  : pi_wp xs L (d + 9) 71 0 [some (.ref 0), some (.int (nI mi)), some (.int (nI b)), none] [] σ (fun v s => v = some (.int (W.rn mi)) ∧ z_CR (W.sI 8 (upd W.rn mi (nI b))) s ∧ pi_fr z_CC s σ) := by
  have hk := hR.k.p.wk
  have hnd8 := hk.wd.nd8
  have hns12 := hk.wd.ns12
  have hn60 := hk.nine
  have hnf := hk.nf
  have hnw := hk.nw
  have hnc := hk.nc
  have hn08 := hk.wd.n0
  have hn140 := hk.wd.n1
  refine pi_ca 3 (m' := 94) (l' := [some (.int (nI mi)), some (.int (nI 60))]) (σ' := σ) (pc2 := 6) (l2 := [some (.ref 0), some (.int (nI mi)), some (.int (nI b)), none]) (t := []) (fun f => rfl) (pi_below1 _ _ (z_BL (by omega) (by omega))) ?_
  rintro _ _ ⟨rfl, rfl⟩
  refine pi_cf 1 (c := nI 1 = 0) (pc' := 9) (l' := [some (.ref 0), some (.int (nI mi)), some (.int (nI b)), none]) (st' := []) (σ' := σ) (pc2 := 17) (l2 := [some (.ref 0), some (.int (nI mi)), some (.int (nI b)), none]) (st2 := []) (σ2 := σ) (fun f => rfl) (by decide) ?_
  refine pi_ca 3 (m' := 94) (l' := [some (.int (nI b)), some (.int (nI 2))]) (σ' := σ) (pc2 := 14) (l2 := [some (.ref 0), some (.int (nI mi)), some (.int (nI b)), none]) (t := []) (fun f => rfl) (pi_below1 _ _ (z_BL (by omega) (by omega))) ?_
  rintro _ _ ⟨rfl, rfl⟩
  refine pi_cf 1 (c := nI 1 = 0) (pc' := 20) (l' := [some (.ref 0), some (.int (nI mi)), some (.int (nI b)), none]) (st' := []) (σ' := σ) (pc2 := 17) (l2 := [some (.ref 0), some (.int (nI mi)), some (.int (nI b)), none]) (st2 := []) (σ2 := σ) (fun f => rfl) (by decide) ?_
  refine pi_ai 5 (u := mi) (n := 60) (g := σ 32) (pc' := 29) (l' := [some (.ref 0), some (.int (nI mi)), some (.int (nI b)), none]) (t := []) (σ' := σ) (fun f => rfl) (by omega) (by omega) ?_
  refine pi_tp (y := W.rn mi) ((hR.k.p.rn mi (by omega))) ?_
  refine pi_au 7 (u := mi) (n := 60) (a := 32) (x := nI b) (pc' := 40) (l' := [some (.ref 0), some (.int (nI mi)), some (.int (nI b)), some (.int (W.rn mi))]) (t := []) (σ' := σ) (fun f => rfl) (by omega) (by omega) ?_
  generalize es1 : pi_up σ 32 mi (nI b) = s1
  have hcp : z_CP (W.sI 8 (upd W.rn mi (nI b))) s1 := hR.k.p.rain ((congrFun es1 32).symm.trans ((pi_up_self _ _ _ _))) (pi_fr_of es1 (by decide) (pi_fr_rf))
  have hct : z_CT (W.sI 8 (upd W.rn mi (nI b))) s1 := (hR.k.t.of2 (pi_fr_of es1 (by decide) (pi_fr_rf)) : z_CT W s1)
  have hck := z_CK.mk hcp hct
  refine pi_ca 3 (m' := 97) (l' := [some (.ref 0), some (.int (W.rn mi))]) (σ' := s1) (pc2 := 45) (l2 := [some (.ref 0), some (.int (nI mi)), some (.int (nI b)), some (.int (W.rn mi))]) (t := []) (fun f => rfl) (pi_C_settled hck (hR.tl.of (pi_fr_of es1 (by decide) (pi_fr_rf))) (W.rn mi)) ?_
  rintro _ t2 ⟨rfl, gt2, rt2⟩
  refine pi_rt 1 (v := some (.int (W.rn mi))) (σ' := t2) (fun f => rfl) ?_
  exact ⟨rfl, gt2, pi_fr_tr rt2 (by decide) (pi_fr_of es1 (by decide) (pi_fr_rf))⟩
set_option maxRecDepth 20000 in
theorem pi_X_rain_bad {xs : Nat → Int32} {L d : Nat} {W : zW} {σ : pi_S} (hR : z_CR W σ) {a b : Int32} (hb : ¬ (z_B 60 a ∧ z_B 2 b))  : pi_wp xs L (d + 9) 71 0 [some (.ref 0), some (.int a), some (.int b), none] [] σ (fun v s => v = some (.int (-2)) ∧ z_CR W s ∧ pi_fr z_CJ s σ) := by
  have hk := hR.k.p.wk
  have hnd8 := hk.wd.nd8
  have hns12 := hk.wd.ns12
  have hn60 := hk.nine
  have hnf := hk.nf
  have hnw := hk.nw
  have hnc := hk.nc
  have hn08 := hk.wd.n0
  have hn140 := hk.wd.n1
  refine pi_ca 3 (m' := 94) (l' := [some (.int a), some (.int (nI 60))]) (σ' := σ) (pc2 := 6) (l2 := [some (.ref 0), some (.int a), some (.int b), none]) (t := []) (fun f => rfl) (pi_C_belowB (a := a) (n := 60) (by omega)) ?_
  rintro _ _ (⟨b1, rfl, rfl⟩ | ⟨b1, rfl, rfl⟩)
  · refine pi_cf 1 (c := nI 1 = 0) (pc' := 9) (l' := [some (.ref 0), some (.int a), some (.int b), none]) (st' := []) (σ' := σ) (pc2 := 17) (l2 := [some (.ref 0), some (.int a), some (.int b), none]) (st2 := []) (σ2 := σ) (fun f => rfl) (by decide) ?_
    refine pi_ca 3 (m' := 94) (l' := [some (.int b), some (.int (nI 2))]) (σ' := σ) (pc2 := 14) (l2 := [some (.ref 0), some (.int a), some (.int b), none]) (t := []) (fun f => rfl) (pi_C_belowB (a := b) (n := 2) (by omega)) ?_
    rintro _ _ (⟨b2, rfl, rfl⟩ | ⟨b2, rfl, rfl⟩)
    · refine pi_cf 1 (c := nI 1 = 0) (pc' := 20) (l' := [some (.ref 0), some (.int a), some (.int b), none]) (st' := []) (σ' := σ) (pc2 := 17) (l2 := [some (.ref 0), some (.int a), some (.int b), none]) (st2 := []) (σ2 := σ) (fun f => rfl) (by decide) ?_
      exact (hb ⟨b1, b2⟩).elim
    · refine pi_ct 1 (c := nI 0 = 0) (pc' := 17) (l' := [some (.ref 0), some (.int a), some (.int b), none]) (st' := []) (σ' := σ) (pc2 := 20) (l2 := [some (.ref 0), some (.int a), some (.int b), none]) (st2 := []) (σ2 := σ) (fun f => rfl) (by decide) ?_
      refine pi_rt 2 (v := some (.int (-2))) (σ' := σ) (fun f => rfl) ?_
      exact ⟨rfl, hR, pi_fr_rf⟩
  · refine pi_ct 1 (c := nI 0 = 0) (pc' := 17) (l' := [some (.ref 0), some (.int a), some (.int b), none]) (st' := []) (σ' := σ) (pc2 := 9) (l2 := [some (.ref 0), some (.int a), some (.int b), none]) (st2 := []) (σ2 := σ) (fun f => rfl) (by decide) ?_
    refine pi_rt 2 (v := some (.int (-2))) (σ' := σ) (fun f => rfl) ?_
    exact ⟨rfl, hR, pi_fr_rf⟩
set_option maxRecDepth 20000 in
theorem pi_X_undo0 {xs : Nat → Int32} {L d : Nat} {W : zW} {σ : pi_S} (hR : z_CR W σ) (hn : ¬ W.nf = 0)  : pi_wp xs L (d + 9) 72 0 [some (.ref 0), some (.int (nI 0))] [] σ (fun v s => v = some (.int (nI (W.nf - 1))) ∧ z_CR (W.sN 3 (W.nf - 1)) s ∧ pi_fr z_CC s σ) := by
  have hk := hR.k.p.wk
  have hnd8 := hk.wd.nd8
  have hns12 := hk.wd.ns12
  have hn60 := hk.nine
  have hnf := hk.nf
  have hnw := hk.nw
  have hnc := hk.nc
  have hn08 := hk.wd.n0
  have hn140 := hk.wd.n1
  refine pi_ca 3 (m' := 94) (l' := [some (.int (nI 0)), some (.int (nI 3))]) (σ' := σ) (pc2 := 5) (l2 := [some (.ref 0), some (.int (nI 0))]) (t := []) (fun f => rfl) (pi_below1 _ _ (z_BL (by omega) (by omega))) ?_
  rintro _ _ ⟨rfl, rfl⟩
  refine pi_cf 1 (c := nI 1 = 0) (pc' := 11) (l' := [some (.ref 0), some (.int (nI 0))]) (st' := []) (σ' := σ) (pc2 := 8) (l2 := [some (.ref 0), some (.int (nI 0))]) (st2 := []) (σ2 := σ) (fun f => rfl) (by decide) ?_
  refine pi_ca 5 (m' := 46) (l' := [some (.ref 16), some (.int (nI 0))]) (σ' := σ) (pc2 := 20) (l2 := [some (.ref 0), some (.int (nI 0))]) (t := [.ref 0]) (fun f => rfl) (pi_C_actsOf0) ?_
  rintro _ _ ⟨rfl, rfl⟩
  refine pi_ca 1 (m' := 2) (l' := [some (.ref 17)]) (σ' := σ) (pc2 := 23) (l2 := [some (.ref 0), some (.int (nI 0))]) (t := [.ref 0]) (fun f => rfl) (pi_C_dropf hR.k hn) ?_
  rintro _ t1 ⟨rfl, mt1, gt1, rt1⟩
  have hcp : z_CP (W.sN 3 (W.nf - 1)) t1 := hR.k.p.un0 mt1 gt1 (pi_fr_tr rt1 (by decide) (pi_fr_rf))
  have hct : z_CT (W.sN 3 (W.nf - 1)) t1 := (hR.k.t.of2 (pi_fr_tr rt1 (by decide) (pi_fr_rf)) : z_CT W t1)
  have hck := z_CK.mk hcp hct
  refine pi_ca 1 (m' := 97) (l' := [some (.ref 0), some (.int (nI (W.nf - 1)))]) (σ' := t1) (pc2 := 26) (l2 := [some (.ref 0), some (.int (nI 0))]) (t := []) (fun f => rfl) (pi_C_settled hck (hR.tl.of (pi_fr_tr rt1 (by decide) (pi_fr_rf))) (nI (W.nf - 1))) ?_
  rintro _ t2 ⟨rfl, gt2, rt2⟩
  refine pi_rt 1 (v := some (.int (nI (W.nf - 1)))) (σ' := t2) (fun f => rfl) ?_
  exact ⟨rfl, gt2, pi_fr_tr rt2 (by decide) (pi_fr_tr rt1 (by decide) (pi_fr_rf))⟩
set_option maxRecDepth 20000 in
theorem pi_X_undo0_no {xs : Nat → Int32} {L d : Nat} {W : zW} {σ : pi_S} (hR : z_CR W σ) (hn : W.nf = 0)  : pi_wp xs L (d + 9) 72 0 [some (.ref 0), some (.int (nI 0))] [] σ (fun v s => v = some (.int (-3)) ∧ z_CR W s ∧ pi_fr z_CC s σ) := by
  have hk := hR.k.p.wk
  have hnd8 := hk.wd.nd8
  have hns12 := hk.wd.ns12
  have hn60 := hk.nine
  have hnf := hk.nf
  have hnw := hk.nw
  have hnc := hk.nc
  have hn08 := hk.wd.n0
  have hn140 := hk.wd.n1
  refine pi_ca 3 (m' := 94) (l' := [some (.int (nI 0)), some (.int (nI 3))]) (σ' := σ) (pc2 := 5) (l2 := [some (.ref 0), some (.int (nI 0))]) (t := []) (fun f => rfl) (pi_below1 _ _ (z_BL (by omega) (by omega))) ?_
  rintro _ _ ⟨rfl, rfl⟩
  refine pi_cf 1 (c := nI 1 = 0) (pc' := 11) (l' := [some (.ref 0), some (.int (nI 0))]) (st' := []) (σ' := σ) (pc2 := 8) (l2 := [some (.ref 0), some (.int (nI 0))]) (st2 := []) (σ2 := σ) (fun f => rfl) (by decide) ?_
  refine pi_ca 5 (m' := 46) (l' := [some (.ref 16), some (.int (nI 0))]) (σ' := σ) (pc2 := 20) (l2 := [some (.ref 0), some (.int (nI 0))]) (t := [.ref 0]) (fun f => rfl) (pi_C_actsOf0) ?_
  rintro _ _ ⟨rfl, rfl⟩
  refine pi_ca 1 (m' := 2) (l' := [some (.ref 17)]) (σ' := σ) (pc2 := 23) (l2 := [some (.ref 0), some (.int (nI 0))]) (t := [.ref 0]) (fun f => rfl) (pi_C_dropf_no hR.k hn) ?_
  rintro _ _ ⟨rfl, rfl⟩
  have hck := hR.k
  refine pi_ca 1 (m' := 97) (l' := [some (.ref 0), some (.int (-3))]) (σ' := σ) (pc2 := 26) (l2 := [some (.ref 0), some (.int (nI 0))]) (t := []) (fun f => rfl) (pi_C_settled hck (hR.tl.of (pi_fr_rf)) (-3)) ?_
  rintro _ t1 ⟨rfl, gt1, rt1⟩
  refine pi_rt 1 (v := some (.int (-3))) (σ' := t1) (fun f => rfl) ?_
  exact ⟨rfl, gt1, pi_fr_tr rt1 (by decide) (pi_fr_rf)⟩
set_option maxRecDepth 20000 in
theorem pi_X_undo1 {xs : Nat → Int32} {L d : Nat} {W : zW} {σ : pi_S} (hR : z_CR W σ) (hn : ¬ W.nw = 0)  : pi_wp xs L (d + 9) 72 0 [some (.ref 0), some (.int (nI 1))] [] σ (fun v s => v = some (.int (nI (W.nw - 1))) ∧ z_CR (W.sN 4 (W.nw - 1)) s ∧ pi_fr z_CC s σ) := by
  have hk := hR.k.p.wk
  have hnd8 := hk.wd.nd8
  have hns12 := hk.wd.ns12
  have hn60 := hk.nine
  have hnf := hk.nf
  have hnw := hk.nw
  have hnc := hk.nc
  have hn08 := hk.wd.n0
  have hn140 := hk.wd.n1
  refine pi_ca 3 (m' := 94) (l' := [some (.int (nI 1)), some (.int (nI 3))]) (σ' := σ) (pc2 := 5) (l2 := [some (.ref 0), some (.int (nI 1))]) (t := []) (fun f => rfl) (pi_below1 _ _ (z_BL (by omega) (by omega))) ?_
  rintro _ _ ⟨rfl, rfl⟩
  refine pi_cf 1 (c := nI 1 = 0) (pc' := 11) (l' := [some (.ref 0), some (.int (nI 1))]) (st' := []) (σ' := σ) (pc2 := 8) (l2 := [some (.ref 0), some (.int (nI 1))]) (st2 := []) (σ2 := σ) (fun f => rfl) (by decide) ?_
  refine pi_ca 5 (m' := 46) (l' := [some (.ref 16), some (.int (nI 1))]) (σ' := σ) (pc2 := 20) (l2 := [some (.ref 0), some (.int (nI 1))]) (t := [.ref 0]) (fun f => rfl) (pi_C_actsOf1) ?_
  rintro _ _ ⟨rfl, rfl⟩
  refine pi_ca 1 (m' := 2) (l' := [some (.ref 22)]) (σ' := σ) (pc2 := 23) (l2 := [some (.ref 0), some (.int (nI 1))]) (t := [.ref 0]) (fun f => rfl) (pi_C_dropw hR.k hn) ?_
  rintro _ t1 ⟨rfl, mt1, gt1, rt1⟩
  have hcp : z_CP (W.sN 4 (W.nw - 1)) t1 := hR.k.p.un1 mt1 gt1 (pi_fr_tr rt1 (by decide) (pi_fr_rf))
  have hct : z_CT (W.sN 4 (W.nw - 1)) t1 := (hR.k.t.of2 (pi_fr_tr rt1 (by decide) (pi_fr_rf)) : z_CT W t1)
  have hck := z_CK.mk hcp hct
  refine pi_ca 1 (m' := 97) (l' := [some (.ref 0), some (.int (nI (W.nw - 1)))]) (σ' := t1) (pc2 := 26) (l2 := [some (.ref 0), some (.int (nI 1))]) (t := []) (fun f => rfl) (pi_C_settled hck (hR.tl.of (pi_fr_tr rt1 (by decide) (pi_fr_rf))) (nI (W.nw - 1))) ?_
  rintro _ t2 ⟨rfl, gt2, rt2⟩
  refine pi_rt 1 (v := some (.int (nI (W.nw - 1)))) (σ' := t2) (fun f => rfl) ?_
  exact ⟨rfl, gt2, pi_fr_tr rt2 (by decide) (pi_fr_tr rt1 (by decide) (pi_fr_rf))⟩
set_option maxRecDepth 20000 in
theorem pi_X_undo1_no {xs : Nat → Int32} {L d : Nat} {W : zW} {σ : pi_S} (hR : z_CR W σ) (hn : W.nw = 0)  : pi_wp xs L (d + 9) 72 0 [some (.ref 0), some (.int (nI 1))] [] σ (fun v s => v = some (.int (-3)) ∧ z_CR W s ∧ pi_fr z_CC s σ) := by
  have hk := hR.k.p.wk
  have hnd8 := hk.wd.nd8
  have hns12 := hk.wd.ns12
  have hn60 := hk.nine
  have hnf := hk.nf
  have hnw := hk.nw
  have hnc := hk.nc
  have hn08 := hk.wd.n0
  have hn140 := hk.wd.n1
  refine pi_ca 3 (m' := 94) (l' := [some (.int (nI 1)), some (.int (nI 3))]) (σ' := σ) (pc2 := 5) (l2 := [some (.ref 0), some (.int (nI 1))]) (t := []) (fun f => rfl) (pi_below1 _ _ (z_BL (by omega) (by omega))) ?_
  rintro _ _ ⟨rfl, rfl⟩
  refine pi_cf 1 (c := nI 1 = 0) (pc' := 11) (l' := [some (.ref 0), some (.int (nI 1))]) (st' := []) (σ' := σ) (pc2 := 8) (l2 := [some (.ref 0), some (.int (nI 1))]) (st2 := []) (σ2 := σ) (fun f => rfl) (by decide) ?_
  refine pi_ca 5 (m' := 46) (l' := [some (.ref 16), some (.int (nI 1))]) (σ' := σ) (pc2 := 20) (l2 := [some (.ref 0), some (.int (nI 1))]) (t := [.ref 0]) (fun f => rfl) (pi_C_actsOf1) ?_
  rintro _ _ ⟨rfl, rfl⟩
  refine pi_ca 1 (m' := 2) (l' := [some (.ref 22)]) (σ' := σ) (pc2 := 23) (l2 := [some (.ref 0), some (.int (nI 1))]) (t := [.ref 0]) (fun f => rfl) (pi_C_dropw_no hR.k hn) ?_
  rintro _ _ ⟨rfl, rfl⟩
  have hck := hR.k
  refine pi_ca 1 (m' := 97) (l' := [some (.ref 0), some (.int (-3))]) (σ' := σ) (pc2 := 26) (l2 := [some (.ref 0), some (.int (nI 1))]) (t := []) (fun f => rfl) (pi_C_settled hck (hR.tl.of (pi_fr_rf)) (-3)) ?_
  rintro _ t1 ⟨rfl, gt1, rt1⟩
  refine pi_rt 1 (v := some (.int (-3))) (σ' := t1) (fun f => rfl) ?_
  exact ⟨rfl, gt1, pi_fr_tr rt1 (by decide) (pi_fr_rf)⟩
set_option maxRecDepth 20000 in
theorem pi_X_undo2 {xs : Nat → Int32} {L d : Nat} {W : zW} {σ : pi_S} (hR : z_CR W σ) (hn : ¬ W.nc = 0)  : pi_wp xs L (d + 9) 72 0 [some (.ref 0), some (.int (nI 2))] [] σ (fun v s => v = some (.int (nI (W.nc - 1))) ∧ z_CR (W.sN 5 (W.nc - 1)) s ∧ pi_fr z_CC s σ) := by
  have hk := hR.k.p.wk
  have hnd8 := hk.wd.nd8
  have hns12 := hk.wd.ns12
  have hn60 := hk.nine
  have hnf := hk.nf
  have hnw := hk.nw
  have hnc := hk.nc
  have hn08 := hk.wd.n0
  have hn140 := hk.wd.n1
  refine pi_ca 3 (m' := 94) (l' := [some (.int (nI 2)), some (.int (nI 3))]) (σ' := σ) (pc2 := 5) (l2 := [some (.ref 0), some (.int (nI 2))]) (t := []) (fun f => rfl) (pi_below1 _ _ (z_BL (by omega) (by omega))) ?_
  rintro _ _ ⟨rfl, rfl⟩
  refine pi_cf 1 (c := nI 1 = 0) (pc' := 11) (l' := [some (.ref 0), some (.int (nI 2))]) (st' := []) (σ' := σ) (pc2 := 8) (l2 := [some (.ref 0), some (.int (nI 2))]) (st2 := []) (σ2 := σ) (fun f => rfl) (by decide) ?_
  refine pi_ca 5 (m' := 46) (l' := [some (.ref 16), some (.int (nI 2))]) (σ' := σ) (pc2 := 20) (l2 := [some (.ref 0), some (.int (nI 2))]) (t := [.ref 0]) (fun f => rfl) (pi_C_actsOf2) ?_
  rintro _ _ ⟨rfl, rfl⟩
  refine pi_ca 1 (m' := 2) (l' := [some (.ref 27)]) (σ' := σ) (pc2 := 23) (l2 := [some (.ref 0), some (.int (nI 2))]) (t := [.ref 0]) (fun f => rfl) (pi_C_dropc hR.k hn) ?_
  rintro _ t1 ⟨rfl, mt1, gt1, rt1⟩
  have hcp : z_CP (W.sN 5 (W.nc - 1)) t1 := hR.k.p.un2 mt1 gt1 (pi_fr_tr rt1 (by decide) (pi_fr_rf))
  have hct : z_CT (W.sN 5 (W.nc - 1)) t1 := (hR.k.t.of2 (pi_fr_tr rt1 (by decide) (pi_fr_rf)) : z_CT W t1)
  have hck := z_CK.mk hcp hct
  refine pi_ca 1 (m' := 97) (l' := [some (.ref 0), some (.int (nI (W.nc - 1)))]) (σ' := t1) (pc2 := 26) (l2 := [some (.ref 0), some (.int (nI 2))]) (t := []) (fun f => rfl) (pi_C_settled hck (hR.tl.of (pi_fr_tr rt1 (by decide) (pi_fr_rf))) (nI (W.nc - 1))) ?_
  rintro _ t2 ⟨rfl, gt2, rt2⟩
  refine pi_rt 1 (v := some (.int (nI (W.nc - 1)))) (σ' := t2) (fun f => rfl) ?_
  exact ⟨rfl, gt2, pi_fr_tr rt2 (by decide) (pi_fr_tr rt1 (by decide) (pi_fr_rf))⟩
set_option maxRecDepth 20000 in
theorem pi_X_undo2_no {xs : Nat → Int32} {L d : Nat} {W : zW} {σ : pi_S} (hR : z_CR W σ) (hn : W.nc = 0)  : pi_wp xs L (d + 9) 72 0 [some (.ref 0), some (.int (nI 2))] [] σ (fun v s => v = some (.int (-3)) ∧ z_CR W s ∧ pi_fr z_CC s σ) := by
  have hk := hR.k.p.wk
  have hnd8 := hk.wd.nd8
  have hns12 := hk.wd.ns12
  have hn60 := hk.nine
  have hnf := hk.nf
  have hnw := hk.nw
  have hnc := hk.nc
  have hn08 := hk.wd.n0
  have hn140 := hk.wd.n1
  refine pi_ca 3 (m' := 94) (l' := [some (.int (nI 2)), some (.int (nI 3))]) (σ' := σ) (pc2 := 5) (l2 := [some (.ref 0), some (.int (nI 2))]) (t := []) (fun f => rfl) (pi_below1 _ _ (z_BL (by omega) (by omega))) ?_
  rintro _ _ ⟨rfl, rfl⟩
  refine pi_cf 1 (c := nI 1 = 0) (pc' := 11) (l' := [some (.ref 0), some (.int (nI 2))]) (st' := []) (σ' := σ) (pc2 := 8) (l2 := [some (.ref 0), some (.int (nI 2))]) (st2 := []) (σ2 := σ) (fun f => rfl) (by decide) ?_
  refine pi_ca 5 (m' := 46) (l' := [some (.ref 16), some (.int (nI 2))]) (σ' := σ) (pc2 := 20) (l2 := [some (.ref 0), some (.int (nI 2))]) (t := [.ref 0]) (fun f => rfl) (pi_C_actsOf2) ?_
  rintro _ _ ⟨rfl, rfl⟩
  refine pi_ca 1 (m' := 2) (l' := [some (.ref 27)]) (σ' := σ) (pc2 := 23) (l2 := [some (.ref 0), some (.int (nI 2))]) (t := [.ref 0]) (fun f => rfl) (pi_C_dropc_no hR.k hn) ?_
  rintro _ _ ⟨rfl, rfl⟩
  have hck := hR.k
  refine pi_ca 1 (m' := 97) (l' := [some (.ref 0), some (.int (-3))]) (σ' := σ) (pc2 := 26) (l2 := [some (.ref 0), some (.int (nI 2))]) (t := []) (fun f => rfl) (pi_C_settled hck (hR.tl.of (pi_fr_rf)) (-3)) ?_
  rintro _ t1 ⟨rfl, gt1, rt1⟩
  refine pi_rt 1 (v := some (.int (-3))) (σ' := t1) (fun f => rfl) ?_
  exact ⟨rfl, gt1, pi_fr_tr rt1 (by decide) (pi_fr_rf)⟩
set_option maxRecDepth 20000 in
theorem pi_X_undo_bad {xs : Nat → Int32} {L d : Nat} {W : zW} {σ : pi_S} (hR : z_CR W σ) {a : Int32} (hb : ¬ (z_B 3 a))  : pi_wp xs L (d + 9) 72 0 [some (.ref 0), some (.int a)] [] σ (fun v s => v = some (.int (-2)) ∧ z_CR W s ∧ pi_fr z_CJ s σ) := by
  have hk := hR.k.p.wk
  have hnd8 := hk.wd.nd8
  have hns12 := hk.wd.ns12
  have hn60 := hk.nine
  have hnf := hk.nf
  have hnw := hk.nw
  have hnc := hk.nc
  have hn08 := hk.wd.n0
  have hn140 := hk.wd.n1
  refine pi_ca 3 (m' := 94) (l' := [some (.int a), some (.int (nI 3))]) (σ' := σ) (pc2 := 5) (l2 := [some (.ref 0), some (.int a)]) (t := []) (fun f => rfl) (pi_C_belowB (a := a) (n := 3) (by omega)) ?_
  rintro _ _ (⟨b1, rfl, rfl⟩ | ⟨b1, rfl, rfl⟩)
  · refine pi_cf 1 (c := nI 1 = 0) (pc' := 11) (l' := [some (.ref 0), some (.int a)]) (st' := []) (σ' := σ) (pc2 := 8) (l2 := [some (.ref 0), some (.int a)]) (st2 := []) (σ2 := σ) (fun f => rfl) (by decide) ?_
    exact (hb b1).elim
  · refine pi_ct 1 (c := nI 0 = 0) (pc' := 8) (l' := [some (.ref 0), some (.int a)]) (st' := []) (σ' := σ) (pc2 := 11) (l2 := [some (.ref 0), some (.int a)]) (st2 := []) (σ2 := σ) (fun f => rfl) (by decide) ?_
    refine pi_rt 2 (v := some (.int (-2))) (σ' := σ) (fun f => rfl) ?_
    exact ⟨rfl, hR, pi_fr_rf⟩
