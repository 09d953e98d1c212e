theorem z_fine_c {a a' b b' : Nat → Int32} (h1 : a = a') (h2 : b = b') (d : Nat) : z_fine a b d = z_fine a' b' d := by rw [h1, h2]
theorem z_fines_c {a a' b b' : Nat → Int32} (h1 : a = a') (h2 : b = b') (d : Nat) : z_fines a b d = z_fines a' b' d := by rw [h1, h2]
theorem z_shl : ∀ k, k < 31 → nI 1 <<< (nI k &&& 31) = nI (2 ^ k) := by decide +kernel
set_option maxRecDepth 20000 in
theorem pi_M_liesOf0 {xs : Nat → Int32} {L d : Nat} {W : zW} {σ : pi_S} (hm : z_MR W σ) {dr mi : Nat} (hd : dr < 8) (hi : mi < 60)  : pi_wp xs L (d + 6) 133 0 [some (.ref 56), some (.int (nI dr)), some (.int (nI mi)), some (.int (-1))] [] σ (fun v s => v = some (.int (z_all (z_R W (-1) (-1) 0 (fun _ => 0) (mi + 1)).1.1.1 dr)) ∧ z_MT W s ∧ pi_fr z_RC s σ) := by
  have hk := hm.wk
  have hnd8 := hk.wd.nd8
  have hns12 := hk.wd.ns12
  have hn60 := hk.nine
  have hnf := hk.nf
  have hnw := hk.nw
  have hnc := hk.nc
  have hn08 := hk.wd.n0
  have hn140 := hk.wd.n1
  refine pi_ca 2 (m' := 111) (l' := [some (.ref 56), none]) (σ' := σ) (pc2 := 4) (l2 := [some (.ref 56), some (.int (nI dr)), some (.int (nI mi)), some (.int (-1))]) (t := []) (fun f => rfl) (pi_M_reads hm ) ?_
  rintro _ t1 ⟨rfl, gt1, rt1⟩
  refine pi_go 3 (pc' := 9) (l' := [some (.ref 56), some (.int (nI dr)), some (.int (nI mi)), some (.int (-1))]) (st' := []) (σ' := (pi_up t1 56 26 (nI 0))) (fun f => rfl) ?_
  generalize es2 : pi_up t1 56 26 (nI 0) = s2
  refine pi_ca 5 (m' := 131) (l' := [some (.ref 56), some (.int (nI mi)), some (.int (-1)), some (.int (-1)), none, none]) (σ' := s2) (pc2 := 16) (l2 := [some (.ref 56), some (.int (nI dr)), some (.int (nI mi)), some (.int (-1))]) (t := []) (fun f => rfl) (pi_M_runs (rw_ := (fun _ => 0)) (z_MT.of0 gt1 (pi_fr_of es2 (by decide) (pi_fr_rf)) (pi_fs_up es2 (by decide) (pi_fs_rf))) ((congrFun (congrFun es2 56) 26).symm.trans (pi_up_ss _ _ _ _)) (by omega) (fun i hi => absurd hi (Nat.not_lt_zero i)) (by omega)) ?_
  rintro _ t3 ⟨rfl, gt3, et3_74, et3_75, et3_25, et3_28, kt3, qt3⟩
  have rt3 : pi_fr z_RC t3 s2 := pi_fr_tr qt3 (by decide) pi_fr_rf
  refine pi_ct 3 (c := (-1) = (-1)) (pc' := 21) (l' := [some (.ref 56), some (.int (nI dr)), some (.int (nI mi)), some (.int (-1))]) (st' := []) (σ' := t3) (pc2 := 29) (l2 := [some (.ref 56), some (.int (nI dr)), some (.int (nI mi)), some (.int (-1))]) (st2 := []) (σ2 := t3) (fun f => rfl) (by decide) ?_
  refine pi_ca 3 (m' := 126) (l' := [some (.ref 56), some (.int (nI dr)), none, none]) (σ' := t3) (pc2 := 26) (l2 := [some (.ref 56), some (.int (nI dr)), some (.int (nI mi)), some (.int (-1))]) (t := []) (fun f => rfl) (pi_m_all (by omega)) ?_
  rintro _ _ ⟨rfl, rfl⟩
  refine pi_tp (y := z_all ((z_R W (-1) (-1) 0 (fun _ => 0) (mi + 1)).1.1.1) dr) (congrArg (fun z => z_all z dr) (et3_74)) ?_
  refine pi_rt 2 (v := some (.int (z_all ((z_R W (-1) (-1) 0 (fun _ => 0) (mi + 1)).1.1.1) dr))) (σ' := t3) (fun f => rfl) ?_
  exact ⟨rfl, gt3, pi_fr_t2 rt3 (pi_fr_of es2 (by decide) (pi_fr_t2 rt1 (pi_fr_rf)))⟩
set_option maxRecDepth 20000 in
theorem pi_M_liesOf1 {xs : Nat → Int32} {L d : Nat} {W : zW} {σ : pi_S} (hm : z_MR W σ) {dr mi kd : Nat} (hd : dr < 8) (hi : mi < 60) (hkd : kd < 5)  : pi_wp xs L (d + 6) 133 0 [some (.ref 56), some (.int (nI dr)), some (.int (nI mi)), some (.int (nI kd))] [] σ (fun v s => v = some (.int ((z_R W (-1) (-1) 0 (fun _ => 0) (mi + 1)).1.1.1 (5 * dr + kd))) ∧ z_MT W s ∧ pi_fr z_RC s σ) := by
  have hk := hm.wk
  have hnd8 := hk.wd.nd8
  have hns12 := hk.wd.ns12
  have hn60 := hk.nine
  have hnf := hk.nf
  have hnw := hk.nw
  have hnc := hk.nc
  have hn08 := hk.wd.n0
  have hn140 := hk.wd.n1
  refine pi_ca 2 (m' := 111) (l' := [some (.ref 56), none]) (σ' := σ) (pc2 := 4) (l2 := [some (.ref 56), some (.int (nI dr)), some (.int (nI mi)), some (.int (nI kd))]) (t := []) (fun f => rfl) (pi_M_reads hm ) ?_
  rintro _ t1 ⟨rfl, gt1, rt1⟩
  refine pi_go 3 (pc' := 9) (l' := [some (.ref 56), some (.int (nI dr)), some (.int (nI mi)), some (.int (nI kd))]) (st' := []) (σ' := (pi_up t1 56 26 (nI 0))) (fun f => rfl) ?_
  generalize es2 : pi_up t1 56 26 (nI 0) = s2
  refine pi_ca 5 (m' := 131) (l' := [some (.ref 56), some (.int (nI mi)), some (.int (-1)), some (.int (-1)), none, none]) (σ' := s2) (pc2 := 16) (l2 := [some (.ref 56), some (.int (nI dr)), some (.int (nI mi)), some (.int (nI kd))]) (t := []) (fun f => rfl) (pi_M_runs (rw_ := (fun _ => 0)) (z_MT.of0 gt1 (pi_fr_of es2 (by decide) (pi_fr_rf)) (pi_fs_up es2 (by decide) (pi_fs_rf))) ((congrFun (congrFun es2 56) 26).symm.trans (pi_up_ss _ _ _ _)) (by omega) (fun i hi => absurd hi (Nat.not_lt_zero i)) (by omega)) ?_
  rintro _ t3 ⟨rfl, gt3, et3_74, et3_75, et3_25, et3_28, kt3, qt3⟩
  have rt3 : pi_fr z_RC t3 s2 := pi_fr_tr qt3 (by decide) pi_fr_rf
  refine pi_cf 3 (c := nI kd = (-1)) (pc' := 29) (l' := [some (.ref 56), some (.int (nI dr)), some (.int (nI mi)), some (.int (nI kd))]) (st' := []) (σ' := t3) (pc2 := 21) (l2 := [some (.ref 56), some (.int (nI dr)), some (.int (nI mi)), some (.int (nI kd))]) (st2 := []) (σ2 := t3) (fun f => rfl) (z_nIm _ (by omega)) ?_
  refine pi_go 5 (pc' := 36) (l' := [some (.ref 56), some (.int (nI dr)), some (.int (nI mi)), some (.int (nI kd))]) (st' := [.int (nI 5 * nI dr), .ref 74]) (σ' := t3) (fun f => rfl) ?_
  refine pi_tp (y := nI (5 * dr)) (pk_mul _ _) ?_
  refine pi_go 2 (pc' := 38) (l' := [some (.ref 56), some (.int (nI dr)), some (.int (nI mi)), some (.int (nI kd))]) (st' := [.int (nI (5 * dr) + nI kd), .ref 74]) (σ' := t3) (fun f => rfl) ?_
  refine pi_tp (y := nI (5 * dr + kd)) (nI_add _ _) ?_
  refine pi_ai 1 (u := 5 * dr + kd) (n := 40) (g := t3 74) (pc' := 39) (l' := [some (.ref 56), some (.int (nI dr)), some (.int (nI mi)), some (.int (nI kd))]) (t := []) (σ' := t3) (fun f => rfl) (by omega) (by omega) ?_
  refine pi_tp (y := ((z_R W (-1) (-1) 0 (fun _ => 0) (mi + 1)).1.1.1) (5 * dr + kd)) (congrFun (et3_74) (5 * dr + kd)) ?_
  refine pi_rt 1 (v := some (.int (((z_R W (-1) (-1) 0 (fun _ => 0) (mi + 1)).1.1.1) (5 * dr + kd)))) (σ' := t3) (fun f => rfl) ?_
  exact ⟨rfl, gt3, pi_fr_t2 rt3 (pi_fr_of es2 (by decide) (pi_fr_t2 rt1 (pi_fr_rf)))⟩
set_option maxRecDepth 20000 in
theorem pi_M_fineOf0 {xs : Nat → Int32} {L d : Nat} {W : zW} {σ : pi_S} (hm : z_MR W σ)   : pi_wp xs L (d + 6) 137 0 [some (.ref 56), some (.int (-1))] [] σ (fun v s => v = some (.int (z_fines W.rt (z_A W).1.1.1 W.nd)) ∧ z_MT W s ∧ pi_fr z_RC s σ) := by
  have hk := hm.wk
  have hnd8 := hk.wd.nd8
  have hns12 := hk.wd.ns12
  have hn60 := hk.nine
  have hnf := hk.nf
  have hnw := hk.nw
  have hnc := hk.nc
  have hn08 := hk.wd.n0
  have hn140 := hk.wd.n1
  refine pi_ca 2 (m' := 132) (l' := [some (.ref 56)]) (σ' := σ) (pc2 := 4) (l2 := [some (.ref 56), some (.int (-1))]) (t := []) (fun f => rfl) (pi_M_runsAll hm ) ?_
  rintro _ t1 ⟨rfl, gt1, et1_4, et1_5, et1_25, et1_26, rt1⟩
  refine pi_ct 3 (c := (-1) = (-1)) (pc' := 9) (l' := [some (.ref 56), some (.int (-1))]) (st' := []) (σ' := t1) (pc2 := 16) (l2 := [some (.ref 56), some (.int (-1))]) (st2 := []) (σ2 := t1) (fun f => rfl) (by decide) ?_
  refine pi_ca 2 (m' := 136) (l' := [some (.ref 56), none, none]) (σ' := t1) (pc2 := 13) (l2 := [some (.ref 56), some (.int (-1))]) (t := []) (fun f => rfl) (pi_m_fines (gt1.d2) (by omega)) ?_
  rintro _ _ ⟨rfl, rfl⟩
  refine pi_tp (y := z_fines W.rt ((z_A W).1.1.1) W.nd) (z_fines_c (gt1.mr.rt) (et1_4) _) ?_
  refine pi_rt 2 (v := some (.int (z_fines W.rt ((z_A W).1.1.1) W.nd))) (σ' := t1) (fun f => rfl) ?_
  exact ⟨rfl, gt1, pi_fr_t2 rt1 (pi_fr_rf)⟩
set_option maxRecDepth 20000 in
theorem pi_M_fineOf1 {xs : Nat → Int32} {L d : Nat} {W : zW} {σ : pi_S} (hm : z_MR W σ) {dr : Nat} (hd : dr < 8)  : pi_wp xs L (d + 6) 137 0 [some (.ref 56), some (.int (nI dr))] [] σ (fun v s => v = some (.int (z_fine W.rt (z_A W).1.1.1 dr)) ∧ z_MT W s ∧ pi_fr z_RC s σ) := by
  have hk := hm.wk
  have hnd8 := hk.wd.nd8
  have hns12 := hk.wd.ns12
  have hn60 := hk.nine
  have hnf := hk.nf
  have hnw := hk.nw
  have hnc := hk.nc
  have hn08 := hk.wd.n0
  have hn140 := hk.wd.n1
  refine pi_ca 2 (m' := 132) (l' := [some (.ref 56)]) (σ' := σ) (pc2 := 4) (l2 := [some (.ref 56), some (.int (nI dr))]) (t := []) (fun f => rfl) (pi_M_runsAll hm ) ?_
  rintro _ t1 ⟨rfl, gt1, et1_4, et1_5, et1_25, et1_26, rt1⟩
  refine pi_cf 3 (c := nI dr = (-1)) (pc' := 16) (l' := [some (.ref 56), some (.int (nI dr))]) (st' := []) (σ' := t1) (pc2 := 9) (l2 := [some (.ref 56), some (.int (nI dr))]) (st2 := []) (σ2 := t1) (fun f => rfl) (z_nIm _ (by omega)) ?_
  refine pi_ca 3 (m' := 135) (l' := [some (.ref 56), some (.int (nI dr)), none, none]) (σ' := t1) (pc2 := 21) (l2 := [some (.ref 56), some (.int (nI dr))]) (t := []) (fun f => rfl) (pi_m_fine (by omega)) ?_
  rintro _ _ ⟨rfl, rfl⟩
  refine pi_tp (y := z_fine W.rt ((z_A W).1.1.1) dr) (z_fine_c (gt1.mr.rt) (et1_4) _) ?_
  refine pi_rt 1 (v := some (.int (z_fine W.rt ((z_A W).1.1.1) dr))) (σ' := t1) (fun f => rfl) ?_
  exact ⟨rfl, gt1, pi_fr_t2 rt1 (pi_fr_rf)⟩
set_option maxRecDepth 20000 in
theorem pi_M_judgedNow {xs : Nat → Int32} {L d : Nat} {W : zW} {σ : pi_S} (hm : z_MR W σ)   : pi_wp xs L (d + 6) 139 0 [some (.ref 56)] [] σ (fun v s => v = some (.int ((z_A W).1.2)) ∧ z_MT W s ∧ pi_fr z_RC s σ) := by
  have hk := hm.wk
  have hnd8 := hk.wd.nd8
  have hns12 := hk.wd.ns12
  have hn60 := hk.nine
  have hnf := hk.nf
  have hnw := hk.nw
  have hnc := hk.nc
  have hn08 := hk.wd.n0
  have hn140 := hk.wd.n1
  refine pi_ca 2 (m' := 132) (l' := [some (.ref 56)]) (σ' := σ) (pc2 := 4) (l2 := [some (.ref 56)]) (t := []) (fun f => rfl) (pi_M_runsAll hm ) ?_
  rintro _ t1 ⟨rfl, gt1, et1_4, et1_5, et1_25, et1_26, rt1⟩
  refine pi_go 2 (pc' := 8) (l' := [some (.ref 56)]) (st' := [.int (t1 56 25)]) (σ' := t1) (fun f => rfl) ?_
  refine pi_tp (y := (z_A W).1.2) (et1_25) ?_
  refine pi_rt 1 (v := some (.int ((z_A W).1.2))) (σ' := t1) (fun f => rfl) ?_
  exact ⟨rfl, gt1, pi_fr_t2 rt1 (pi_fr_rf)⟩
def z_more (W : zW) (k : Nat) : Int32 := z_fine W.rt (z_A W).1.1.1 (W.up k) * W.pr (W.lo k)
def z_less (W : zW) (k : Nat) : Int32 := z_fine W.rt (z_A W).1.1.1 (W.up k) * W.pr (W.up k)
def z_br (W : zW) (k : Nat) : Int32 := if z_less W k < z_more W k then z_more W k - z_less W k else nI 0
set_option maxRecDepth 20000 in
theorem pi_M_bribeOf0 {xs : Nat → Int32} {L d : Nat} {W : zW} {σ : pi_S} (hm : z_MR W σ) {st : Nat} (hs : st < W.ns)  : pi_wp xs L (d + 6) 148 0 [some (.ref 56), some (.int (nI st)), some (.int (nI 0)), none, none, none] [] σ (fun v s => v = some (.int (z_more W st)) ∧ z_MT W s ∧ pi_fr z_RC s σ) := by
  have hk := hm.wk
  have hnd8 := hk.wd.nd8
  have hns12 := hk.wd.ns12
  have hn60 := hk.nine
  have hnf := hk.nf
  have hnw := hk.nw
  have hnc := hk.nc
  have hn08 := hk.wd.n0
  have hn140 := hk.wd.n1
  have hul := hk.wd.us st hs
  refine pi_ca 2 (m' := 132) (l' := [some (.ref 56)]) (σ' := σ) (pc2 := 4) (l2 := [some (.ref 56), some (.int (nI st)), some (.int (nI 0)), none, none, none]) (t := []) (fun f => rfl) (pi_M_runsAll hm ) ?_
  rintro _ t1 ⟨rfl, gt1, et1_4, et1_5, et1_25, et1_26, rt1⟩
  refine pi_ai 5 (u := st) (n := 12) (g := t1 60) (pc' := 11) (l' := [some (.ref 56), some (.int (nI st)), some (.int (nI 0)), none, none, none]) (t := [.ref 56]) (σ' := t1) (fun f => rfl) (by omega) (by omega) ?_
  refine pi_tp (y := nI (W.up st)) ((gt1.st st (by omega)).1) ?_
  refine pi_ca 1 (m' := 135) (l' := [some (.ref 56), some (.int (nI (W.up st))), none, none]) (σ' := t1) (pc2 := 14) (l2 := [some (.ref 56), some (.int (nI st)), some (.int (nI 0)), none, none, none]) (t := []) (fun f => rfl) (pi_m_fine (by omega)) ?_
  rintro _ _ ⟨rfl, rfl⟩
  refine pi_tp (y := z_fine W.rt ((z_A W).1.1.1) (W.up st)) (z_fine_c (gt1.mr.rt) (et1_4) _) ?_
  refine pi_ai 8 (u := st) (n := 12) (g := t1 61) (pc' := 26) (l' := [some (.ref 56), some (.int (nI st)), some (.int (nI 0)), some (.int (z_fine W.rt ((z_A W).1.1.1) (W.up st))), none, none]) (t := [.ref 64, .int (z_fine W.rt ((z_A W).1.1.1) (W.up st))]) (σ' := t1) (fun f => rfl) (by omega) (by omega) ?_
  refine pi_tp (y := nI (W.lo st)) ((gt1.st st (by omega)).2) ?_
  refine pi_ai 1 (u := W.lo st) (n := 8) (g := t1 64) (pc' := 27) (l' := [some (.ref 56), some (.int (nI st)), some (.int (nI 0)), some (.int (z_fine W.rt ((z_A W).1.1.1) (W.up st))), none, none]) (t := [.int (z_fine W.rt ((z_A W).1.1.1) (W.up st))]) (σ' := t1) (fun f => rfl) (by omega) (by omega) ?_
  refine pi_tp (y := W.pr (W.lo st)) (congrFun (gt1.mr.pr) (W.lo st)) ?_
  refine pi_ai 9 (u := st) (n := 12) (g := t1 60) (pc' := 41) (l' := [some (.ref 56), some (.int (nI st)), some (.int (nI 0)), some (.int (z_fine W.rt ((z_A W).1.1.1) (W.up st))), some (.int ((z_fine W.rt ((z_A W).1.1.1) (W.up st)) * (W.pr (W.lo st)))), none]) (t := [.ref 64, .int (z_fine W.rt ((z_A W).1.1.1) (W.up st))]) (σ' := t1) (fun f => rfl) (by omega) (by omega) ?_
  refine pi_tp (y := nI (W.up st)) ((gt1.st st (by omega)).1) ?_
  refine pi_ai 1 (u := W.up st) (n := 8) (g := t1 64) (pc' := 42) (l' := [some (.ref 56), some (.int (nI st)), some (.int (nI 0)), some (.int (z_fine W.rt ((z_A W).1.1.1) (W.up st))), some (.int ((z_fine W.rt ((z_A W).1.1.1) (W.up st)) * (W.pr (W.lo st)))), none]) (t := [.int (z_fine W.rt ((z_A W).1.1.1) (W.up st))]) (σ' := t1) (fun f => rfl) (by omega) (by omega) ?_
  refine pi_tp (y := W.pr (W.up st)) (congrFun (gt1.mr.pr) (W.up st)) ?_
  refine pi_ct 4 (c := nI 0 = 0) (pc' := 49) (l' := [some (.ref 56), some (.int (nI st)), some (.int (nI 0)), some (.int (z_fine W.rt ((z_A W).1.1.1) (W.up st))), some (.int ((z_fine W.rt ((z_A W).1.1.1) (W.up st)) * (W.pr (W.lo st)))), some (.int ((z_fine W.rt ((z_A W).1.1.1) (W.up st)) * (W.pr (W.up st))))]) (st' := []) (σ' := t1) (pc2 := 54) (l2 := [some (.ref 56), some (.int (nI st)), some (.int (nI 0)), some (.int (z_fine W.rt ((z_A W).1.1.1) (W.up st))), some (.int ((z_fine W.rt ((z_A W).1.1.1) (W.up st)) * (W.pr (W.lo st)))), some (.int ((z_fine W.rt ((z_A W).1.1.1) (W.up st)) * (W.pr (W.up st))))]) (st2 := []) (σ2 := t1) (fun f => rfl) (by decide) ?_
  refine pi_rt 3 (v := some (.int ((z_fine W.rt ((z_A W).1.1.1) (W.up st)) * (W.pr (W.lo st))))) (σ' := t1) (fun f => rfl) ?_
  exact ⟨rfl, gt1, pi_fr_t2 rt1 (pi_fr_rf)⟩
set_option maxRecDepth 20000 in
theorem pi_M_bribeOf1 {xs : Nat → Int32} {L d : Nat} {W : zW} {σ : pi_S} (hm : z_MR W σ) {st : Nat} (hs : st < W.ns)  : pi_wp xs L (d + 6) 148 0 [some (.ref 56), some (.int (nI st)), some (.int (nI 1)), none, none, none] [] σ (fun v s => v = some (.int (z_less W st)) ∧ z_MT W s ∧ pi_fr z_RC s σ) := by
  have hk := hm.wk
  have hnd8 := hk.wd.nd8
  have hns12 := hk.wd.ns12
  have hn60 := hk.nine
  have hnf := hk.nf
  have hnw := hk.nw
  have hnc := hk.nc
  have hn08 := hk.wd.n0
  have hn140 := hk.wd.n1
  have hul := hk.wd.us st hs
  refine pi_ca 2 (m' := 132) (l' := [some (.ref 56)]) (σ' := σ) (pc2 := 4) (l2 := [some (.ref 56), some (.int (nI st)), some (.int (nI 1)), none, none, none]) (t := []) (fun f => rfl) (pi_M_runsAll hm ) ?_
  rintro _ t1 ⟨rfl, gt1, et1_4, et1_5, et1_25, et1_26, rt1⟩
  refine pi_ai 5 (u := st) (n := 12) (g := t1 60) (pc' := 11) (l' := [some (.ref 56), some (.int (nI st)), some (.int (nI 1)), none, none, none]) (t := [.ref 56]) (σ' := t1) (fun f => rfl) (by omega) (by omega) ?_
  refine pi_tp (y := nI (W.up st)) ((gt1.st st (by omega)).1) ?_
  refine pi_ca 1 (m' := 135) (l' := [some (.ref 56), some (.int (nI (W.up st))), none, none]) (σ' := t1) (pc2 := 14) (l2 := [some (.ref 56), some (.int (nI st)), some (.int (nI 1)), none, none, none]) (t := []) (fun f => rfl) (pi_m_fine (by omega)) ?_
  rintro _ _ ⟨rfl, rfl⟩
  refine pi_tp (y := z_fine W.rt ((z_A W).1.1.1) (W.up st)) (z_fine_c (gt1.mr.rt) (et1_4) _) ?_
  refine pi_ai 8 (u := st) (n := 12) (g := t1 61) (pc' := 26) (l' := [some (.ref 56), some (.int (nI st)), some (.int (nI 1)), some (.int (z_fine W.rt ((z_A W).1.1.1) (W.up st))), none, none]) (t := [.ref 64, .int (z_fine W.rt ((z_A W).1.1.1) (W.up st))]) (σ' := t1) (fun f => rfl) (by omega) (by omega) ?_
  refine pi_tp (y := nI (W.lo st)) ((gt1.st st (by omega)).2) ?_
  refine pi_ai 1 (u := W.lo st) (n := 8) (g := t1 64) (pc' := 27) (l' := [some (.ref 56), some (.int (nI st)), some (.int (nI 1)), some (.int (z_fine W.rt ((z_A W).1.1.1) (W.up st))), none, none]) (t := [.int (z_fine W.rt ((z_A W).1.1.1) (W.up st))]) (σ' := t1) (fun f => rfl) (by omega) (by omega) ?_
  refine pi_tp (y := W.pr (W.lo st)) (congrFun (gt1.mr.pr) (W.lo st)) ?_
  refine pi_ai 9 (u := st) (n := 12) (g := t1 60) (pc' := 41) (l' := [some (.ref 56), some (.int (nI st)), some (.int (nI 1)), some (.int (z_fine W.rt ((z_A W).1.1.1) (W.up st))), some (.int ((z_fine W.rt ((z_A W).1.1.1) (W.up st)) * (W.pr (W.lo st)))), none]) (t := [.ref 64, .int (z_fine W.rt ((z_A W).1.1.1) (W.up st))]) (σ' := t1) (fun f => rfl) (by omega) (by omega) ?_
  refine pi_tp (y := nI (W.up st)) ((gt1.st st (by omega)).1) ?_
  refine pi_ai 1 (u := W.up st) (n := 8) (g := t1 64) (pc' := 42) (l' := [some (.ref 56), some (.int (nI st)), some (.int (nI 1)), some (.int (z_fine W.rt ((z_A W).1.1.1) (W.up st))), some (.int ((z_fine W.rt ((z_A W).1.1.1) (W.up st)) * (W.pr (W.lo st)))), none]) (t := [.int (z_fine W.rt ((z_A W).1.1.1) (W.up st))]) (σ' := t1) (fun f => rfl) (by omega) (by omega) ?_
  refine pi_tp (y := W.pr (W.up st)) (congrFun (gt1.mr.pr) (W.up st)) ?_
  refine pi_cf 4 (c := nI 1 = 0) (pc' := 54) (l' := [some (.ref 56), some (.int (nI st)), some (.int (nI 1)), some (.int (z_fine W.rt ((z_A W).1.1.1) (W.up st))), some (.int ((z_fine W.rt ((z_A W).1.1.1) (W.up st)) * (W.pr (W.lo st)))), some (.int ((z_fine W.rt ((z_A W).1.1.1) (W.up st)) * (W.pr (W.up st))))]) (st' := []) (σ' := t1) (pc2 := 49) (l2 := [some (.ref 56), some (.int (nI st)), some (.int (nI 1)), some (.int (z_fine W.rt ((z_A W).1.1.1) (W.up st))), some (.int ((z_fine W.rt ((z_A W).1.1.1) (W.up st)) * (W.pr (W.lo st)))), some (.int ((z_fine W.rt ((z_A W).1.1.1) (W.up st)) * (W.pr (W.up st))))]) (st2 := []) (σ2 := t1) (fun f => rfl) (by decide) ?_
  refine pi_ct 3 (c := nI 1 = nI 1) (pc' := 59) (l' := [some (.ref 56), some (.int (nI st)), some (.int (nI 1)), some (.int (z_fine W.rt ((z_A W).1.1.1) (W.up st))), some (.int ((z_fine W.rt ((z_A W).1.1.1) (W.up st)) * (W.pr (W.lo st)))), some (.int ((z_fine W.rt ((z_A W).1.1.1) (W.up st)) * (W.pr (W.up st))))]) (st' := []) (σ' := t1) (pc2 := 64) (l2 := [some (.ref 56), some (.int (nI st)), some (.int (nI 1)), some (.int (z_fine W.rt ((z_A W).1.1.1) (W.up st))), some (.int ((z_fine W.rt ((z_A W).1.1.1) (W.up st)) * (W.pr (W.lo st)))), some (.int ((z_fine W.rt ((z_A W).1.1.1) (W.up st)) * (W.pr (W.up st))))]) (st2 := []) (σ2 := t1) (fun f => rfl) (by decide) ?_
  refine pi_rt 3 (v := some (.int ((z_fine W.rt ((z_A W).1.1.1) (W.up st)) * (W.pr (W.up st))))) (σ' := t1) (fun f => rfl) ?_
  exact ⟨rfl, gt1, pi_fr_t2 rt1 (pi_fr_rf)⟩
set_option maxRecDepth 20000 in
theorem pi_M_bribeOf2 {xs : Nat → Int32} {L d : Nat} {W : zW} {σ : pi_S} (hm : z_MR W σ) {st : Nat} (hs : st < W.ns)  : pi_wp xs L (d + 6) 148 0 [some (.ref 56), some (.int (nI st)), some (.int (nI 2)), none, none, none] [] σ (fun v s => v = some (.int (z_br W st)) ∧ z_MT W s ∧ pi_fr z_RC s σ) := by
  have hk := hm.wk
  have hnd8 := hk.wd.nd8
  have hns12 := hk.wd.ns12
  have hn60 := hk.nine
  have hnf := hk.nf
  have hnw := hk.nw
  have hnc := hk.nc
  have hn08 := hk.wd.n0
  have hn140 := hk.wd.n1
  have hul := hk.wd.us st hs
  refine pi_ca 2 (m' := 132) (l' := [some (.ref 56)]) (σ' := σ) (pc2 := 4) (l2 := [some (.ref 56), some (.int (nI st)), some (.int (nI 2)), none, none, none]) (t := []) (fun f => rfl) (pi_M_runsAll hm ) ?_
  rintro _ t1 ⟨rfl, gt1, et1_4, et1_5, et1_25, et1_26, rt1⟩
  refine pi_ai 5 (u := st) (n := 12) (g := t1 60) (pc' := 11) (l' := [some (.ref 56), some (.int (nI st)), some (.int (nI 2)), none, none, none]) (t := [.ref 56]) (σ' := t1) (fun f => rfl) (by omega) (by omega) ?_
  refine pi_tp (y := nI (W.up st)) ((gt1.st st (by omega)).1) ?_
  refine pi_ca 1 (m' := 135) (l' := [some (.ref 56), some (.int (nI (W.up st))), none, none]) (σ' := t1) (pc2 := 14) (l2 := [some (.ref 56), some (.int (nI st)), some (.int (nI 2)), none, none, none]) (t := []) (fun f => rfl) (pi_m_fine (by omega)) ?_
  rintro _ _ ⟨rfl, rfl⟩
  refine pi_tp (y := z_fine W.rt ((z_A W).1.1.1) (W.up st)) (z_fine_c (gt1.mr.rt) (et1_4) _) ?_
  refine pi_ai 8 (u := st) (n := 12) (g := t1 61) (pc' := 26) (l' := [some (.ref 56), some (.int (nI st)), some (.int (nI 2)), some (.int (z_fine W.rt ((z_A W).1.1.1) (W.up st))), none, none]) (t := [.ref 64, .int (z_fine W.rt ((z_A W).1.1.1) (W.up st))]) (σ' := t1) (fun f => rfl) (by omega) (by omega) ?_
  refine pi_tp (y := nI (W.lo st)) ((gt1.st st (by omega)).2) ?_
  refine pi_ai 1 (u := W.lo st) (n := 8) (g := t1 64) (pc' := 27) (l' := [some (.ref 56), some (.int (nI st)), some (.int (nI 2)), some (.int (z_fine W.rt ((z_A W).1.1.1) (W.up st))), none, none]) (t := [.int (z_fine W.rt ((z_A W).1.1.1) (W.up st))]) (σ' := t1) (fun f => rfl) (by omega) (by omega) ?_
  refine pi_tp (y := W.pr (W.lo st)) (congrFun (gt1.mr.pr) (W.lo st)) ?_
  refine pi_ai 9 (u := st) (n := 12) (g := t1 60) (pc' := 41) (l' := [some (.ref 56), some (.int (nI st)), some (.int (nI 2)), some (.int (z_fine W.rt ((z_A W).1.1.1) (W.up st))), some (.int ((z_fine W.rt ((z_A W).1.1.1) (W.up st)) * (W.pr (W.lo st)))), none]) (t := [.ref 64, .int (z_fine W.rt ((z_A W).1.1.1) (W.up st))]) (σ' := t1) (fun f => rfl) (by omega) (by omega) ?_
  refine pi_tp (y := nI (W.up st)) ((gt1.st st (by omega)).1) ?_
  refine pi_ai 1 (u := W.up st) (n := 8) (g := t1 64) (pc' := 42) (l' := [some (.ref 56), some (.int (nI st)), some (.int (nI 2)), some (.int (z_fine W.rt ((z_A W).1.1.1) (W.up st))), some (.int ((z_fine W.rt ((z_A W).1.1.1) (W.up st)) * (W.pr (W.lo st)))), none]) (t := [.int (z_fine W.rt ((z_A W).1.1.1) (W.up st))]) (σ' := t1) (fun f => rfl) (by omega) (by omega) ?_
  refine pi_tp (y := W.pr (W.up st)) (congrFun (gt1.mr.pr) (W.up st)) ?_
  refine pi_cf 4 (c := nI 2 = 0) (pc' := 54) (l' := [some (.ref 56), some (.int (nI st)), some (.int (nI 2)), some (.int (z_fine W.rt ((z_A W).1.1.1) (W.up st))), some (.int ((z_fine W.rt ((z_A W).1.1.1) (W.up st)) * (W.pr (W.lo st)))), some (.int ((z_fine W.rt ((z_A W).1.1.1) (W.up st)) * (W.pr (W.up st))))]) (st' := []) (σ' := t1) (pc2 := 49) (l2 := [some (.ref 56), some (.int (nI st)), some (.int (nI 2)), some (.int (z_fine W.rt ((z_A W).1.1.1) (W.up st))), some (.int ((z_fine W.rt ((z_A W).1.1.1) (W.up st)) * (W.pr (W.lo st)))), some (.int ((z_fine W.rt ((z_A W).1.1.1) (W.up st)) * (W.pr (W.up st))))]) (st2 := []) (σ2 := t1) (fun f => rfl) (by decide) ?_
  refine pi_cf 3 (c := nI 2 = nI 1) (pc' := 64) (l' := [some (.ref 56), some (.int (nI st)), some (.int (nI 2)), some (.int (z_fine W.rt ((z_A W).1.1.1) (W.up st))), some (.int ((z_fine W.rt ((z_A W).1.1.1) (W.up st)) * (W.pr (W.lo st)))), some (.int ((z_fine W.rt ((z_A W).1.1.1) (W.up st)) * (W.pr (W.up st))))]) (st' := []) (σ' := t1) (pc2 := 59) (l2 := [some (.ref 56), some (.int (nI st)), some (.int (nI 2)), some (.int (z_fine W.rt ((z_A W).1.1.1) (W.up st))), some (.int ((z_fine W.rt ((z_A W).1.1.1) (W.up st)) * (W.pr (W.lo st)))), some (.int ((z_fine W.rt ((z_A W).1.1.1) (W.up st)) * (W.pr (W.up st))))]) (st2 := []) (σ2 := t1) (fun f => rfl) (by decide) ?_
  refine pi_if 3 (c := (z_fine W.rt ((z_A W).1.1.1) (W.up st)) * (W.pr (W.lo st)) ≤ (z_fine W.rt ((z_A W).1.1.1) (W.up st)) * (W.pr (W.up st))) (pc' := 79) (l' := [some (.ref 56), some (.int (nI st)), some (.int (nI 2)), some (.int (z_fine W.rt ((z_A W).1.1.1) (W.up st))), some (.int ((z_fine W.rt ((z_A W).1.1.1) (W.up st)) * (W.pr (W.lo st)))), some (.int ((z_fine W.rt ((z_A W).1.1.1) (W.up st)) * (W.pr (W.up st))))]) (st' := []) (σ' := t1) (pc2 := 71) (l2 := [some (.ref 56), some (.int (nI st)), some (.int (nI 2)), some (.int (z_fine W.rt ((z_A W).1.1.1) (W.up st))), some (.int ((z_fine W.rt ((z_A W).1.1.1) (W.up st)) * (W.pr (W.lo st)))), some (.int ((z_fine W.rt ((z_A W).1.1.1) (W.up st)) * (W.pr (W.up st))))]) (st2 := []) (σ2 := t1) (fun f => rfl) (fun h1 => ?_) (fun h1 => ?_)
  · refine pi_rt 2 (v := some (.int (nI 0))) (σ' := t1) (fun f => rfl) ?_
    exact ⟨congrArg (fun z => some (Value.int z)) (show _ = z_br W st from (if_neg (fun q => Int32.not_lt.mpr h1 q)).symm), gt1, pi_fr_t2 rt1 (pi_fr_rf)⟩
  · refine pi_rt 5 (v := some (.int (((z_fine W.rt ((z_A W).1.1.1) (W.up st)) * (W.pr (W.lo st))) - ((z_fine W.rt ((z_A W).1.1.1) (W.up st)) * (W.pr (W.up st)))))) (σ' := t1) (fun f => rfl) ?_
    exact ⟨congrArg (fun z => some (Value.int z)) (show _ = z_br W st from (if_pos (Int32.not_le.mp h1)).symm), gt1, pi_fr_t2 rt1 (pi_fr_rf)⟩
def z_rests (W : zW) (n : Nat) : Int32 := pi_lp (fun k b => b ||| (if z_br W k = 0 then nI 1 <<< (nI k &&& 31) else nI 0)) n (nI 0)
theorem z_rests_s (W : zW) (n : Nat) : z_rests W (n + 1) = z_rests W n ||| (if z_br W n = 0 then nI 1 <<< (nI n &&& 31) else nI 0) := rfl
set_option maxRecDepth 20000 in
theorem pi_M_restsNow {xs : Nat → Int32} {L d : Nat} {W : zW} {σ : pi_S} (hm : z_MR W σ)   : pi_wp xs L (d + 7) 150 0 [some (.ref 56), none, none] [] σ (fun v s => v = some (.int (z_rests W W.ns)) ∧ z_MT W s ∧ pi_fr z_RC s σ) := by
  have hk := hm.wk
  have hnd8 := hk.wd.nd8
  have hns12 := hk.wd.ns12
  have hn60 := hk.nine
  have hnf := hk.nf
  have hnw := hk.nw
  have hnc := hk.nc
  have hn08 := hk.wd.n0
  have hn140 := hk.wd.n1
  refine pi_ca 2 (m' := 111) (l' := [some (.ref 56), none]) (σ' := σ) (pc2 := 4) (l2 := [some (.ref 56), none, none]) (t := []) (fun f => rfl) (pi_M_reads hm ) ?_
  rintro _ t1 ⟨rfl, gt1, rt1⟩
  refine pi_go 4 (pc' := 8) (l' := [some (.ref 56), some (.int (nI 0)), some (.int (nI 0))]) (st' := []) (σ' := t1) (fun f => rfl) ?_
  suffices hl2 : ∀ i, i ≤ W.ns → ∀ (z2 : pi_S), pi_fr z_RC z2 σ → z_MT W z2 → pi_wp xs L (d + 7) 150 8 [some (.ref 56), some (.int (z_rests W i)), some (.int (nI i))] [] z2 (fun v s => v = some (.int (z_rests W W.ns)) ∧ z_MT W s ∧ pi_fr z_RC s σ) from hl2 0 (by omega) _ (pi_fr_t2 rt1 (pi_fr_rf)) (gt1)
  refine pi_lp0 ?_ ?_
  · intro z2 hrz2 hx2
    refine pi_go 3 (pc' := 13) (l' := [some (.ref 56), some (.int (z_rests W W.ns)), some (.int (nI W.ns))]) (st' := [.int (z2 56 4), .int (nI W.ns)]) (σ' := z2) (fun f => rfl) ?_
    refine pi_tp (y := nI W.ns) (hx2.d4) ?_
    refine pi_ct 1 (c := nI W.ns ≤ nI W.ns) (pc' := 41) (l' := [some (.ref 56), some (.int (z_rests W W.ns)), some (.int (nI W.ns))]) (st' := []) (σ' := z2) (pc2 := 16) (l2 := [some (.ref 56), some (.int (z_rests W W.ns)), some (.int (nI W.ns))]) (st2 := []) (σ2 := z2) (fun f => rfl) ((show nI W.ns ≤ nI W.ns ↔ _ from nI_leI (by omega) (by omega)).mpr (by omega)) ?_
    refine pi_rt 2 (v := some (.int (z_rests W W.ns))) (σ' := z2) (fun f => rfl) ?_
    exact ⟨rfl, hx2, pi_fr_t2 hrz2 (pi_fr_rf)⟩
  · intro i hi2 ih2 z2 hrz2 hx2
    refine pi_go 3 (pc' := 13) (l' := [some (.ref 56), some (.int (z_rests W i)), some (.int (nI i))]) (st' := [.int (z2 56 4), .int (nI i)]) (σ' := z2) (fun f => rfl) ?_
    refine pi_tp (y := nI W.ns) (hx2.d4) ?_
    refine pi_cf 1 (c := nI W.ns ≤ nI i) (pc' := 16) (l' := [some (.ref 56), some (.int (z_rests W i)), some (.int (nI i))]) (st' := []) (σ' := z2) (pc2 := 41) (l2 := [some (.ref 56), some (.int (z_rests W i)), some (.int (nI i))]) (st2 := []) (σ2 := z2) (fun f => rfl) (fun zq => absurd ((show nI W.ns ≤ nI i ↔ _ from nI_leI (by omega) (by omega)).mp zq) (by omega)) ?_
    refine pi_ca 5 (m' := 148) (l' := [some (.ref 56), some (.int (nI i)), some (.int (nI 2)), none, none, none]) (σ' := z2) (pc2 := 23) (l2 := [some (.ref 56), some (.int (z_rests W i)), some (.int (nI i))]) (t := [.int (z_rests W i)]) (fun f => rfl) (pi_M_bribeOf2 (st := i) hx2.mr (by omega)) ?_
    rintro _ t3 ⟨rfl, gt3, rt3⟩
    refine pi_if 1 (c := z_br W i = 0) (pc' := 26) (l' := [some (.ref 56), some (.int (z_rests W i)), some (.int (nI i))]) (st' := [.int (z_rests W i)]) (σ' := t3) (pc2 := 32) (l2 := [some (.ref 56), some (.int (z_rests W i)), some (.int (nI i))]) (st2 := [.int (z_rests W i)]) (σ2 := t3) (fun f => rfl) (fun h1 => ?_) (fun h1 => ?_)
    · refine pi_go 7 (pc' := 38) (l' := [some (.ref 56), some (.int ((z_rests W i) ||| ((nI 1) <<< (nI i &&& 31)))), some (.int (nI i + nI 1))]) (st' := []) (σ' := t3) (fun f => rfl) ?_
      rw [show nI i + nI 1 = nI (i + 1) from nI_add _ 1]
      refine pi_go 1 (pc' := 8) (l' := [some (.ref 56), some (.int ((z_rests W i) ||| ((nI 1) <<< (nI i &&& 31)))), some (.int (nI (i + 1)))]) (st' := []) (σ' := t3) (fun f => rfl) ?_
      rw [show some (Value.int ((z_rests W i) ||| ((nI 1) <<< (nI i &&& 31)))) = some (Value.int (z_rests W (i + 1))) from congrArg (fun z => some (Value.int z)) (by rw [z_rests_s, if_pos h1])]
      exact ih2 _ (pi_fr_t2 rt3 (pi_fr_t2 hrz2 (pi_fr_rf))) (gt3)
    · refine pi_go 4 (pc' := 38) (l' := [some (.ref 56), some (.int ((z_rests W i) ||| (nI 0))), some (.int (nI i + nI 1))]) (st' := []) (σ' := t3) (fun f => rfl) ?_
      rw [show nI i + nI 1 = nI (i + 1) from nI_add _ 1]
      refine pi_go 1 (pc' := 8) (l' := [some (.ref 56), some (.int ((z_rests W i) ||| (nI 0))), some (.int (nI (i + 1)))]) (st' := []) (σ' := t3) (fun f => rfl) ?_
      rw [show some (Value.int ((z_rests W i) ||| (nI 0))) = some (Value.int (z_rests W (i + 1))) from congrArg (fun z => some (Value.int z)) (by rw [z_rests_s, if_neg h1])]
      exact ih2 _ (pi_fr_t2 rt3 (pi_fr_t2 hrz2 (pi_fr_rf))) (gt3)
set_option maxRecDepth 20000 in
theorem pi_M_originOf {xs : Nat → Int32} {L d : Nat} {W : zW} {σ : pi_S} (hm : z_MR W σ) {dr kd : Nat} (hd : dr < 8) (hkd : kd < 5)  : pi_wp xs L (d + 6) 158 0 [some (.ref 56), some (.int (nI dr)), some (.int (nI kd))] [] σ (fun v s => v = some (.int ((z_A W).1.1.2 (5 * dr + kd))) ∧ z_MT W s ∧ pi_fr z_RC s σ) := by
  have hk := hm.wk
  have hnd8 := hk.wd.nd8
  have hns12 := hk.wd.ns12
  have hn60 := hk.nine
  have hnf := hk.nf
  have hnw := hk.nw
  have hnc := hk.nc
  have hn08 := hk.wd.n0
  have hn140 := hk.wd.n1
  refine pi_ca 2 (m' := 132) (l' := [some (.ref 56)]) (σ' := σ) (pc2 := 4) (l2 := [some (.ref 56), some (.int (nI dr)), some (.int (nI kd))]) (t := []) (fun f => rfl) (pi_M_runsAll hm ) ?_
  rintro _ t1 ⟨rfl, gt1, et1_4, et1_5, et1_25, et1_26, rt1⟩
  refine pi_go 5 (pc' := 11) (l' := [some (.ref 56), some (.int (nI dr)), some (.int (nI kd))]) (st' := [.int (nI 5 * nI dr), .ref 75]) (σ' := t1) (fun f => rfl) ?_
  refine pi_tp (y := nI (5 * dr)) (pk_mul _ _) ?_
  refine pi_go 2 (pc' := 13) (l' := [some (.ref 56), some (.int (nI dr)), some (.int (nI kd))]) (st' := [.int (nI (5 * dr) + nI kd), .ref 75]) (σ' := t1) (fun f => rfl) ?_
  refine pi_tp (y := nI (5 * dr + kd)) (nI_add _ _) ?_
  refine pi_ai 1 (u := 5 * dr + kd) (n := 40) (g := t1 75) (pc' := 14) (l' := [some (.ref 56), some (.int (nI dr)), some (.int (nI kd))]) (t := []) (σ' := t1) (fun f => rfl) (by omega) (by omega) ?_
  refine pi_tp (y := ((z_A W).1.1.2) (5 * dr + kd)) (congrFun (et1_5) (5 * dr + kd)) ?_
  refine pi_rt 1 (v := some (.int (((z_A W).1.1.2) (5 * dr + kd)))) (σ' := t1) (fun f => rfl) ?_
  exact ⟨rfl, gt1, pi_fr_t2 rt1 (pi_fr_rf)⟩
def z_wf (W : zW) (wet but : Int32) : Int32 := z_fines W.rt (z_R W wet but 0 (fun _ => 0) (W.nine + 1)).1.1.1 W.nd
def z_mean (W : zW) (x but : Int32) : Int32 := x * z_wf W (nI 1) but + (nI 16 - x) * z_wf W (nI 0) but
set_option maxRecDepth 20000 in
theorem pi_M_meanBy {xs : Nat → Int32} {L d : Nat} {W : zW} {σ : pi_S} (hm : z_MR W σ) (x but : Int32)  : pi_wp xs L (d + 6) 152 0 [some (.ref 56), some (.int x), some (.int but), none] [] σ (fun v s => v = some (.int (z_mean W x but)) ∧ z_MT W s ∧ pi_fr z_RC s σ) := by
  have hk := hm.wk
  have hnd8 := hk.wd.nd8
  have hns12 := hk.wd.ns12
  have hn60 := hk.nine
  have hnf := hk.nf
  have hnw := hk.nw
  have hnc := hk.nc
  have hn08 := hk.wd.n0
  have hn140 := hk.wd.n1
  refine pi_ca 2 (m' := 111) (l' := [some (.ref 56), none]) (σ' := σ) (pc2 := 4) (l2 := [some (.ref 56), some (.int x), some (.int but), none]) (t := []) (fun f => rfl) (pi_M_reads hm ) ?_
  rintro _ t1 ⟨rfl, gt1, rt1⟩
  refine pi_go 3 (pc' := 9) (l' := [some (.ref 56), some (.int x), some (.int but), none]) (st' := []) (σ' := (pi_up t1 56 26 (nI 0))) (fun f => rfl) ?_
  generalize es2 : pi_up t1 56 26 (nI 0) = s2
  refine pi_go 3 (pc' := 14) (l' := [some (.ref 56), some (.int x), some (.int but), none]) (st' := [.int (s2 56 10), .ref 56]) (σ' := s2) (fun f => rfl) ?_
  refine pi_tp (y := nI W.nine) ((congrFun (congrFun es2 56) 10).symm.trans ((pi_up_sn _ _ _ (by decide)).trans (gt1.mr.nine))) ?_
  refine pi_ca 3 (m' := 131) (l' := [some (.ref 56), some (.int (nI W.nine)), some (.int (nI 1)), some (.int but), none, none]) (σ' := s2) (pc2 := 19) (l2 := [some (.ref 56), some (.int x), some (.int but), none]) (t := []) (fun f => rfl) (pi_M_runs (rw_ := (fun _ => 0)) (z_MT.of0 gt1 (pi_fr_of es2 (by decide) (pi_fr_rf)) (pi_fs_up es2 (by decide) (pi_fs_rf))) ((congrFun (congrFun es2 56) 26).symm.trans (pi_up_ss _ _ _ _)) (by omega) (fun i hi => absurd hi (Nat.not_lt_zero i)) (by omega)) ?_
  rintro _ t3 ⟨rfl, gt3, et3_74, et3_75, et3_25, et3_28, kt3, qt3⟩
  have rt3 : pi_fr z_RC t3 s2 := pi_fr_tr qt3 (by decide) pi_fr_rf
  refine pi_ca 2 (m' := 136) (l' := [some (.ref 56), none, none]) (σ' := t3) (pc2 := 23) (l2 := [some (.ref 56), some (.int x), some (.int but), none]) (t := []) (fun f => rfl) (pi_m_fines (gt3.d2) (by omega)) ?_
  rintro _ _ ⟨rfl, rfl⟩
  refine pi_tp (y := z_fines W.rt ((z_R W (nI 1) but 0 (fun _ => 0) (W.nine + 1)).1.1.1) W.nd) (z_fines_c (gt3.mr.rt) (et3_74) _) ?_
  refine pi_go 4 (pc' := 29) (l' := [some (.ref 56), some (.int x), some (.int but), some (.int (z_fines W.rt ((z_R W (nI 1) but 0 (fun _ => 0) (W.nine + 1)).1.1.1) W.nd))]) (st' := [.int (t3 56 10), .ref 56]) (σ' := t3) (fun f => rfl) ?_
  refine pi_tp (y := nI W.nine) (gt3.mr.nine) ?_
  refine pi_ca 3 (m' := 131) (l' := [some (.ref 56), some (.int (nI W.nine)), some (.int (nI 0)), some (.int but), none, none]) (σ' := t3) (pc2 := 34) (l2 := [some (.ref 56), some (.int x), some (.int but), some (.int (z_fines W.rt ((z_R W (nI 1) but 0 (fun _ => 0) (W.nine + 1)).1.1.1) W.nd))]) (t := []) (fun f => rfl) (pi_M_runs (rw_ := (fun _ => 0)) gt3 ((kt3 26 (by decide)).trans ((congrFun (congrFun es2 56) 26).symm.trans (pi_up_ss _ _ _ _))) (by omega) (fun i hi => absurd hi (Nat.not_lt_zero i)) (by omega)) ?_
  rintro _ t4 ⟨rfl, gt4, et4_74, et4_75, et4_25, et4_28, kt4, qt4⟩
  have rt4 : pi_fr z_RC t4 t3 := pi_fr_tr qt4 (by decide) pi_fr_rf
  refine pi_ca 8 (m' := 136) (l' := [some (.ref 56), none, none]) (σ' := t4) (pc2 := 45) (l2 := [some (.ref 56), some (.int x), some (.int but), some (.int (z_fines W.rt ((z_R W (nI 1) but 0 (fun _ => 0) (W.nine + 1)).1.1.1) W.nd))]) (t := [.int ((nI 16) - x), .int (x * (z_fines W.rt ((z_R W (nI 1) but 0 (fun _ => 0) (W.nine + 1)).1.1.1) W.nd))]) (fun f => rfl) (pi_m_fines (gt4.d2) (by omega)) ?_
  rintro _ _ ⟨rfl, rfl⟩
  refine pi_tp (y := z_fines W.rt ((z_R W (nI 0) but 0 (fun _ => 0) (W.nine + 1)).1.1.1) W.nd) (z_fines_c (gt4.mr.rt) (et4_74) _) ?_
  refine pi_rt 3 (v := some (.int ((x * (z_fines W.rt ((z_R W (nI 1) but 0 (fun _ => 0) (W.nine + 1)).1.1.1) W.nd)) + (((nI 16) - x) * (z_fines W.rt ((z_R W (nI 0) but 0 (fun _ => 0) (W.nine + 1)).1.1.1) W.nd))))) (σ' := t4) (fun f => rfl) ?_
  exact ⟨rfl, gt4, pi_fr_t2 rt4 (pi_fr_t2 rt3 (pi_fr_of es2 (by decide) (pi_fr_t2 rt1 (pi_fr_rf))))⟩
def z_bst (f : Nat → Int32) (n : Nat) : Nat := pi_lp (fun d b => if d = 0 then 0 else if f b < f d then d else b) n 0
theorem z_bst_s (f : Nat → Int32) (n : Nat) : z_bst f (n + 1) = if n = 0 then 0 else if f (z_bst f n) < f n then n else z_bst f n := rfl
theorem z_bst_lt (f : Nat → Int32) : ∀ n, 0 < n → z_bst f n < n := by
  intro n
  induction n with
  | zero => intro h; omega
  | succ n ih =>
    intro _
    rw [z_bst_s]
    split
    · omega
    · split
      · omega
      · have := ih (by omega)
        omega
def z_bv (f : Nat → Int32) (n : Nat) : Int32 := if n = 0 then -1 else nI (z_bst f n)
theorem z_bv_z {f : Nat → Int32} {n : Nat} (h : n = 0) : z_bv f n = -1 := if_pos h
theorem z_bv_n {f : Nat → Int32} {n : Nat} (h : ¬ n = 0) : z_bv f n = nI (z_bst f n) := if_neg h
set_option maxRecDepth 20000 in
theorem pi_M_bestNow {xs : Nat → Int32} {L d : Nat} {W : zW} {σ : pi_S} (hm : z_MR W σ)   : pi_wp xs L (d + 6) 160 0 [some (.ref 56), none, none] [] σ (fun v s => v = some (.int (z_bv (z_fine W.rt (z_A W).1.1.1) W.nd)) ∧ z_MT W s ∧ pi_fr z_RC s σ) := by
  have hk := hm.wk
  have hnd8 := hk.wd.nd8
  have hns12 := hk.wd.ns12
  have hn60 := hk.nine
  have hnf := hk.nf
  have hnw := hk.nw
  have hnc := hk.nc
  have hn08 := hk.wd.n0
  have hn140 := hk.wd.n1
  refine pi_ca 2 (m' := 132) (l' := [some (.ref 56)]) (σ' := σ) (pc2 := 4) (l2 := [some (.ref 56), none, none]) (t := []) (fun f => rfl) (pi_M_runsAll hm ) ?_
  rintro _ t1 ⟨rfl, gt1, et1_4, et1_5, et1_25, et1_26, rt1⟩
  refine pi_go 4 (pc' := 8) (l' := [some (.ref 56), some (.int (-1)), some (.int (nI 0))]) (st' := []) (σ' := t1) (fun f => rfl) ?_
  rw [show some (Value.int (-1)) = some (Value.int (z_bv (z_fine W.rt (z_A W).1.1.1) 0)) from rfl]
  suffices hl2 : ∀ i, i ≤ W.nd → pi_wp xs L (d + 6) 160 8 [some (.ref 56), some (.int (z_bv (z_fine W.rt (z_A W).1.1.1) i)), some (.int (nI i))] [] t1 (fun v s => v = some (.int (z_bv (z_fine W.rt (z_A W).1.1.1) W.nd)) ∧ z_MT W s ∧ pi_fr z_RC s σ) from hl2 0 (by omega) 
  refine pi_lp0 ?_ ?_
  · refine pi_go 3 (pc' := 13) (l' := [some (.ref 56), some (.int (z_bv (z_fine W.rt (z_A W).1.1.1) W.nd)), some (.int (nI W.nd))]) (st' := [.int (t1 56 2), .int (nI W.nd)]) (σ' := t1) (fun f => rfl) ?_
    refine pi_tp (y := nI W.nd) (gt1.d2) ?_
    refine pi_ct 1 (c := nI W.nd ≤ nI W.nd) (pc' := 46) (l' := [some (.ref 56), some (.int (z_bv (z_fine W.rt (z_A W).1.1.1) W.nd)), some (.int (nI W.nd))]) (st' := []) (σ' := t1) (pc2 := 16) (l2 := [some (.ref 56), some (.int (z_bv (z_fine W.rt (z_A W).1.1.1) W.nd)), some (.int (nI W.nd))]) (st2 := []) (σ2 := t1) (fun f => rfl) ((show nI W.nd ≤ nI W.nd ↔ _ from nI_leI (by omega) (by omega)).mpr (by omega)) ?_
    refine pi_rt 2 (v := some (.int (z_bv (z_fine W.rt (z_A W).1.1.1) W.nd))) (σ' := t1) (fun f => rfl) ?_
    exact ⟨rfl, gt1, pi_fr_t2 rt1 (pi_fr_rf)⟩
  · intro i hi2 ih2
    by_cases hi0 : i = 0
    · rw [show some (Value.int (z_bv (z_fine W.rt (z_A W).1.1.1) i)) = some (Value.int (-1)) from congrArg (fun z => some (Value.int z)) (z_bv_z hi0)]
      refine pi_go 3 (pc' := 13) (l' := [some (.ref 56), some (.int (-1)), some (.int (nI i))]) (st' := [.int (t1 56 2), .int (nI i)]) (σ' := t1) (fun f => rfl) ?_
      refine pi_tp (y := nI W.nd) (gt1.d2) ?_
      refine pi_cf 1 (c := nI W.nd ≤ nI i) (pc' := 16) (l' := [some (.ref 56), some (.int (-1)), some (.int (nI i))]) (st' := []) (σ' := t1) (pc2 := 46) (l2 := [some (.ref 56), some (.int (-1)), some (.int (nI i))]) (st2 := []) (σ2 := t1) (fun f => rfl) (fun zq => absurd ((show nI W.nd ≤ nI i ↔ _ from nI_leI (by omega) (by omega)).mp zq) (by omega)) ?_
      refine pi_ct 3 (c := (-1) = (-1)) (pc' := 34) (l' := [some (.ref 56), some (.int (-1)), some (.int (nI i))]) (st' := []) (σ' := t1) (pc2 := 21) (l2 := [some (.ref 56), some (.int (-1)), some (.int (nI i))]) (st2 := []) (σ2 := t1) (fun f => rfl) (by decide) ?_
      refine pi_go 4 (pc' := 43) (l' := [some (.ref 56), some (.int (nI i)), some (.int (nI i + nI 1))]) (st' := []) (σ' := t1) (fun f => rfl) ?_
      rw [show nI i + nI 1 = nI (i + 1) from nI_add _ 1]
      refine pi_go 1 (pc' := 8) (l' := [some (.ref 56), some (.int (nI i)), some (.int (nI (i + 1)))]) (st' := []) (σ' := t1) (fun f => rfl) ?_
      rw [show some (Value.int (nI i)) = some (Value.int (z_bv (z_fine W.rt (z_A W).1.1.1) (i + 1))) from congrArg (fun z => some (Value.int z)) ((congrArg nI (by rw [z_bst_s, if_pos hi0]; exact hi0)).trans (z_bv_n (Nat.succ_ne_zero i)).symm)]
      exact ih2 
    · rw [show some (Value.int (z_bv (z_fine W.rt (z_A W).1.1.1) i)) = some (Value.int (nI (z_bst (z_fine W.rt (z_A W).1.1.1) i))) from congrArg (fun z => some (Value.int z)) (z_bv_n hi0)]
      have hbl := z_bst_lt (z_fine W.rt (z_A W).1.1.1) i (by omega)
      refine pi_go 3 (pc' := 13) (l' := [some (.ref 56), some (.int (nI (z_bst (z_fine W.rt (z_A W).1.1.1) i))), some (.int (nI i))]) (st' := [.int (t1 56 2), .int (nI i)]) (σ' := t1) (fun f => rfl) ?_
      refine pi_tp (y := nI W.nd) (gt1.d2) ?_
      refine pi_cf 1 (c := nI W.nd ≤ nI i) (pc' := 16) (l' := [some (.ref 56), some (.int (nI (z_bst (z_fine W.rt (z_A W).1.1.1) i))), some (.int (nI i))]) (st' := []) (σ' := t1) (pc2 := 46) (l2 := [some (.ref 56), some (.int (nI (z_bst (z_fine W.rt (z_A W).1.1.1) i))), some (.int (nI i))]) (st2 := []) (σ2 := t1) (fun f => rfl) (fun zq => absurd ((show nI W.nd ≤ nI i ↔ _ from nI_leI (by omega) (by omega)).mp zq) (by omega)) ?_
      refine pi_cf 3 (c := nI (z_bst (z_fine W.rt (z_A W).1.1.1) i) = (-1)) (pc' := 21) (l' := [some (.ref 56), some (.int (nI (z_bst (z_fine W.rt (z_A W).1.1.1) i))), some (.int (nI i))]) (st' := []) (σ' := t1) (pc2 := 34) (l2 := [some (.ref 56), some (.int (nI (z_bst (z_fine W.rt (z_A W).1.1.1) i))), some (.int (nI i))]) (st2 := []) (σ2 := t1) (fun f => rfl) (z_nIm _ (by omega)) ?_
      refine pi_ca 3 (m' := 135) (l' := [some (.ref 56), some (.int (nI i)), none, none]) (σ' := t1) (pc2 := 26) (l2 := [some (.ref 56), some (.int (nI (z_bst (z_fine W.rt (z_A W).1.1.1) i))), some (.int (nI i))]) (t := []) (fun f => rfl) (pi_m_fine (by omega)) ?_
      rintro _ _ ⟨rfl, rfl⟩
      refine pi_tp (y := z_fine W.rt ((z_A W).1.1.1) i) (z_fine_c (gt1.mr.rt) (et1_4) _) ?_
      refine pi_ca 3 (m' := 135) (l' := [some (.ref 56), some (.int (nI (z_bst (z_fine W.rt (z_A W).1.1.1) i))), none, none]) (σ' := t1) (pc2 := 31) (l2 := [some (.ref 56), some (.int (nI (z_bst (z_fine W.rt (z_A W).1.1.1) i))), some (.int (nI i))]) (t := [.int (z_fine W.rt ((z_A W).1.1.1) i)]) (fun f => rfl) (pi_m_fine (by omega)) ?_
      rintro _ _ ⟨rfl, rfl⟩
      refine pi_tp (y := z_fine W.rt ((z_A W).1.1.1) (z_bst (z_fine W.rt (z_A W).1.1.1) i)) (z_fine_c (gt1.mr.rt) (et1_4) _) ?_
      refine pi_if 1 (c := z_fine W.rt ((z_A W).1.1.1) i ≤ z_fine W.rt ((z_A W).1.1.1) (z_bst (z_fine W.rt (z_A W).1.1.1) i)) (pc' := 38) (l' := [some (.ref 56), some (.int (nI (z_bst (z_fine W.rt (z_A W).1.1.1) i))), some (.int (nI i))]) (st' := []) (σ' := t1) (pc2 := 34) (l2 := [some (.ref 56), some (.int (nI (z_bst (z_fine W.rt (z_A W).1.1.1) i))), some (.int (nI i))]) (st2 := []) (σ2 := t1) (fun f => rfl) (fun h1 => ?_) (fun h1 => ?_)
      · refine pi_go 3 (pc' := 43) (l' := [some (.ref 56), some (.int (nI (z_bst (z_fine W.rt (z_A W).1.1.1) i))), some (.int (nI i + nI 1))]) (st' := []) (σ' := t1) (fun f => rfl) ?_
        rw [show nI i + nI 1 = nI (i + 1) from nI_add _ 1]
        refine pi_go 1 (pc' := 8) (l' := [some (.ref 56), some (.int (nI (z_bst (z_fine W.rt (z_A W).1.1.1) i))), some (.int (nI (i + 1)))]) (st' := []) (σ' := t1) (fun f => rfl) ?_
        rw [show some (Value.int (nI (z_bst (z_fine W.rt (z_A W).1.1.1) i))) = some (Value.int (z_bv (z_fine W.rt (z_A W).1.1.1) (i + 1))) from congrArg (fun z => some (Value.int z)) ((congrArg nI (by rw [z_bst_s, if_neg hi0, if_neg (fun q => Int32.not_lt.mpr h1 q)])).trans (z_bv_n (Nat.succ_ne_zero i)).symm)]
        exact ih2 
      · refine pi_go 4 (pc' := 43) (l' := [some (.ref 56), some (.int (nI i)), some (.int (nI i + nI 1))]) (st' := []) (σ' := t1) (fun f => rfl) ?_
        rw [show nI i + nI 1 = nI (i + 1) from nI_add _ 1]
        refine pi_go 1 (pc' := 8) (l' := [some (.ref 56), some (.int (nI i)), some (.int (nI (i + 1)))]) (st' := []) (σ' := t1) (fun f => rfl) ?_
        rw [show some (Value.int (nI i)) = some (Value.int (z_bv (z_fine W.rt (z_A W).1.1.1) (i + 1))) from congrArg (fun z => some (Value.int z)) ((congrArg nI (by rw [z_bst_s, if_neg hi0, if_pos (Int32.not_le.mp h1)])).trans (z_bv_n (Nat.succ_ne_zero i)).symm)]
        exact ih2 
