theorem pi_fr_t2 {S : List Nat} {s s' σ : pi_S} (h1 : pi_fr S s' s) (h : pi_fr S s σ) : pi_fr S s' σ := fun c hc => (h1 c hc).trans (h c hc)
set_option maxRecDepth 20000 in
theorem pi_M_faultOf {xs : Nat → Int32} {L d : Nat} {W : zW} {σ : pi_S} (hm : z_MR W σ) (a : Int32)  : pi_wp xs L (d + 3) 110 0 [some (.ref 56), some (.int a), none, none] [] σ (fun v s => v = some (.int (if a = 0 then W.f0 else W.f1)) ∧ z_MT W s ∧ pi_fr z_RC s σ) := by
  have hk := hm.wk
  have hnd8 := hk.wd.nd8
  have hns12 := hk.wd.ns12
  have hn60 := hk.nine
  have hnf := hk.nf
  have hnw := hk.nw
  have hnc := hk.nc
  have hn08 := hk.wd.n0
  have hn140 := hk.wd.n1
  refine pi_ca 2 (m' := 108) (l' := [some (.ref 56), none]) (σ' := σ) (pc2 := 4) (l2 := [some (.ref 56), some (.int a), none, none]) (t := []) (fun f => rfl) (pi_m_rdoors (n0 := W.n0) (nd := W.nd) (f0 := W.f0) hm.n0 hk.wd.n0 (by rw [hm.tx]; exact hk.wd.dr)) ?_
  rintro _ t1 ⟨rfl, g2, gh, gs, gr⟩
  rw [hm.tx] at gh
  refine pi_ca 3 (m' := 109) (l' := [some (.ref 56), none, none, none, none]) (σ' := t1) (pc2 := 9) (l2 := [some (.ref 56), some (.int a), some (.int W.f0), none]) (t := []) (fun f => rfl) (pi_m_rstreets (n1 := W.n1) (nd := W.nd) (ns := W.ns) (f1 := W.f1) ((congrFun (gr 57 (by decide)) 1).trans hm.n1) hk.wd.n1 g2 hnd8 (by rw [(gr 58 (by decide)).trans hm.tx]; exact z_sr_c hk.wd.sr (fun k hk1 => (hk.wd.hh k).trans (gh k hk1).symm))) ?_
  rintro _ t2 ⟨rfl, k4, kst, ks, kr⟩
  rw [(gr 58 (by decide)).trans hm.tx] at kst
  refine pi_if 3 (c := a = 0) (pc' := 14) (l' := [some (.ref 56), some (.int a), some (.int W.f0), some (.int W.f1)]) (st' := []) (σ' := t2) (pc2 := 18) (l2 := [some (.ref 56), some (.int a), some (.int W.f0), some (.int W.f1)]) (st2 := []) (σ2 := t2) (fun f => rfl) (fun h1 => ?_) (fun h1 => ?_)
  · refine pi_rt 3 (v := some (.int W.f0)) (σ' := t2) (fun f => rfl) ?_
    have hfr : pi_fr [56, 59, 60, 61, 76] t2 σ := pi_fr_tr kr (by decide) (pi_fr_tr gr (by decide) pi_fr_rf)
    have hfs : pi_fs 56 [2, 4, 25, 26, 28] t2 σ := pi_fs_ca ks (by decide) (pi_fs_ca gs (by decide) pi_fs_rf)
    refine ⟨congrArg (fun z => some (Value.int z)) (if_pos h1).symm, z_MT.mk (hm.of0 hfr hfs) ((ks 2 (by decide)).trans g2) k4 (fun k hk1 => (congrFun (kr 59 (by decide)) k).trans ((gh k hk1).trans (hk.wd.hh k).symm)) (fun k hk1 => ⟨(kst k hk1).1.trans (hk.wd.us k hk1).1, (kst k hk1).2.trans (hk.wd.us k hk1).2.1⟩), pi_fr_tr hfr (by decide) pi_fr_rf⟩
  · refine pi_rt 2 (v := some (.int W.f1)) (σ' := t2) (fun f => rfl) ?_
    have hfr : pi_fr [56, 59, 60, 61, 76] t2 σ := pi_fr_tr kr (by decide) (pi_fr_tr gr (by decide) pi_fr_rf)
    have hfs : pi_fs 56 [2, 4, 25, 26, 28] t2 σ := pi_fs_ca ks (by decide) (pi_fs_ca gs (by decide) pi_fs_rf)
    refine ⟨congrArg (fun z => some (Value.int z)) (if_neg h1).symm, z_MT.mk (hm.of0 hfr hfs) ((ks 2 (by decide)).trans g2) k4 (fun k hk1 => (congrFun (kr 59 (by decide)) k).trans ((gh k hk1).trans (hk.wd.hh k).symm)) (fun k hk1 => ⟨(kst k hk1).1.trans (hk.wd.us k hk1).1, (kst k hk1).2.trans (hk.wd.us k hk1).2.1⟩), pi_fr_tr hfr (by decide) pi_fr_rf⟩
set_option maxRecDepth 20000 in
theorem pi_M_reads {xs : Nat → Int32} {L d : Nat} {W : zW} {σ : pi_S} (hm : z_MR W σ)  : pi_wp xs L (d + 4) 111 0 [some (.ref 56), none] [] σ (fun v s => v = none ∧ z_MT W s ∧ pi_fr z_RC s σ) := by
  have hk := hm.wk
  have hnd8 := hk.wd.nd8
  have hns12 := hk.wd.ns12
  have hn60 := hk.nine
  have hnf := hk.nf
  have hnw := hk.nw
  have hnc := hk.nc
  have hn08 := hk.wd.n0
  have hn140 := hk.wd.n1
  refine pi_ca 3 (m' := 110) (l' := [some (.ref 56), some (.int (nI 0)), none, none]) (σ' := σ) (pc2 := 5) (l2 := [some (.ref 56), none]) (t := []) (fun f => rfl) (pi_M_faultOf hm (nI 0)) ?_
  rintro _ t1 ⟨rfl, gt1, rt1⟩
  refine pi_tp (y := W.f0) (if_pos rfl) ?_
  refine pi_rt 2 (v := none) (σ' := t1) (fun f => rfl) ?_
  exact ⟨rfl, gt1, pi_fr_t2 rt1 (pi_fr_rf)⟩
theorem pi_M_runs {xs : Nat → Int32} {L d : Nat} {W : zW} {σ : pi_S} (ht : z_MT W σ) {wet but : Int32} {la rm : Nat} {rw_ : Nat → Nat} (h26 : σ 56 26 = nI rm) (hrm : rm ≤ 3) (hrw : ∀ i, i < rm → σ 76 i = nI (rw_ i) ∧ rw_ i < 12) (hla : la < 60) :
    pi_wp xs L (d + 2) 131 0 [some (.ref 56), some (.int (nI la)), some (.int wet), some (.int but), none, none] [] σ (fun v s => v = none ∧ z_MT W s ∧ s 74 = (z_R W wet but rm rw_ (la + 1)).1.1.1 ∧ s 75 = (z_R W wet but rm rw_ (la + 1)).1.1.2 ∧ s 56 25 = (z_R W wet but rm rw_ (la + 1)).1.2 ∧ s 56 28 = z_bI (z_R W wet but rm rw_ (la + 1)).2 ∧ pi_fs 56 [25, 28] s σ ∧ pi_fr [56, 74, 75] s σ) := by
  have hk := ht.mr.wk
  have hm := ht.mr
  refine pi_mo (fun v s => ?_) (pi_m_runs (σ := σ) (nd := W.nd) (ns := W.ns) (up := W.up) (lo := W.lo) (nf := W.nf) (fd := W.fd) (fk := W.fk) (nw := W.nw) (ws := W.ws) (nc := W.nc) (cd := W.cd) (nine := W.nine) (rm := rm) (rw_ := rw_) (la := la) (wet := wet) (but := but) ht.tw
    ⟨hm.nf, hm.nw, hm.nc, hm.nine, h26, hk.nf, hk.nw, hk.nc, hk.nine, hrm, fun i hi => ⟨(hm.fa i hi).2.1, (hm.fa i hi).2.2.1, (hk.fa i hi).1, (hk.fa i hi).2.1⟩, fun i hi => ⟨(hm.sw i hi).2, hk.sw i hi⟩, fun i hi => ⟨(hm.ca i hi).2, hk.ca i hi⟩, hrw⟩ hla hm.j4 hm.j5)
  rintro ⟨rfl, e4, e5, e25, e28, hs, hr⟩
  rw [z_runs_c (h := σ 59) (h' := W.hh) (fm' := W.fm) (fn' := W.fn) (sm' := W.sm) (cm' := W.cm) (la + 1) (fun k hk => ht.h k hk) (fun k hk => ⟨(hm.fa k hk).1, (hm.fa k hk).2.2.2⟩) (fun k hk => (hm.sw k hk).1) (fun k hk => (hm.ca k hk).1), hm.hd, hm.rn] at e4 e5 e25 e28
  have hz := z_R_tail hk wet but rm rw_ (la + 1)
  exact ⟨rfl, ht.of (pi_fr_tr hr (by decide) pi_fr_rf) (pi_fs_ca hs (by decide) pi_fs_rf) (fun k hk1 => (congrFun e4 k).trans (hz.1 k hk1)) (fun k hk1 => (congrFun e5 k).trans (hz.2 k hk1)), e4, e5, e25, e28, hs, hr⟩
set_option maxRecDepth 20000 in
theorem pi_M_runsAll {xs : Nat → Int32} {L d : Nat} {W : zW} {σ : pi_S} (hm : z_MR W σ)  : pi_wp xs L (d + 5) 132 0 [some (.ref 56)] [] σ (fun v s => v = none ∧ z_MT W s ∧ s 74 = (z_A W).1.1.1 ∧ s 75 = (z_A W).1.1.2 ∧ s 56 25 = (z_A W).1.2 ∧ s 56 26 = nI 0 ∧ pi_fr z_RC s σ) := by
  have hk := hm.wk
  have hnd8 := hk.wd.nd8
  have hns12 := hk.wd.ns12
  have hn60 := hk.nine
  have hnf := hk.nf
  have hnw := hk.nw
  have hnc := hk.nc
  have hn08 := hk.wd.n0
  have hn140 := hk.wd.n1
  refine pi_ca 2 (m' := 111) (l' := [some (.ref 56), none]) (σ' := σ) (pc2 := 4) (l2 := [some (.ref 56)]) (t := []) (fun f => rfl) (pi_M_reads hm ) ?_
  rintro _ t1 ⟨rfl, gt1, rt1⟩
  refine pi_go 3 (pc' := 9) (l' := [some (.ref 56)]) (st' := []) (σ' := (pi_up t1 56 26 (nI 0))) (fun f => rfl) ?_
  generalize es2 : pi_up t1 56 26 (nI 0) = s2
  refine pi_go 3 (pc' := 14) (l' := [some (.ref 56)]) (st' := [.int (s2 56 10), .ref 56]) (σ' := s2) (fun f => rfl) ?_
  refine pi_tp (y := nI W.nine) ((congrFun (congrFun es2 56) 10).symm.trans ((pi_up_sn _ _ _ (by decide)).trans (gt1.mr.nine))) ?_
  refine pi_ca 3 (m' := 131) (l' := [some (.ref 56), some (.int (nI W.nine)), some (.int (-1)), some (.int (-1)), none, none]) (σ' := s2) (pc2 := 19) (l2 := [some (.ref 56)]) (t := []) (fun f => rfl) (pi_M_runs (rw_ := (fun _ => 0)) (z_MT.of0 gt1 (pi_fr_of es2 (by decide) (pi_fr_rf)) (pi_fs_up es2 (by decide) (pi_fs_rf))) ((congrFun (congrFun es2 56) 26).symm.trans (pi_up_ss _ _ _ _)) (by omega) (fun i hi => absurd hi (Nat.not_lt_zero i)) (by omega)) ?_
  rintro _ t3 ⟨rfl, gt3, et3_74, et3_75, et3_25, et3_28, kt3, qt3⟩
  have rt3 : pi_fr z_RC t3 s2 := pi_fr_tr qt3 (by decide) pi_fr_rf
  refine pi_rt 1 (v := none) (σ' := t3) (fun f => rfl) ?_
  exact ⟨rfl, gt3, et3_74, et3_75, et3_25, (kt3 26 (by decide)).trans ((congrFun (congrFun es2 56) 26).symm.trans (pi_up_ss _ _ _ _)), pi_fr_t2 rt3 (pi_fr_of es2 (by decide) (pi_fr_t2 rt1 (pi_fr_rf)))⟩
