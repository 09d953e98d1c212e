set_option maxRecDepth 20000 in
theorem pi_C_hasDoor {xs : Nat → Int32} {L d : Nat} {σ : pi_S} {n : Nat} (h : σ 1 8 = nI n) (hn : n < 2 ^ 30) {a : Int32}  : pi_wp xs L (d + 1) 48 0 [some (.ref 1), some (.int a)] [] σ (fun v s => (z_B n a ∧ v = some (.int (nI 1)) ∧ σ = s) ∨ (¬ z_B n a ∧ v = some (.int (nI 0)) ∧ σ = s)) := by
  refine pi_go 3 (pc' := 5) (l' := [some (.ref 1), some (.int a)]) (st' := [.int (σ 1 8), .int a]) (σ' := σ) (fun f => rfl) ?_
  refine pi_tp (y := nI n) (h) ?_
  refine pi_ca 1 (m' := 94) (l' := [some (.int a), some (.int (nI n))]) (σ' := σ) (pc2 := 8) (l2 := [some (.ref 1), some (.int a)]) (t := []) (fun f => rfl) (pi_C_belowB (a := a) (n := n) (by omega)) ?_
  rintro _ _ (⟨b1, rfl, rfl⟩ | ⟨b1, rfl, rfl⟩)
  · refine pi_rb 1 (c := (nI 1) &&& 1 = nI 1) (v := some (.int (nI 1))) (σ' := σ) (fun f => rfl) (by decide) ?_
    exact Or.inl ⟨b1, rfl, rfl⟩
  · refine pi_rb 1 (c := (nI 0) &&& 1 = nI 0) (v := some (.int (nI 0))) (σ' := σ) (fun f => rfl) (by decide) ?_
    exact Or.inr ⟨b1, rfl, rfl⟩
theorem pi_C_hasDoorN {xs : Nat → Int32} {L d : Nat} {σ : pi_S} {n : Nat} (h : σ 1 8 = nI n) (hn : n < 2 ^ 30) {a : Nat} (ha : a < 2 ^ 30) : pi_wp xs L (d + 1) 48 0 [some (.ref 1), some (.int (nI a))] [] σ (fun v s => (a < n ∧ v = some (.int (nI 1)) ∧ σ = s) ∨ (¬ a < n ∧ v = some (.int (nI 0)) ∧ σ = s)) :=
  pi_mo (fun v s q => q.elim (fun q => Or.inl ⟨z_nB q.1 (by omega) (by omega), q.2⟩) (fun q => Or.inr ⟨fun z => q.1 ⟨_, z, rfl⟩, q.2⟩)) (pi_C_hasDoor h hn)
theorem pi_C_hasDoorT {xs : Nat → Int32} {L d : Nat} {σ : pi_S} {n : Nat} (h : σ 1 8 = nI n) (hn : n < 2 ^ 30) {a : Nat} (ha : a < n) : pi_wp xs L (d + 1) 48 0 [some (.ref 1), some (.int (nI a))] [] σ (fun v s => v = some (.int (nI 1)) ∧ σ = s) :=
  pi_mo (fun v s q => q.elim (fun q => q.2) (fun q => absurd ⟨_, ha, rfl⟩ q.1)) (pi_C_hasDoor h hn)
theorem pi_C_hasDoorM {xs : Nat → Int32} {L d : Nat} {σ : pi_S} {n : Nat} (h : σ 1 8 = nI n) (hn : n < 2 ^ 30) : pi_wp xs L (d + 1) 48 0 [some (.ref 1), some (.int (-1))] [] σ (fun v s => v = some (.int (nI 0)) ∧ σ = s) :=
  pi_mo (fun v s q => q.elim (fun q => absurd ((z_B_bl hn).mpr q.1).1 (by decide)) (fun q => q.2)) (pi_C_hasDoor h hn)
set_option maxRecDepth 20000 in
theorem pi_C_hasStreet {xs : Nat → Int32} {L d : Nat} {σ : pi_S} {n : Nat} (h : σ 1 9 = nI n) (hn : n < 2 ^ 30) {a : Int32}  : pi_wp xs L (d + 1) 49 0 [some (.ref 1), some (.int a)] [] σ (fun v s => (z_B n a ∧ v = some (.int (nI 1)) ∧ σ = s) ∨ (¬ z_B n a ∧ v = some (.int (nI 0)) ∧ σ = s)) := by
  refine pi_go 3 (pc' := 5) (l' := [some (.ref 1), some (.int a)]) (st' := [.int (σ 1 9), .int a]) (σ' := σ) (fun f => rfl) ?_
  refine pi_tp (y := nI n) (h) ?_
  refine pi_ca 1 (m' := 94) (l' := [some (.int a), some (.int (nI n))]) (σ' := σ) (pc2 := 8) (l2 := [some (.ref 1), some (.int a)]) (t := []) (fun f => rfl) (pi_C_belowB (a := a) (n := n) (by omega)) ?_
  rintro _ _ (⟨b1, rfl, rfl⟩ | ⟨b1, rfl, rfl⟩)
  · refine pi_rb 1 (c := (nI 1) &&& 1 = nI 1) (v := some (.int (nI 1))) (σ' := σ) (fun f => rfl) (by decide) ?_
    exact Or.inl ⟨b1, rfl, rfl⟩
  · refine pi_rb 1 (c := (nI 0) &&& 1 = nI 0) (v := some (.int (nI 0))) (σ' := σ) (fun f => rfl) (by decide) ?_
    exact Or.inr ⟨b1, rfl, rfl⟩
theorem pi_C_hasStreetN {xs : Nat → Int32} {L d : Nat} {σ : pi_S} {n : Nat} (h : σ 1 9 = nI n) (hn : n < 2 ^ 30) {a : Nat} (ha : a < 2 ^ 30) : pi_wp xs L (d + 1) 49 0 [some (.ref 1), some (.int (nI a))] [] σ (fun v s => (a < n ∧ v = some (.int (nI 1)) ∧ σ = s) ∨ (¬ a < n ∧ v = some (.int (nI 0)) ∧ σ = s)) :=
  pi_mo (fun v s q => q.elim (fun q => Or.inl ⟨z_nB q.1 (by omega) (by omega), q.2⟩) (fun q => Or.inr ⟨fun z => q.1 ⟨_, z, rfl⟩, q.2⟩)) (pi_C_hasStreet h hn)
theorem pi_C_hasStreetT {xs : Nat → Int32} {L d : Nat} {σ : pi_S} {n : Nat} (h : σ 1 9 = nI n) (hn : n < 2 ^ 30) {a : Nat} (ha : a < n) : pi_wp xs L (d + 1) 49 0 [some (.ref 1), some (.int (nI a))] [] σ (fun v s => v = some (.int (nI 1)) ∧ σ = s) :=
  pi_mo (fun v s q => q.elim (fun q => q.2) (fun q => absurd ⟨_, ha, rfl⟩ q.1)) (pi_C_hasStreet h hn)
theorem pi_C_hasStreetM {xs : Nat → Int32} {L d : Nat} {σ : pi_S} {n : Nat} (h : σ 1 9 = nI n) (hn : n < 2 ^ 30) : pi_wp xs L (d + 1) 49 0 [some (.ref 1), some (.int (-1))] [] σ (fun v s => v = some (.int (nI 0)) ∧ σ = s) :=
  pi_mo (fun v s q => q.elim (fun q => absurd ((z_B_bl hn).mpr q.1).1 (by decide)) (fun q => q.2)) (pi_C_hasStreet h hn)
def z_mo (W : zW) (mm : Int32) (md mk m : Nat) (a : zH) : zH := if mm = nI m then (if md < W.nd then z_fl (5 * md + mk) md (nI 1) a else a) else a
def z_wd1 (W : zW) (d : Nat) (s : zH) : zH := if z_fi W.up d W.ns W.ns = W.ns then s else z_gd d (W.lo (z_fi W.up d W.ns W.ns)) s
def z_wash (W : zW) (n : Nat) (s : zH) : zH := pi_lp (fun i s => z_wd1 W (z_dd W i) s) n s
theorem z_wash_s (W : zW) (n : Nat) (s : zH) : z_wash W (n + 1) s = z_wd1 W (z_dd W n) (z_wash W n s) := rfl
theorem z_fi_up (up : Nat → Nat) (d n : Nat) : ∀ i, i ≤ n → z_fi up d n i ≠ n → up (z_fi up d n i) = d := by
  intro i
  induction i with
  | zero => intro _ h; exact absurd rfl h
  | succ i ih =>
    intro hi h
    rw [z_fi_s] at h ⊢
    by_cases q : up (n - (i + 1)) = d
    · rw [if_pos q]; exact q
    · rw [if_neg q] at h ⊢
      exact ih (by omega) h
set_option maxRecDepth 20000 in
theorem pi_C_takeFalls_c {xs : Nat → Int32} {L d : Nat} {W : zW} {σ : pi_S} (hc : z_CK W σ) {m : Nat} (hm60 : m < 60) {mm : Int32} {md mk : Nat} (hmm : σ 33 8 = mm) (hmd : md < 8) (hmk : mk < 5) (hmo : ∀ m, m < 60 → nI m = mm → σ 33 9 = nI md ∧ σ 33 10 = nI mk)  : pi_wp xs L (d + 2) 9 0 [some (.ref 33), some (.int (nI m)), none, none] [] σ (fun v s => v = none ∧ s 35 = (z_mo W mm md mk m (z_falls (nI m) W.nd W.fm W.fd W.fk W.fn W.nf (σ 35, σ 36))).1 ∧ s 36 = (z_mo W mm md mk m (z_falls (nI m) W.nd W.fm W.fd W.fk W.fn W.nf (σ 35, σ 36))).2 ∧ pi_fr [35, 36] s σ) := by
  have hk := hc.p.wk
  have hnd8 := hk.wd.nd8
  have hns12 := hk.wd.ns12
  have hn60 := hk.nine
  have hnf := hk.nf
  have hnw := hk.nw
  have hnc := hk.nc
  have hn08 := hk.wd.n0
  have hn140 := hk.wd.n1
  refine pi_go 6 (pc' := 10) (l' := [some (.ref 33), some (.int (nI m)), some (.ref 17), some (.int (nI 0))]) (st' := []) (σ' := σ) (fun f => rfl) ?_
  suffices hl1 : ∀ k, k ≤ W.nf → ∀ (z1 : pi_S), z1 35 = (z_falls (nI m) W.nd W.fm W.fd W.fk W.fn k (σ 35, σ 36)).1 → z1 36 = (z_falls (nI m) W.nd W.fm W.fd W.fk W.fn k (σ 35, σ 36)).2 → pi_fr [35, 36] z1 σ → pi_wp xs L (d + 2) 9 10 [some (.ref 33), some (.int (nI m)), some (.ref 17), some (.int (nI k))] [] z1 (fun v s => v = none ∧ s 35 = (z_mo W mm md mk m (z_falls (nI m) W.nd W.fm W.fd W.fk W.fn W.nf (σ 35, σ 36))).1 ∧ s 36 = (z_mo W mm md mk m (z_falls (nI m) W.nd W.fm W.fd W.fk W.fn W.nf (σ 35, σ 36))).2 ∧ pi_fr [35, 36] s σ) from hl1 0 (by omega) _ (rfl) (rfl) (pi_fr_rf)
  refine pi_lp0 ?_ ?_
  · intro z1 fz1_35 fz1_36 hrz1
    refine pi_go 3 (pc' := 15) (l' := [some (.ref 33), some (.int (nI m)), some (.ref 17), some (.int (nI W.nf))]) (st' := [.int (z1 17 5), .int (nI W.nf)]) (σ' := z1) (fun f => rfl) ?_
    refine pi_tp (y := nI W.nf) ((congrFun (hrz1 17 (by decide)) 5).trans (hc.p.nf)) ?_
    refine pi_ct 1 (c := nI W.nf ≤ nI W.nf) (pc' := 75) (l' := [some (.ref 33), some (.int (nI m)), some (.ref 17), some (.int (nI W.nf))]) (st' := []) (σ' := z1) (pc2 := 18) (l2 := [some (.ref 33), some (.int (nI m)), some (.ref 17), some (.int (nI W.nf))]) (st2 := []) (σ2 := z1) (fun f => rfl) ((show nI W.nf ≤ nI W.nf ↔ _ from nI_leI (by omega) (by omega)).mpr (by omega)) ?_
    refine pi_go 2 (pc' := 79) (l' := [some (.ref 33), some (.int (nI m)), some (.ref 17), some (.int (nI W.nf))]) (st' := [.int (z1 33 8)]) (σ' := z1) (fun f => rfl) ?_
    refine pi_tp (y := mm) ((congrFun (hrz1 33 (by decide)) 8).trans (hmm)) ?_
    refine pi_if 2 (c := mm = nI m) (pc' := 83) (l' := [some (.ref 33), some (.int (nI m)), some (.ref 17), some (.int (nI W.nf))]) (st' := []) (σ' := z1) (pc2 := 113) (l2 := [some (.ref 33), some (.int (nI m)), some (.ref 17), some (.int (nI W.nf))]) (st2 := []) (σ2 := z1) (fun f => rfl) (fun h1 => ?_) (fun h1 => ?_)
    · obtain ⟨hm9, hm10⟩ := hmo m (by omega) h1.symm
      refine pi_go 4 (pc' := 91) (l' := [some (.ref 33), some (.int (nI m)), some (.ref 17), some (.int (nI W.nf))]) (st' := [.int (z1 33 9), .ref 1]) (σ' := z1) (fun f => rfl) ?_
      refine pi_tp (y := nI md) ((congrFun (hrz1 33 (by decide)) 9).trans hm9) ?_
      refine pi_ca 1 (m' := 48) (l' := [some (.ref 1), some (.int (nI md))]) (σ' := z1) (pc2 := 94) (l2 := [some (.ref 33), some (.int (nI m)), some (.ref 17), some (.int (nI W.nf))]) (t := []) (fun f => rfl) (pi_C_hasDoorN ((congrFun (hrz1 1 (by decide)) 8).trans (hc.t.d)) (by omega) (by omega)) ?_
      rintro _ _ (⟨b2, rfl, rfl⟩ | ⟨b2, rfl, rfl⟩)
      · refine pi_cf 1 (c := nI 1 = 0) (pc' := 97) (l' := [some (.ref 33), some (.int (nI m)), some (.ref 17), some (.int (nI W.nf))]) (st' := []) (σ' := z1) (pc2 := 113) (l2 := [some (.ref 33), some (.int (nI m)), some (.ref 17), some (.int (nI W.nf))]) (st2 := []) (σ2 := z1) (fun f => rfl) (by decide) ?_
        refine pi_go 4 (pc' := 105) (l' := [some (.ref 33), some (.int (nI m)), some (.ref 17), some (.int (nI W.nf))]) (st' := [.int (z1 33 9), .ref 34]) (σ' := z1) (fun f => rfl) ?_
        refine pi_tp (y := nI md) ((congrFun (hrz1 33 (by decide)) 9).trans hm9) ?_
        refine pi_go 2 (pc' := 109) (l' := [some (.ref 33), some (.int (nI m)), some (.ref 17), some (.int (nI W.nf))]) (st' := [.int (z1 33 10), .int (nI md), .ref 34]) (σ' := z1) (fun f => rfl) ?_
        refine pi_tp (y := nI mk) ((congrFun (hrz1 33 (by decide)) 10).trans hm10) ?_
        refine pi_ca 2 (m' := 20) (l' := [some (.ref 34), some (.int (nI md)), some (.int (nI mk)), some (.int (nI 1))]) (σ' := z1) (pc2 := 113) (l2 := [some (.ref 33), some (.int (nI m)), some (.ref 17), some (.int (nI W.nf))]) (t := []) (fun f => rfl) (pi_C_drop_c (by omega) (by omega)) ?_
        rintro _ t2 ⟨rfl, gt2_1, gt2_2, grt2⟩
        refine pi_rt 1 (v := none) (σ' := t2) (fun f => rfl) ?_
        exact ⟨rfl, (gt2_1.trans (congrArg (fun z => (z_fl (5 * md + mk) md (nI 1) z).1) (Prod.ext (fz1_35) (fz1_36)))).trans (by rw [z_mo, if_pos h1, if_pos b2]), (gt2_2.trans (congrArg (fun z => (z_fl (5 * md + mk) md (nI 1) z).2) (Prod.ext (fz1_35) (fz1_36)))).trans (by rw [z_mo, if_pos h1, if_pos b2]), pi_fr_tr grt2 (by decide) (pi_fr_tr hrz1 (by decide) (pi_fr_rf))⟩
      · refine pi_ct 1 (c := nI 0 = 0) (pc' := 113) (l' := [some (.ref 33), some (.int (nI m)), some (.ref 17), some (.int (nI W.nf))]) (st' := []) (σ' := z1) (pc2 := 97) (l2 := [some (.ref 33), some (.int (nI m)), some (.ref 17), some (.int (nI W.nf))]) (st2 := []) (σ2 := z1) (fun f => rfl) (by decide) ?_
        refine pi_rt 1 (v := none) (σ' := z1) (fun f => rfl) ?_
        exact ⟨rfl, (fz1_35).trans (by rw [z_mo, if_pos h1, if_neg b2]), (fz1_36).trans (by rw [z_mo, if_pos h1, if_neg b2]), pi_fr_tr hrz1 (by decide) (pi_fr_rf)⟩
    · refine pi_rt 1 (v := none) (σ' := z1) (fun f => rfl) ?_
      exact ⟨rfl, (fz1_35).trans (by rw [z_mo, if_neg h1]), (fz1_36).trans (by rw [z_mo, if_neg h1]), pi_fr_tr hrz1 (by decide) (pi_fr_rf)⟩
  · intro k hi1 ih1 z1 fz1_35 fz1_36 hrz1
    have hf0 := hk.fa k (by omega)
    refine pi_go 3 (pc' := 15) (l' := [some (.ref 33), some (.int (nI m)), some (.ref 17), some (.int (nI k))]) (st' := [.int (z1 17 5), .int (nI k)]) (σ' := z1) (fun f => rfl) ?_
    refine pi_tp (y := nI W.nf) ((congrFun (hrz1 17 (by decide)) 5).trans (hc.p.nf)) ?_
    refine pi_cf 1 (c := nI W.nf ≤ nI k) (pc' := 18) (l' := [some (.ref 33), some (.int (nI m)), some (.ref 17), some (.int (nI k))]) (st' := []) (σ' := z1) (pc2 := 75) (l2 := [some (.ref 33), some (.int (nI m)), some (.ref 17), some (.int (nI k))]) (st2 := []) (σ2 := z1) (fun f => rfl) (fun zq => absurd ((show nI W.nf ≤ nI k ↔ _ from nI_leI (by omega) (by omega)).mp zq) (by omega)) ?_
    refine pi_ai 4 (u := k) (n := 24) (g := z1 18) (pc' := 24) (l' := [some (.ref 33), some (.int (nI m)), some (.ref 17), some (.int (nI k))]) (t := []) (σ' := z1) (fun f => rfl) (by omega) (by omega) ?_
    refine pi_tp (y := W.fm k) ((congrFun (hrz1 18 (by decide)) k).trans ((hc.p.fa k (by omega)).1)) ?_
    refine pi_if 2 (c := W.fm k = nI m) (pc' := 28) (l' := [some (.ref 33), some (.int (nI m)), some (.ref 17), some (.int (nI k))]) (st' := []) (σ' := z1) (pc2 := 69) (l2 := [some (.ref 33), some (.int (nI m)), some (.ref 17), some (.int (nI k))]) (st2 := []) (σ2 := z1) (fun f => rfl) (fun h3 => ?_) (fun h3 => ?_)
    · refine pi_ai 6 (u := k) (n := 24) (g := z1 19) (pc' := 38) (l' := [some (.ref 33), some (.int (nI m)), some (.ref 17), some (.int (nI k))]) (t := [.ref 1]) (σ' := z1) (fun f => rfl) (by omega) (by omega) ?_
      refine pi_tp (y := nI (W.fd k)) ((congrFun (hrz1 19 (by decide)) k).trans ((hc.p.fa k (by omega)).2.1)) ?_
      refine pi_ca 1 (m' := 48) (l' := [some (.ref 1), some (.int (nI (W.fd k)))]) (σ' := z1) (pc2 := 41) (l2 := [some (.ref 33), some (.int (nI m)), some (.ref 17), some (.int (nI k))]) (t := []) (fun f => rfl) (pi_C_hasDoorN ((congrFun (hrz1 1 (by decide)) 8).trans (hc.t.d)) (by omega) (by omega)) ?_
      rintro _ _ (⟨b4, rfl, rfl⟩ | ⟨b4, rfl, rfl⟩)
      · refine pi_cf 1 (c := nI 1 = 0) (pc' := 44) (l' := [some (.ref 33), some (.int (nI m)), some (.ref 17), some (.int (nI k))]) (st' := []) (σ' := z1) (pc2 := 69) (l2 := [some (.ref 33), some (.int (nI m)), some (.ref 17), some (.int (nI k))]) (st2 := []) (σ2 := z1) (fun f => rfl) (by decide) ?_
        refine pi_ai 6 (u := k) (n := 24) (g := z1 19) (pc' := 54) (l' := [some (.ref 33), some (.int (nI m)), some (.ref 17), some (.int (nI k))]) (t := [.ref 34]) (σ' := z1) (fun f => rfl) (by omega) (by omega) ?_
        refine pi_tp (y := nI (W.fd k)) ((congrFun (hrz1 19 (by decide)) k).trans ((hc.p.fa k (by omega)).2.1)) ?_
        refine pi_ai 4 (u := k) (n := 24) (g := z1 20) (pc' := 60) (l' := [some (.ref 33), some (.int (nI m)), some (.ref 17), some (.int (nI k))]) (t := [.int (nI (W.fd k)), .ref 34]) (σ' := z1) (fun f => rfl) (by omega) (by omega) ?_
        refine pi_tp (y := nI (W.fk k)) ((congrFun (hrz1 20 (by decide)) k).trans ((hc.p.fa k (by omega)).2.2.1)) ?_
        refine pi_ai 4 (u := k) (n := 24) (g := z1 21) (pc' := 66) (l' := [some (.ref 33), some (.int (nI m)), some (.ref 17), some (.int (nI k))]) (t := [.int (nI (W.fk k)), .int (nI (W.fd k)), .ref 34]) (σ' := z1) (fun f => rfl) (by omega) (by omega) ?_
        refine pi_tp (y := W.fn k) ((congrFun (hrz1 21 (by decide)) k).trans ((hc.p.fa k (by omega)).2.2.2)) ?_
        refine pi_ca 1 (m' := 20) (l' := [some (.ref 34), some (.int (nI (W.fd k))), some (.int (nI (W.fk k))), some (.int (W.fn k))]) (σ' := z1) (pc2 := 69) (l2 := [some (.ref 33), some (.int (nI m)), some (.ref 17), some (.int (nI k))]) (t := []) (fun f => rfl) (pi_C_drop_c (by omega) (by omega)) ?_
        rintro _ t3 ⟨rfl, gt3_1, gt3_2, grt3⟩
        refine pi_go 1 (pc' := 72) (l' := [some (.ref 33), some (.int (nI m)), some (.ref 17), some (.int (nI k + nI 1))]) (st' := []) (σ' := t3) (fun f => rfl) ?_
        rw [show nI k + nI 1 = nI (k + 1) from nI_add _ 1]
        refine pi_go 1 (pc' := 10) (l' := [some (.ref 33), some (.int (nI m)), some (.ref 17), some (.int (nI (k + 1)))]) (st' := []) (σ' := t3) (fun f => rfl) ?_
        exact ih1 _ ((gt3_1.trans (congrArg (fun z => (z_fl (5 * (W.fd k) + W.fk k) (W.fd k) (W.fn k) z).1) (Prod.ext (fz1_35) (fz1_36)))).trans (by rw [z_falls_s, if_pos h3, if_pos b4])) ((gt3_2.trans (congrArg (fun z => (z_fl (5 * (W.fd k) + W.fk k) (W.fd k) (W.fn k) z).2) (Prod.ext (fz1_35) (fz1_36)))).trans (by rw [z_falls_s, if_pos h3, if_pos b4])) (pi_fr_tr grt3 (by decide) (pi_fr_tr hrz1 (by decide) (pi_fr_rf)))
      · refine pi_ct 1 (c := nI 0 = 0) (pc' := 69) (l' := [some (.ref 33), some (.int (nI m)), some (.ref 17), some (.int (nI k))]) (st' := []) (σ' := z1) (pc2 := 44) (l2 := [some (.ref 33), some (.int (nI m)), some (.ref 17), some (.int (nI k))]) (st2 := []) (σ2 := z1) (fun f => rfl) (by decide) ?_
        refine pi_go 1 (pc' := 72) (l' := [some (.ref 33), some (.int (nI m)), some (.ref 17), some (.int (nI k + nI 1))]) (st' := []) (σ' := z1) (fun f => rfl) ?_
        rw [show nI k + nI 1 = nI (k + 1) from nI_add _ 1]
        refine pi_go 1 (pc' := 10) (l' := [some (.ref 33), some (.int (nI m)), some (.ref 17), some (.int (nI (k + 1)))]) (st' := []) (σ' := z1) (fun f => rfl) ?_
        exact ih1 _ ((fz1_35).trans (by rw [z_falls_s, if_pos h3, if_neg b4])) ((fz1_36).trans (by rw [z_falls_s, if_pos h3, if_neg b4])) (pi_fr_tr hrz1 (by decide) (pi_fr_rf))
    · refine pi_go 1 (pc' := 72) (l' := [some (.ref 33), some (.int (nI m)), some (.ref 17), some (.int (nI k + nI 1))]) (st' := []) (σ' := z1) (fun f => rfl) ?_
      rw [show nI k + nI 1 = nI (k + 1) from nI_add _ 1]
      refine pi_go 1 (pc' := 10) (l' := [some (.ref 33), some (.int (nI m)), some (.ref 17), some (.int (nI (k + 1)))]) (st' := []) (σ' := z1) (fun f => rfl) ?_
      exact ih1 _ ((fz1_35).trans (by rw [z_falls_s, if_neg h3])) ((fz1_36).trans (by rw [z_falls_s, if_neg h3])) (pi_fr_tr hrz1 (by decide) (pi_fr_rf))
set_option maxRecDepth 20000 in
theorem pi_C_rainsIn_c {xs : Nat → Int32} {L d : Nat} {W : zW} {σ : pi_S} (hc : z_CK W σ) {m : Nat} (hm60 : m < 60) {r : Int32} (hr5 : σ 33 5 = r)  : pi_wp xs L (d + 1) 10 0 [some (.ref 33), some (.int (nI m))] [] σ (fun v s => (z_wet W.nine r W.rn m = nI 1 ∧ v = some (.int (nI 1)) ∧ σ = s) ∨ (¬ z_wet W.nine r W.rn m = nI 1 ∧ v = some (.int (nI 0)) ∧ σ = s)) := by
  have hk := hc.p.wk
  have hnd8 := hk.wd.nd8
  have hns12 := hk.wd.ns12
  have hn60 := hk.nine
  have hnf := hk.nf
  have hnw := hk.nw
  have hnc := hk.nc
  have hn08 := hk.wd.n0
  have hn140 := hk.wd.n1
  refine pi_go 4 (pc' := 8) (l' := [some (.ref 33), some (.int (nI m))]) (st' := [.int (σ 12 3), .int (nI m)]) (σ' := σ) (fun f => rfl) ?_
  refine pi_tp (y := nI W.nine) (hc.p.nine) ?_
  refine pi_if 1 (c := nI m = nI W.nine) (pc' := 11) (l' := [some (.ref 33), some (.int (nI m))]) (st' := []) (σ' := σ) (pc2 := 33) (l2 := [some (.ref 33), some (.int (nI m))]) (st2 := []) (σ2 := σ) (fun f => rfl) (fun h1 => ?_) (fun h1 => ?_)
  · replace h1 : m = W.nine := (nI_eq (by omega) (by omega)).mp h1
    refine pi_go 2 (pc' := 15) (l' := [some (.ref 33), some (.int (nI m))]) (st' := [.int (σ 33 5)]) (σ' := σ) (fun f => rfl) ?_
    refine pi_tp (y := r) (hr5) ?_
    refine pi_if 2 (c := r = (-1)) (pc' := 33) (l' := [some (.ref 33), some (.int (nI m))]) (st' := []) (σ' := σ) (pc2 := 19) (l2 := [some (.ref 33), some (.int (nI m))]) (st2 := []) (σ2 := σ) (fun f => rfl) (fun h2 => ?_) (fun h2 => ?_)
    · refine pi_ai 5 (u := m) (n := 60) (g := σ 32) (pc' := 42) (l' := [some (.ref 33), some (.int (nI m))]) (t := []) (σ' := σ) (fun f => rfl) (by omega) (by omega) ?_
      refine pi_tp (y := W.rn m) ((hc.p.rn m (by omega))) ?_
      refine pi_if 2 (c := W.rn m = nI 1) (pc' := 46) (l' := [some (.ref 33), some (.int (nI m))]) (st' := []) (σ' := σ) (pc2 := 50) (l2 := [some (.ref 33), some (.int (nI m))]) (st2 := []) (σ2 := σ) (fun f => rfl) (fun h3 => ?_) (fun h3 => ?_)
      · refine pi_rb 3 (c := (nI 1) &&& 1 = nI 1) (v := some (.int (nI 1))) (σ' := σ) (fun f => rfl) (by decide) ?_
        exact Or.inl ⟨(show z_wet W.nine r W.rn m = _ from by rw [z_wet, if_pos h1, if_pos h2]).trans h3, rfl, rfl⟩
      · refine pi_rb 2 (c := (nI 0) &&& 1 = nI 0) (v := some (.int (nI 0))) (σ' := σ) (fun f => rfl) (by decide) ?_
        exact Or.inr ⟨fun q => h3 (((show z_wet W.nine r W.rn m = _ from by rw [z_wet, if_pos h1, if_pos h2])).symm.trans q), rfl, rfl⟩
    · refine pi_go 2 (pc' := 23) (l' := [some (.ref 33), some (.int (nI m))]) (st' := [.int (σ 33 5)]) (σ' := σ) (fun f => rfl) ?_
      refine pi_tp (y := r) (hr5) ?_
      refine pi_if 2 (c := r = nI 1) (pc' := 27) (l' := [some (.ref 33), some (.int (nI m))]) (st' := []) (σ' := σ) (pc2 := 31) (l2 := [some (.ref 33), some (.int (nI m))]) (st2 := []) (σ2 := σ) (fun f => rfl) (fun h4 => ?_) (fun h4 => ?_)
      · refine pi_rb 3 (c := (nI 1) &&& 1 = nI 1) (v := some (.int (nI 1))) (σ' := σ) (fun f => rfl) (by decide) ?_
        exact Or.inl ⟨(show z_wet W.nine r W.rn m = _ from by rw [z_wet, if_pos h1, if_neg h2]).trans h4, rfl, rfl⟩
      · refine pi_rb 2 (c := (nI 0) &&& 1 = nI 0) (v := some (.int (nI 0))) (σ' := σ) (fun f => rfl) (by decide) ?_
        exact Or.inr ⟨fun q => h4 (((show z_wet W.nine r W.rn m = _ from by rw [z_wet, if_pos h1, if_neg h2])).symm.trans q), rfl, rfl⟩
  · replace h1 : ¬ (m = W.nine) := fun zq => h1 ((nI_eq (by omega) (by omega)).mpr zq)
    refine pi_ai 5 (u := m) (n := 60) (g := σ 32) (pc' := 42) (l' := [some (.ref 33), some (.int (nI m))]) (t := []) (σ' := σ) (fun f => rfl) (by omega) (by omega) ?_
    refine pi_tp (y := W.rn m) ((hc.p.rn m (by omega))) ?_
    refine pi_if 2 (c := W.rn m = nI 1) (pc' := 46) (l' := [some (.ref 33), some (.int (nI m))]) (st' := []) (σ' := σ) (pc2 := 50) (l2 := [some (.ref 33), some (.int (nI m))]) (st2 := []) (σ2 := σ) (fun f => rfl) (fun h5 => ?_) (fun h5 => ?_)
    · refine pi_rb 3 (c := (nI 1) &&& 1 = nI 1) (v := some (.int (nI 1))) (σ' := σ) (fun f => rfl) (by decide) ?_
      exact Or.inl ⟨(show z_wet W.nine r W.rn m = _ from by rw [z_wet, if_neg h1]).trans h5, rfl, rfl⟩
    · refine pi_rb 2 (c := (nI 0) &&& 1 = nI 0) (v := some (.int (nI 0))) (σ' := σ) (fun f => rfl) (by decide) ?_
      exact Or.inr ⟨fun q => h5 (((show z_wet W.nine r W.rn m = _ from by rw [z_wet, if_neg h1])).symm.trans q), rfl, rfl⟩
set_option maxRecDepth 20000 in
theorem pi_C_washDown_c {xs : Nat → Int32} {L d : Nat} {W : zW} {σ : pi_S} (hc : z_CK W σ)  : pi_wp xs L (d + 2) 11 0 [some (.ref 33), none, none, none] [] σ (fun v s => v = none ∧ s 35 = (z_wash W W.nd (σ 35, σ 36)).1 ∧ s 36 = (z_wash W W.nd (σ 35, σ 36)).2 ∧ pi_fr [35, 36] s σ) := by
  have hk := hc.p.wk
  have hnd8 := hk.wd.nd8
  have hns12 := hk.wd.ns12
  have hn60 := hk.nine
  have hnf := hk.nf
  have hnw := hk.nw
  have hnc := hk.nc
  have hn08 := hk.wd.n0
  have hn140 := hk.wd.n1
  refine pi_go 2 (pc' := 2) (l' := [some (.ref 33), some (.int (nI 0)), none, none]) (st' := []) (σ' := σ) (fun f => rfl) ?_
  suffices hl1 : ∀ i, i ≤ W.nd → ∀ (j2 j3 : Option Value), ∀ (z1 : pi_S), z1 35 = (z_wash W i (σ 35, σ 36)).1 → z1 36 = (z_wash W i (σ 35, σ 36)).2 → pi_fr [35, 36] z1 σ → pi_wp xs L (d + 2) 11 2 [some (.ref 33), some (.int (nI i)), j2, j3] [] z1 (fun v s => v = none ∧ s 35 = (z_wash W W.nd (σ 35, σ 36)).1 ∧ s 36 = (z_wash W W.nd (σ 35, σ 36)).2 ∧ pi_fr [35, 36] s σ) from hl1 0 (by omega) _ _ _ (rfl) (rfl) (pi_fr_rf)
  refine pi_lp0 ?_ ?_
  · intro j2 j3 z1 fz1_35 fz1_36 hrz1
    refine pi_go 4 (pc' := 10) (l' := [some (.ref 33), some (.int (nI W.nd)), j2, j3]) (st' := [.int (z1 1 8), .int (nI W.nd)]) (σ' := z1) (fun f => rfl) ?_
    refine pi_tp (y := nI W.nd) ((congrFun (hrz1 1 (by decide)) 8).trans (hc.t.d)) ?_
    refine pi_ct 1 (c := nI W.nd ≤ nI W.nd) (pc' := 67) (l' := [some (.ref 33), some (.int (nI W.nd)), j2, j3]) (st' := []) (σ' := z1) (pc2 := 13) (l2 := [some (.ref 33), some (.int (nI W.nd)), j2, j3]) (st2 := []) (σ2 := z1) (fun f => rfl) ((show nI W.nd ≤ nI W.nd ↔ _ from nI_leI (by omega) (by omega)).mpr (by omega)) ?_
    refine pi_rt 1 (v := none) (σ' := z1) (fun f => rfl) ?_
    exact ⟨rfl, fz1_35, fz1_36, pi_fr_tr hrz1 (by decide) (pi_fr_rf)⟩
  · intro i hi1 ih1 j2 j3 z1 fz1_35 fz1_36 hrz1
    have hdd := (hc.t.dd i (by omega)).2
    by_cases hfn : z_fi W.up (z_dd W i) W.ns W.ns = W.ns
    · refine pi_go 4 (pc' := 10) (l' := [some (.ref 33), some (.int (nI i)), j2, j3]) (st' := [.int (z1 1 8), .int (nI i)]) (σ' := z1) (fun f => rfl) ?_
      refine pi_tp (y := nI W.nd) ((congrFun (hrz1 1 (by decide)) 8).trans (hc.t.d)) ?_
      refine pi_cf 1 (c := nI W.nd ≤ nI i) (pc' := 13) (l' := [some (.ref 33), some (.int (nI i)), j2, j3]) (st' := []) (σ' := z1) (pc2 := 67) (l2 := [some (.ref 33), some (.int (nI i)), j2, j3]) (st2 := []) (σ2 := z1) (fun f => rfl) (fun zq => absurd ((show nI W.nd ≤ nI i ↔ _ from nI_leI (by omega) (by omega)).mp zq) (by omega)) ?_
      refine pi_ai 5 (u := i) (n := 8) (g := z1 9) (pc' := 22) (l' := [some (.ref 33), some (.int (nI i)), j2, j3]) (t := []) (σ' := z1) (fun f => rfl) (by omega) (by omega) ?_
      refine pi_tp (y := nI (z_dd W i)) ((congrFun (hrz1 9 (by decide)) i).trans ((hc.t.dd i (by omega)).1)) ?_
      refine pi_ai 6 (u := z_dd W i) (n := 8) (g := z1 11) (pc' := 32) (l' := [some (.ref 33), some (.int (nI i)), some (.int (nI (z_dd W i))), j3]) (t := []) (σ' := z1) (fun f => rfl) (by omega) (by omega) ?_
      refine pi_tp (y := (-1)) ((congrFun (hrz1 11 (by decide)) (z_dd W i)).trans ((hc.t.fs _ hdd).trans (if_pos hfn))) ?_
      refine pi_ca 5 (m' := 49) (l' := [some (.ref 1), some (.int (-1))]) (σ' := z1) (pc2 := 41) (l2 := [some (.ref 33), some (.int (nI i)), some (.int (nI (z_dd W i))), some (.int (-1))]) (t := []) (fun f => rfl) (pi_C_hasStreetM ((congrFun (hrz1 1 (by decide)) 9).trans (hc.t.st)) (by omega)) ?_
      rintro _ _ ⟨rfl, rfl⟩
      refine pi_ct 1 (c := nI 0 = 0) (pc' := 61) (l' := [some (.ref 33), some (.int (nI i)), some (.int (nI (z_dd W i))), some (.int (-1))]) (st' := []) (σ' := z1) (pc2 := 44) (l2 := [some (.ref 33), some (.int (nI i)), some (.int (nI (z_dd W i))), some (.int (-1))]) (st2 := []) (σ2 := z1) (fun f => rfl) (by decide) ?_
      refine pi_go 1 (pc' := 64) (l' := [some (.ref 33), some (.int (nI i + nI 1)), some (.int (nI (z_dd W i))), some (.int (-1))]) (st' := []) (σ' := z1) (fun f => rfl) ?_
      rw [show nI i + nI 1 = nI (i + 1) from nI_add _ 1]
      refine pi_go 1 (pc' := 2) (l' := [some (.ref 33), some (.int (nI (i + 1))), some (.int (nI (z_dd W i))), some (.int (-1))]) (st' := []) (σ' := z1) (fun f => rfl) ?_
      exact ih1 _ _ _ ((fz1_35).trans (by rw [z_wash_s, z_wd1, if_pos hfn])) ((fz1_36).trans (by rw [z_wash_s, z_wd1, if_pos hfn])) (pi_fr_tr hrz1 (by decide) (pi_fr_rf))
    · have hfl := z_fi_le W.up (z_dd W i) W.ns W.ns
      have hfl2 : z_fi W.up (z_dd W i) W.ns W.ns < W.ns := by omega
      have hus := hk.wd.us _ hfl2
      have hup := z_fi_up W.up (z_dd W i) W.ns W.ns (Nat.le_refl _) hfn
      refine pi_go 4 (pc' := 10) (l' := [some (.ref 33), some (.int (nI i)), j2, j3]) (st' := [.int (z1 1 8), .int (nI i)]) (σ' := z1) (fun f => rfl) ?_
      refine pi_tp (y := nI W.nd) ((congrFun (hrz1 1 (by decide)) 8).trans (hc.t.d)) ?_
      refine pi_cf 1 (c := nI W.nd ≤ nI i) (pc' := 13) (l' := [some (.ref 33), some (.int (nI i)), j2, j3]) (st' := []) (σ' := z1) (pc2 := 67) (l2 := [some (.ref 33), some (.int (nI i)), j2, j3]) (st2 := []) (σ2 := z1) (fun f => rfl) (fun zq => absurd ((show nI W.nd ≤ nI i ↔ _ from nI_leI (by omega) (by omega)).mp zq) (by omega)) ?_
      refine pi_ai 5 (u := i) (n := 8) (g := z1 9) (pc' := 22) (l' := [some (.ref 33), some (.int (nI i)), j2, j3]) (t := []) (σ' := z1) (fun f => rfl) (by omega) (by omega) ?_
      refine pi_tp (y := nI (z_dd W i)) ((congrFun (hrz1 9 (by decide)) i).trans ((hc.t.dd i (by omega)).1)) ?_
      refine pi_ai 6 (u := z_dd W i) (n := 8) (g := z1 11) (pc' := 32) (l' := [some (.ref 33), some (.int (nI i)), some (.int (nI (z_dd W i))), j3]) (t := []) (σ' := z1) (fun f => rfl) (by omega) (by omega) ?_
      refine pi_tp (y := nI (z_fi W.up (z_dd W i) W.ns W.ns)) ((congrFun (hrz1 11 (by decide)) (z_dd W i)).trans ((hc.t.fs _ hdd).trans (if_neg hfn))) ?_
      refine pi_ca 5 (m' := 49) (l' := [some (.ref 1), some (.int (nI (z_fi W.up (z_dd W i) W.ns W.ns)))]) (σ' := z1) (pc2 := 41) (l2 := [some (.ref 33), some (.int (nI i)), some (.int (nI (z_dd W i))), some (.int (nI (z_fi W.up (z_dd W i) W.ns W.ns)))]) (t := []) (fun f => rfl) (pi_C_hasStreetT ((congrFun (hrz1 1 (by decide)) 9).trans (hc.t.st)) (by omega) (by omega)) ?_
      rintro _ _ ⟨rfl, rfl⟩
      refine pi_cf 1 (c := nI 1 = 0) (pc' := 44) (l' := [some (.ref 33), some (.int (nI i)), some (.int (nI (z_dd W i))), some (.int (nI (z_fi W.up (z_dd W i) W.ns W.ns)))]) (st' := []) (σ' := z1) (pc2 := 61) (l2 := [some (.ref 33), some (.int (nI i)), some (.int (nI (z_dd W i))), some (.int (nI (z_fi W.up (z_dd W i) W.ns W.ns)))]) (st2 := []) (σ2 := z1) (fun f => rfl) (by decide) ?_
      refine pi_ai 8 (u := z_fi W.up (z_dd W i) W.ns W.ns) (n := 12) (g := z1 8) (pc' := 58) (l' := [some (.ref 33), some (.int (nI i)), some (.int (nI (z_dd W i))), some (.int (nI (z_fi W.up (z_dd W i) W.ns W.ns)))]) (t := [.int (nI (z_dd W i)), .ref 34]) (σ' := z1) (fun f => rfl) (by omega) (by omega) ?_
      refine pi_tp (y := nI (W.lo (z_fi W.up (z_dd W i) W.ns W.ns))) ((congrFun (hrz1 8 (by decide)) (z_fi W.up (z_dd W i) W.ns W.ns)).trans ((hc.t.ul (z_fi W.up (z_dd W i) W.ns W.ns) (by omega)).2)) ?_
      refine pi_ca 1 (m' := 21) (l' := [some (.ref 34), some (.int (nI (z_dd W i))), some (.int (nI (W.lo (z_fi W.up (z_dd W i) W.ns W.ns)))), none, none, none]) (σ' := z1) (pc2 := 61) (l2 := [some (.ref 33), some (.int (nI i)), some (.int (nI (z_dd W i))), some (.int (nI (z_fi W.up (z_dd W i) W.ns W.ns)))]) (t := []) (fun f => rfl) (pi_C_slide_c (by omega) (by omega) (fun q => absurd hus.2.2.2.2 (by rw [hup, ← q]; exact Int32.lt_irrefl))) ?_
      rintro _ t2 ⟨rfl, gt2_1, gt2_2, grt2⟩
      refine pi_go 1 (pc' := 64) (l' := [some (.ref 33), some (.int (nI i + nI 1)), some (.int (nI (z_dd W i))), some (.int (nI (z_fi W.up (z_dd W i) W.ns W.ns)))]) (st' := []) (σ' := t2) (fun f => rfl) ?_
      rw [show nI i + nI 1 = nI (i + 1) from nI_add _ 1]
      refine pi_go 1 (pc' := 2) (l' := [some (.ref 33), some (.int (nI (i + 1))), some (.int (nI (z_dd W i))), some (.int (nI (z_fi W.up (z_dd W i) W.ns W.ns)))]) (st' := []) (σ' := t2) (fun f => rfl) ?_
      exact ih1 _ _ _ ((gt2_1.trans (congrArg (fun z => (z_gd (z_dd W i) (W.lo (z_fi W.up (z_dd W i) W.ns W.ns)) z).1) (Prod.ext (fz1_35) (fz1_36)))).trans (by rw [z_wash_s, z_wd1, if_neg hfn])) ((gt2_2.trans (congrArg (fun z => (z_gd (z_dd W i) (W.lo (z_fi W.up (z_dd W i) W.ns W.ns)) z).2) (Prod.ext (fz1_35) (fz1_36)))).trans (by rw [z_wash_s, z_wd1, if_neg hfn])) (pi_fr_tr grt2 (by decide) (pi_fr_tr hrz1 (by decide) (pi_fr_rf)))
set_option maxRecDepth 20000 in
theorem pi_C_sweepsDown_c {xs : Nat → Int32} {L d : Nat} {W : zW} {σ : pi_S} (hc : z_CK W σ) {st : Nat} (hs : st < 12)  : pi_wp xs L (d + 2) 13 0 [some (.ref 33), some (.int (nI st)), none, none] [] σ (fun v s => (z_may W.ns W.up W.lo W.hd (σ 35) st = true ∧ v = some (.int (nI 1)) ∧ s 35 = (z_gd (W.up st) (W.lo st) (σ 35, σ 36)).1 ∧ s 36 = (z_gd (W.up st) (W.lo st) (σ 35, σ 36)).2 ∧ pi_fr [35, 36] s σ) ∨ (z_may W.ns W.up W.lo W.hd (σ 35) st = false ∧ v = some (.int (nI 0)) ∧ σ = s)) := by
  have hk := hc.p.wk
  have hnd8 := hk.wd.nd8
  have hns12 := hk.wd.ns12
  have hn60 := hk.nine
  have hnf := hk.nf
  have hnw := hk.nw
  have hnc := hk.nc
  have hn08 := hk.wd.n0
  have hn140 := hk.wd.n1
  refine pi_ca 4 (m' := 49) (l' := [some (.ref 1), some (.int (nI st))]) (σ' := σ) (pc2 := 8) (l2 := [some (.ref 33), some (.int (nI st)), none, none]) (t := []) (fun f => rfl) (pi_C_hasStreetN (hc.t.st) (by omega) (by omega)) ?_
  rintro _ _ (⟨b1, rfl, rfl⟩ | ⟨b1, rfl, rfl⟩)
  · refine pi_cf 1 (c := nI 1 = 0) (pc' := 13) (l' := [some (.ref 33), some (.int (nI st)), none, none]) (st' := []) (σ' := σ) (pc2 := 11) (l2 := [some (.ref 33), some (.int (nI st)), none, none]) (st2 := []) (σ2 := σ) (fun f => rfl) (by decide) ?_
    have hus := hk.wd.us st b1
    refine pi_ai 5 (u := st) (n := 12) (g := σ 7) (pc' := 22) (l' := [some (.ref 33), some (.int (nI st)), none, none]) (t := []) (σ' := σ) (fun f => rfl) (by omega) (by omega) ?_
    refine pi_tp (y := nI (W.up st)) ((hc.t.ul st (by omega)).1) ?_
    refine pi_ai 6 (u := st) (n := 12) (g := σ 8) (pc' := 32) (l' := [some (.ref 33), some (.int (nI st)), some (.int (nI (W.up st))), none]) (t := []) (σ' := σ) (fun f => rfl) (by omega) (by omega) ?_
    refine pi_tp (y := nI (W.lo st)) ((hc.t.ul st (by omega)).2) ?_
    refine pi_ca 5 (m' := 23) (l' := [some (.ref 34), some (.int (nI (W.up st))), none, none]) (σ' := σ) (pc2 := 41) (l2 := [some (.ref 33), some (.int (nI st)), some (.int (nI (W.up st))), some (.int (nI (W.lo st)))]) (t := []) (fun f => rfl) (pi_C_all_c (by omega)) ?_
    rintro _ _ ⟨rfl, rfl⟩
    refine pi_ca 4 (m' := 23) (l' := [some (.ref 34), some (.int (nI (W.lo st))), none, none]) (σ' := σ) (pc2 := 49) (l2 := [some (.ref 33), some (.int (nI st)), some (.int (nI (W.up st))), some (.int (nI (W.lo st)))]) (t := [.int (z_all (σ 35) (W.up st))]) (fun f => rfl) (pi_C_all_c (by omega)) ?_
    rintro _ _ ⟨rfl, rfl⟩
    refine pi_ai 6 (u := W.lo st) (n := 8) (g := σ 14) (pc' := 59) (l' := [some (.ref 33), some (.int (nI st)), some (.int (nI (W.up st))), some (.int (nI (W.lo st)))]) (t := [.int ((z_all (σ 35) (W.up st)) + (z_all (σ 35) (W.lo st)))]) (σ' := σ) (fun f => rfl) (by omega) (by omega) ?_
    refine pi_tp (y := W.hd (W.lo st)) ((hc.p.hd (W.lo st) (by omega))) ?_
    refine pi_if 1 (c := (z_all (σ 35) (W.up st)) + (z_all (σ 35) (W.lo st)) ≤ W.hd (W.lo st)) (pc' := 64) (l' := [some (.ref 33), some (.int (nI st)), some (.int (nI (W.up st))), some (.int (nI (W.lo st)))]) (st' := []) (σ' := σ) (pc2 := 62) (l2 := [some (.ref 33), some (.int (nI st)), some (.int (nI (W.up st))), some (.int (nI (W.lo st)))]) (st2 := []) (σ2 := σ) (fun f => rfl) (fun h2 => ?_) (fun h2 => ?_)
    · refine pi_ca 5 (m' := 21) (l' := [some (.ref 34), some (.int (nI (W.up st))), some (.int (nI (W.lo st))), none, none, none]) (σ' := σ) (pc2 := 73) (l2 := [some (.ref 33), some (.int (nI st)), some (.int (nI (W.up st))), some (.int (nI (W.lo st)))]) (t := []) (fun f => rfl) (pi_C_slide_c (by omega) (by omega) (fun q => absurd hus.2.2.2.2 (by rw [q]; exact Int32.lt_irrefl))) ?_
      rintro _ t1 ⟨rfl, gt1_1, gt1_2, grt1⟩
      refine pi_rb 2 (c := (nI 1) &&& 1 = nI 1) (v := some (.int (nI 1))) (σ' := t1) (fun f => rfl) (by decide) ?_
      exact Or.inl ⟨decide_eq_true ⟨b1, h2⟩, rfl, gt1_1, gt1_2, pi_fr_tr grt1 (by decide) (pi_fr_rf)⟩
    · refine pi_rb 2 (c := (nI 0) &&& 1 = nI 0) (v := some (.int (nI 0))) (σ' := σ) (fun f => rfl) (by decide) ?_
      exact Or.inr ⟨decide_eq_false (fun q => h2 q.2), rfl, rfl⟩
  · refine pi_ct 1 (c := nI 0 = 0) (pc' := 11) (l' := [some (.ref 33), some (.int (nI st)), none, none]) (st' := []) (σ' := σ) (pc2 := 13) (l2 := [some (.ref 33), some (.int (nI st)), none, none]) (st2 := []) (σ2 := σ) (fun f => rfl) (by decide) ?_
    refine pi_rb 2 (c := (nI 0) &&& 1 = nI 0) (v := some (.int (nI 0))) (σ' := σ) (fun f => rfl) (by decide) ?_
    exact Or.inr ⟨decide_eq_false (fun q => b1 q.1), rfl, rfl⟩
set_option maxRecDepth 20000 in
theorem pi_C_takeFalls_t {xs : Nat → Int32} {L d : Nat} {W : zW} {σ : pi_S} (hc : z_CK W σ) {m : Nat} (hm60 : m < 60) {mm : Int32} {md mk : Nat} (hmm : σ 37 8 = mm) (hmd : md < 8) (hmk : mk < 5) (hmo : ∀ m, m < 60 → nI m = mm → σ 37 9 = nI md ∧ σ 37 10 = nI mk)  : pi_wp xs L (d + 2) 9 0 [some (.ref 37), some (.int (nI m)), none, none] [] σ (fun v s => v = none ∧ s 39 = (z_mo W mm md mk m (z_falls (nI m) W.nd W.fm W.fd W.fk W.fn W.nf (σ 39, σ 40))).1 ∧ s 40 = (z_mo W mm md mk m (z_falls (nI m) W.nd W.fm W.fd W.fk W.fn W.nf (σ 39, σ 40))).2 ∧ pi_fr [39, 40] s σ) := by
  have hk := hc.p.wk
  have hnd8 := hk.wd.nd8
  have hns12 := hk.wd.ns12
  have hn60 := hk.nine
  have hnf := hk.nf
  have hnw := hk.nw
  have hnc := hk.nc
  have hn08 := hk.wd.n0
  have hn140 := hk.wd.n1
  refine pi_go 6 (pc' := 10) (l' := [some (.ref 37), some (.int (nI m)), some (.ref 17), some (.int (nI 0))]) (st' := []) (σ' := σ) (fun f => rfl) ?_
  suffices hl1 : ∀ k, k ≤ W.nf → ∀ (z1 : pi_S), z1 39 = (z_falls (nI m) W.nd W.fm W.fd W.fk W.fn k (σ 39, σ 40)).1 → z1 40 = (z_falls (nI m) W.nd W.fm W.fd W.fk W.fn k (σ 39, σ 40)).2 → pi_fr [39, 40] z1 σ → pi_wp xs L (d + 2) 9 10 [some (.ref 37), some (.int (nI m)), some (.ref 17), some (.int (nI k))] [] z1 (fun v s => v = none ∧ s 39 = (z_mo W mm md mk m (z_falls (nI m) W.nd W.fm W.fd W.fk W.fn W.nf (σ 39, σ 40))).1 ∧ s 40 = (z_mo W mm md mk m (z_falls (nI m) W.nd W.fm W.fd W.fk W.fn W.nf (σ 39, σ 40))).2 ∧ pi_fr [39, 40] s σ) from hl1 0 (by omega) _ (rfl) (rfl) (pi_fr_rf)
  refine pi_lp0 ?_ ?_
  · intro z1 fz1_39 fz1_40 hrz1
    refine pi_go 3 (pc' := 15) (l' := [some (.ref 37), some (.int (nI m)), some (.ref 17), some (.int (nI W.nf))]) (st' := [.int (z1 17 5), .int (nI W.nf)]) (σ' := z1) (fun f => rfl) ?_
    refine pi_tp (y := nI W.nf) ((congrFun (hrz1 17 (by decide)) 5).trans (hc.p.nf)) ?_
    refine pi_ct 1 (c := nI W.nf ≤ nI W.nf) (pc' := 75) (l' := [some (.ref 37), some (.int (nI m)), some (.ref 17), some (.int (nI W.nf))]) (st' := []) (σ' := z1) (pc2 := 18) (l2 := [some (.ref 37), some (.int (nI m)), some (.ref 17), some (.int (nI W.nf))]) (st2 := []) (σ2 := z1) (fun f => rfl) ((show nI W.nf ≤ nI W.nf ↔ _ from nI_leI (by omega) (by omega)).mpr (by omega)) ?_
    refine pi_go 2 (pc' := 79) (l' := [some (.ref 37), some (.int (nI m)), some (.ref 17), some (.int (nI W.nf))]) (st' := [.int (z1 37 8)]) (σ' := z1) (fun f => rfl) ?_
    refine pi_tp (y := mm) ((congrFun (hrz1 37 (by decide)) 8).trans (hmm)) ?_
    refine pi_if 2 (c := mm = nI m) (pc' := 83) (l' := [some (.ref 37), some (.int (nI m)), some (.ref 17), some (.int (nI W.nf))]) (st' := []) (σ' := z1) (pc2 := 113) (l2 := [some (.ref 37), some (.int (nI m)), some (.ref 17), some (.int (nI W.nf))]) (st2 := []) (σ2 := z1) (fun f => rfl) (fun h1 => ?_) (fun h1 => ?_)
    · obtain ⟨hm9, hm10⟩ := hmo m (by omega) h1.symm
      refine pi_go 4 (pc' := 91) (l' := [some (.ref 37), some (.int (nI m)), some (.ref 17), some (.int (nI W.nf))]) (st' := [.int (z1 37 9), .ref 1]) (σ' := z1) (fun f => rfl) ?_
      refine pi_tp (y := nI md) ((congrFun (hrz1 37 (by decide)) 9).trans hm9) ?_
      refine pi_ca 1 (m' := 48) (l' := [some (.ref 1), some (.int (nI md))]) (σ' := z1) (pc2 := 94) (l2 := [some (.ref 37), some (.int (nI m)), some (.ref 17), some (.int (nI W.nf))]) (t := []) (fun f => rfl) (pi_C_hasDoorN ((congrFun (hrz1 1 (by decide)) 8).trans (hc.t.d)) (by omega) (by omega)) ?_
      rintro _ _ (⟨b2, rfl, rfl⟩ | ⟨b2, rfl, rfl⟩)
      · refine pi_cf 1 (c := nI 1 = 0) (pc' := 97) (l' := [some (.ref 37), some (.int (nI m)), some (.ref 17), some (.int (nI W.nf))]) (st' := []) (σ' := z1) (pc2 := 113) (l2 := [some (.ref 37), some (.int (nI m)), some (.ref 17), some (.int (nI W.nf))]) (st2 := []) (σ2 := z1) (fun f => rfl) (by decide) ?_
        refine pi_go 4 (pc' := 105) (l' := [some (.ref 37), some (.int (nI m)), some (.ref 17), some (.int (nI W.nf))]) (st' := [.int (z1 37 9), .ref 38]) (σ' := z1) (fun f => rfl) ?_
        refine pi_tp (y := nI md) ((congrFun (hrz1 37 (by decide)) 9).trans hm9) ?_
        refine pi_go 2 (pc' := 109) (l' := [some (.ref 37), some (.int (nI m)), some (.ref 17), some (.int (nI W.nf))]) (st' := [.int (z1 37 10), .int (nI md), .ref 38]) (σ' := z1) (fun f => rfl) ?_
        refine pi_tp (y := nI mk) ((congrFun (hrz1 37 (by decide)) 10).trans hm10) ?_
        refine pi_ca 2 (m' := 20) (l' := [some (.ref 38), some (.int (nI md)), some (.int (nI mk)), some (.int (nI 1))]) (σ' := z1) (pc2 := 113) (l2 := [some (.ref 37), some (.int (nI m)), some (.ref 17), some (.int (nI W.nf))]) (t := []) (fun f => rfl) (pi_C_drop_t (by omega) (by omega)) ?_
        rintro _ t2 ⟨rfl, gt2_1, gt2_2, grt2⟩
        refine pi_rt 1 (v := none) (σ' := t2) (fun f => rfl) ?_
        exact ⟨rfl, (gt2_1.trans (congrArg (fun z => (z_fl (5 * md + mk) md (nI 1) z).1) (Prod.ext (fz1_39) (fz1_40)))).trans (by rw [z_mo, if_pos h1, if_pos b2]), (gt2_2.trans (congrArg (fun z => (z_fl (5 * md + mk) md (nI 1) z).2) (Prod.ext (fz1_39) (fz1_40)))).trans (by rw [z_mo, if_pos h1, if_pos b2]), pi_fr_tr grt2 (by decide) (pi_fr_tr hrz1 (by decide) (pi_fr_rf))⟩
      · refine pi_ct 1 (c := nI 0 = 0) (pc' := 113) (l' := [some (.ref 37), some (.int (nI m)), some (.ref 17), some (.int (nI W.nf))]) (st' := []) (σ' := z1) (pc2 := 97) (l2 := [some (.ref 37), some (.int (nI m)), some (.ref 17), some (.int (nI W.nf))]) (st2 := []) (σ2 := z1) (fun f => rfl) (by decide) ?_
        refine pi_rt 1 (v := none) (σ' := z1) (fun f => rfl) ?_
        exact ⟨rfl, (fz1_39).trans (by rw [z_mo, if_pos h1, if_neg b2]), (fz1_40).trans (by rw [z_mo, if_pos h1, if_neg b2]), pi_fr_tr hrz1 (by decide) (pi_fr_rf)⟩
    · refine pi_rt 1 (v := none) (σ' := z1) (fun f => rfl) ?_
      exact ⟨rfl, (fz1_39).trans (by rw [z_mo, if_neg h1]), (fz1_40).trans (by rw [z_mo, if_neg h1]), pi_fr_tr hrz1 (by decide) (pi_fr_rf)⟩
  · intro k hi1 ih1 z1 fz1_39 fz1_40 hrz1
    have hf0 := hk.fa k (by omega)
    refine pi_go 3 (pc' := 15) (l' := [some (.ref 37), some (.int (nI m)), some (.ref 17), some (.int (nI k))]) (st' := [.int (z1 17 5), .int (nI k)]) (σ' := z1) (fun f => rfl) ?_
    refine pi_tp (y := nI W.nf) ((congrFun (hrz1 17 (by decide)) 5).trans (hc.p.nf)) ?_
    refine pi_cf 1 (c := nI W.nf ≤ nI k) (pc' := 18) (l' := [some (.ref 37), some (.int (nI m)), some (.ref 17), some (.int (nI k))]) (st' := []) (σ' := z1) (pc2 := 75) (l2 := [some (.ref 37), some (.int (nI m)), some (.ref 17), some (.int (nI k))]) (st2 := []) (σ2 := z1) (fun f => rfl) (fun zq => absurd ((show nI W.nf ≤ nI k ↔ _ from nI_leI (by omega) (by omega)).mp zq) (by omega)) ?_
    refine pi_ai 4 (u := k) (n := 24) (g := z1 18) (pc' := 24) (l' := [some (.ref 37), some (.int (nI m)), some (.ref 17), some (.int (nI k))]) (t := []) (σ' := z1) (fun f => rfl) (by omega) (by omega) ?_
    refine pi_tp (y := W.fm k) ((congrFun (hrz1 18 (by decide)) k).trans ((hc.p.fa k (by omega)).1)) ?_
    refine pi_if 2 (c := W.fm k = nI m) (pc' := 28) (l' := [some (.ref 37), some (.int (nI m)), some (.ref 17), some (.int (nI k))]) (st' := []) (σ' := z1) (pc2 := 69) (l2 := [some (.ref 37), some (.int (nI m)), some (.ref 17), some (.int (nI k))]) (st2 := []) (σ2 := z1) (fun f => rfl) (fun h3 => ?_) (fun h3 => ?_)
    · refine pi_ai 6 (u := k) (n := 24) (g := z1 19) (pc' := 38) (l' := [some (.ref 37), some (.int (nI m)), some (.ref 17), some (.int (nI k))]) (t := [.ref 1]) (σ' := z1) (fun f => rfl) (by omega) (by omega) ?_
      refine pi_tp (y := nI (W.fd k)) ((congrFun (hrz1 19 (by decide)) k).trans ((hc.p.fa k (by omega)).2.1)) ?_
      refine pi_ca 1 (m' := 48) (l' := [some (.ref 1), some (.int (nI (W.fd k)))]) (σ' := z1) (pc2 := 41) (l2 := [some (.ref 37), some (.int (nI m)), some (.ref 17), some (.int (nI k))]) (t := []) (fun f => rfl) (pi_C_hasDoorN ((congrFun (hrz1 1 (by decide)) 8).trans (hc.t.d)) (by omega) (by omega)) ?_
      rintro _ _ (⟨b4, rfl, rfl⟩ | ⟨b4, rfl, rfl⟩)
      · refine pi_cf 1 (c := nI 1 = 0) (pc' := 44) (l' := [some (.ref 37), some (.int (nI m)), some (.ref 17), some (.int (nI k))]) (st' := []) (σ' := z1) (pc2 := 69) (l2 := [some (.ref 37), some (.int (nI m)), some (.ref 17), some (.int (nI k))]) (st2 := []) (σ2 := z1) (fun f => rfl) (by decide) ?_
        refine pi_ai 6 (u := k) (n := 24) (g := z1 19) (pc' := 54) (l' := [some (.ref 37), some (.int (nI m)), some (.ref 17), some (.int (nI k))]) (t := [.ref 38]) (σ' := z1) (fun f => rfl) (by omega) (by omega) ?_
        refine pi_tp (y := nI (W.fd k)) ((congrFun (hrz1 19 (by decide)) k).trans ((hc.p.fa k (by omega)).2.1)) ?_
        refine pi_ai 4 (u := k) (n := 24) (g := z1 20) (pc' := 60) (l' := [some (.ref 37), some (.int (nI m)), some (.ref 17), some (.int (nI k))]) (t := [.int (nI (W.fd k)), .ref 38]) (σ' := z1) (fun f => rfl) (by omega) (by omega) ?_
        refine pi_tp (y := nI (W.fk k)) ((congrFun (hrz1 20 (by decide)) k).trans ((hc.p.fa k (by omega)).2.2.1)) ?_
        refine pi_ai 4 (u := k) (n := 24) (g := z1 21) (pc' := 66) (l' := [some (.ref 37), some (.int (nI m)), some (.ref 17), some (.int (nI k))]) (t := [.int (nI (W.fk k)), .int (nI (W.fd k)), .ref 38]) (σ' := z1) (fun f => rfl) (by omega) (by omega) ?_
        refine pi_tp (y := W.fn k) ((congrFun (hrz1 21 (by decide)) k).trans ((hc.p.fa k (by omega)).2.2.2)) ?_
        refine pi_ca 1 (m' := 20) (l' := [some (.ref 38), some (.int (nI (W.fd k))), some (.int (nI (W.fk k))), some (.int (W.fn k))]) (σ' := z1) (pc2 := 69) (l2 := [some (.ref 37), some (.int (nI m)), some (.ref 17), some (.int (nI k))]) (t := []) (fun f => rfl) (pi_C_drop_t (by omega) (by omega)) ?_
        rintro _ t3 ⟨rfl, gt3_1, gt3_2, grt3⟩
        refine pi_go 1 (pc' := 72) (l' := [some (.ref 37), some (.int (nI m)), some (.ref 17), some (.int (nI k + nI 1))]) (st' := []) (σ' := t3) (fun f => rfl) ?_
        rw [show nI k + nI 1 = nI (k + 1) from nI_add _ 1]
        refine pi_go 1 (pc' := 10) (l' := [some (.ref 37), some (.int (nI m)), some (.ref 17), some (.int (nI (k + 1)))]) (st' := []) (σ' := t3) (fun f => rfl) ?_
        exact ih1 _ ((gt3_1.trans (congrArg (fun z => (z_fl (5 * (W.fd k) + W.fk k) (W.fd k) (W.fn k) z).1) (Prod.ext (fz1_39) (fz1_40)))).trans (by rw [z_falls_s, if_pos h3, if_pos b4])) ((gt3_2.trans (congrArg (fun z => (z_fl (5 * (W.fd k) + W.fk k) (W.fd k) (W.fn k) z).2) (Prod.ext (fz1_39) (fz1_40)))).trans (by rw [z_falls_s, if_pos h3, if_pos b4])) (pi_fr_tr grt3 (by decide) (pi_fr_tr hrz1 (by decide) (pi_fr_rf)))
      · refine pi_ct 1 (c := nI 0 = 0) (pc' := 69) (l' := [some (.ref 37), some (.int (nI m)), some (.ref 17), some (.int (nI k))]) (st' := []) (σ' := z1) (pc2 := 44) (l2 := [some (.ref 37), some (.int (nI m)), some (.ref 17), some (.int (nI k))]) (st2 := []) (σ2 := z1) (fun f => rfl) (by decide) ?_
        refine pi_go 1 (pc' := 72) (l' := [some (.ref 37), some (.int (nI m)), some (.ref 17), some (.int (nI k + nI 1))]) (st' := []) (σ' := z1) (fun f => rfl) ?_
        rw [show nI k + nI 1 = nI (k + 1) from nI_add _ 1]
        refine pi_go 1 (pc' := 10) (l' := [some (.ref 37), some (.int (nI m)), some (.ref 17), some (.int (nI (k + 1)))]) (st' := []) (σ' := z1) (fun f => rfl) ?_
        exact ih1 _ ((fz1_39).trans (by rw [z_falls_s, if_pos h3, if_neg b4])) ((fz1_40).trans (by rw [z_falls_s, if_pos h3, if_neg b4])) (pi_fr_tr hrz1 (by decide) (pi_fr_rf))
    · refine pi_go 1 (pc' := 72) (l' := [some (.ref 37), some (.int (nI m)), some (.ref 17), some (.int (nI k + nI 1))]) (st' := []) (σ' := z1) (fun f => rfl) ?_
      rw [show nI k + nI 1 = nI (k + 1) from nI_add _ 1]
      refine pi_go 1 (pc' := 10) (l' := [some (.ref 37), some (.int (nI m)), some (.ref 17), some (.int (nI (k + 1)))]) (st' := []) (σ' := z1) (fun f => rfl) ?_
      exact ih1 _ ((fz1_39).trans (by rw [z_falls_s, if_neg h3])) ((fz1_40).trans (by rw [z_falls_s, if_neg h3])) (pi_fr_tr hrz1 (by decide) (pi_fr_rf))
set_option maxRecDepth 20000 in
theorem pi_C_rainsIn_t {xs : Nat → Int32} {L d : Nat} {W : zW} {σ : pi_S} (hc : z_CK W σ) {m : Nat} (hm60 : m < 60) {r : Int32} (hr5 : σ 37 5 = r)  : pi_wp xs L (d + 1) 10 0 [some (.ref 37), some (.int (nI m))] [] σ (fun v s => (z_wet W.nine r W.rn m = nI 1 ∧ v = some (.int (nI 1)) ∧ σ = s) ∨ (¬ z_wet W.nine r W.rn m = nI 1 ∧ v = some (.int (nI 0)) ∧ σ = s)) := by
  have hk := hc.p.wk
  have hnd8 := hk.wd.nd8
  have hns12 := hk.wd.ns12
  have hn60 := hk.nine
  have hnf := hk.nf
  have hnw := hk.nw
  have hnc := hk.nc
  have hn08 := hk.wd.n0
  have hn140 := hk.wd.n1
  refine pi_go 4 (pc' := 8) (l' := [some (.ref 37), some (.int (nI m))]) (st' := [.int (σ 12 3), .int (nI m)]) (σ' := σ) (fun f => rfl) ?_
  refine pi_tp (y := nI W.nine) (hc.p.nine) ?_
  refine pi_if 1 (c := nI m = nI W.nine) (pc' := 11) (l' := [some (.ref 37), some (.int (nI m))]) (st' := []) (σ' := σ) (pc2 := 33) (l2 := [some (.ref 37), some (.int (nI m))]) (st2 := []) (σ2 := σ) (fun f => rfl) (fun h1 => ?_) (fun h1 => ?_)
  · replace h1 : m = W.nine := (nI_eq (by omega) (by omega)).mp h1
    refine pi_go 2 (pc' := 15) (l' := [some (.ref 37), some (.int (nI m))]) (st' := [.int (σ 37 5)]) (σ' := σ) (fun f => rfl) ?_
    refine pi_tp (y := r) (hr5) ?_
    refine pi_if 2 (c := r = (-1)) (pc' := 33) (l' := [some (.ref 37), some (.int (nI m))]) (st' := []) (σ' := σ) (pc2 := 19) (l2 := [some (.ref 37), some (.int (nI m))]) (st2 := []) (σ2 := σ) (fun f => rfl) (fun h2 => ?_) (fun h2 => ?_)
    · refine pi_ai 5 (u := m) (n := 60) (g := σ 32) (pc' := 42) (l' := [some (.ref 37), some (.int (nI m))]) (t := []) (σ' := σ) (fun f => rfl) (by omega) (by omega) ?_
      refine pi_tp (y := W.rn m) ((hc.p.rn m (by omega))) ?_
      refine pi_if 2 (c := W.rn m = nI 1) (pc' := 46) (l' := [some (.ref 37), some (.int (nI m))]) (st' := []) (σ' := σ) (pc2 := 50) (l2 := [some (.ref 37), some (.int (nI m))]) (st2 := []) (σ2 := σ) (fun f => rfl) (fun h3 => ?_) (fun h3 => ?_)
      · refine pi_rb 3 (c := (nI 1) &&& 1 = nI 1) (v := some (.int (nI 1))) (σ' := σ) (fun f => rfl) (by decide) ?_
        exact Or.inl ⟨(show z_wet W.nine r W.rn m = _ from by rw [z_wet, if_pos h1, if_pos h2]).trans h3, rfl, rfl⟩
      · refine pi_rb 2 (c := (nI 0) &&& 1 = nI 0) (v := some (.int (nI 0))) (σ' := σ) (fun f => rfl) (by decide) ?_
        exact Or.inr ⟨fun q => h3 (((show z_wet W.nine r W.rn m = _ from by rw [z_wet, if_pos h1, if_pos h2])).symm.trans q), rfl, rfl⟩
    · refine pi_go 2 (pc' := 23) (l' := [some (.ref 37), some (.int (nI m))]) (st' := [.int (σ 37 5)]) (σ' := σ) (fun f => rfl) ?_
      refine pi_tp (y := r) (hr5) ?_
      refine pi_if 2 (c := r = nI 1) (pc' := 27) (l' := [some (.ref 37), some (.int (nI m))]) (st' := []) (σ' := σ) (pc2 := 31) (l2 := [some (.ref 37), some (.int (nI m))]) (st2 := []) (σ2 := σ) (fun f => rfl) (fun h4 => ?_) (fun h4 => ?_)
      · refine pi_rb 3 (c := (nI 1) &&& 1 = nI 1) (v := some (.int (nI 1))) (σ' := σ) (fun f => rfl) (by decide) ?_
        exact Or.inl ⟨(show z_wet W.nine r W.rn m = _ from by rw [z_wet, if_pos h1, if_neg h2]).trans h4, rfl, rfl⟩
      · refine pi_rb 2 (c := (nI 0) &&& 1 = nI 0) (v := some (.int (nI 0))) (σ' := σ) (fun f => rfl) (by decide) ?_
        exact Or.inr ⟨fun q => h4 (((show z_wet W.nine r W.rn m = _ from by rw [z_wet, if_pos h1, if_neg h2])).symm.trans q), rfl, rfl⟩
  · replace h1 : ¬ (m = W.nine) := fun zq => h1 ((nI_eq (by omega) (by omega)).mpr zq)
    refine pi_ai 5 (u := m) (n := 60) (g := σ 32) (pc' := 42) (l' := [some (.ref 37), some (.int (nI m))]) (t := []) (σ' := σ) (fun f => rfl) (by omega) (by omega) ?_
    refine pi_tp (y := W.rn m) ((hc.p.rn m (by omega))) ?_
    refine pi_if 2 (c := W.rn m = nI 1) (pc' := 46) (l' := [some (.ref 37), some (.int (nI m))]) (st' := []) (σ' := σ) (pc2 := 50) (l2 := [some (.ref 37), some (.int (nI m))]) (st2 := []) (σ2 := σ) (fun f => rfl) (fun h5 => ?_) (fun h5 => ?_)
    · refine pi_rb 3 (c := (nI 1) &&& 1 = nI 1) (v := some (.int (nI 1))) (σ' := σ) (fun f => rfl) (by decide) ?_
      exact Or.inl ⟨(show z_wet W.nine r W.rn m = _ from by rw [z_wet, if_neg h1]).trans h5, rfl, rfl⟩
    · refine pi_rb 2 (c := (nI 0) &&& 1 = nI 0) (v := some (.int (nI 0))) (σ' := σ) (fun f => rfl) (by decide) ?_
      exact Or.inr ⟨fun q => h5 (((show z_wet W.nine r W.rn m = _ from by rw [z_wet, if_neg h1])).symm.trans q), rfl, rfl⟩
set_option maxRecDepth 20000 in
theorem pi_C_washDown_t {xs : Nat → Int32} {L d : Nat} {W : zW} {σ : pi_S} (hc : z_CK W σ)  : pi_wp xs L (d + 2) 11 0 [some (.ref 37), none, none, none] [] σ (fun v s => v = none ∧ s 39 = (z_wash W W.nd (σ 39, σ 40)).1 ∧ s 40 = (z_wash W W.nd (σ 39, σ 40)).2 ∧ pi_fr [39, 40] s σ) := by
  have hk := hc.p.wk
  have hnd8 := hk.wd.nd8
  have hns12 := hk.wd.ns12
  have hn60 := hk.nine
  have hnf := hk.nf
  have hnw := hk.nw
  have hnc := hk.nc
  have hn08 := hk.wd.n0
  have hn140 := hk.wd.n1
  refine pi_go 2 (pc' := 2) (l' := [some (.ref 37), some (.int (nI 0)), none, none]) (st' := []) (σ' := σ) (fun f => rfl) ?_
  suffices hl1 : ∀ i, i ≤ W.nd → ∀ (j2 j3 : Option Value), ∀ (z1 : pi_S), z1 39 = (z_wash W i (σ 39, σ 40)).1 → z1 40 = (z_wash W i (σ 39, σ 40)).2 → pi_fr [39, 40] z1 σ → pi_wp xs L (d + 2) 11 2 [some (.ref 37), some (.int (nI i)), j2, j3] [] z1 (fun v s => v = none ∧ s 39 = (z_wash W W.nd (σ 39, σ 40)).1 ∧ s 40 = (z_wash W W.nd (σ 39, σ 40)).2 ∧ pi_fr [39, 40] s σ) from hl1 0 (by omega) _ _ _ (rfl) (rfl) (pi_fr_rf)
  refine pi_lp0 ?_ ?_
  · intro j2 j3 z1 fz1_39 fz1_40 hrz1
    refine pi_go 4 (pc' := 10) (l' := [some (.ref 37), some (.int (nI W.nd)), j2, j3]) (st' := [.int (z1 1 8), .int (nI W.nd)]) (σ' := z1) (fun f => rfl) ?_
    refine pi_tp (y := nI W.nd) ((congrFun (hrz1 1 (by decide)) 8).trans (hc.t.d)) ?_
    refine pi_ct 1 (c := nI W.nd ≤ nI W.nd) (pc' := 67) (l' := [some (.ref 37), some (.int (nI W.nd)), j2, j3]) (st' := []) (σ' := z1) (pc2 := 13) (l2 := [some (.ref 37), some (.int (nI W.nd)), j2, j3]) (st2 := []) (σ2 := z1) (fun f => rfl) ((show nI W.nd ≤ nI W.nd ↔ _ from nI_leI (by omega) (by omega)).mpr (by omega)) ?_
    refine pi_rt 1 (v := none) (σ' := z1) (fun f => rfl) ?_
    exact ⟨rfl, fz1_39, fz1_40, pi_fr_tr hrz1 (by decide) (pi_fr_rf)⟩
  · intro i hi1 ih1 j2 j3 z1 fz1_39 fz1_40 hrz1
    have hdd := (hc.t.dd i (by omega)).2
    by_cases hfn : z_fi W.up (z_dd W i) W.ns W.ns = W.ns
    · refine pi_go 4 (pc' := 10) (l' := [some (.ref 37), some (.int (nI i)), j2, j3]) (st' := [.int (z1 1 8), .int (nI i)]) (σ' := z1) (fun f => rfl) ?_
      refine pi_tp (y := nI W.nd) ((congrFun (hrz1 1 (by decide)) 8).trans (hc.t.d)) ?_
      refine pi_cf 1 (c := nI W.nd ≤ nI i) (pc' := 13) (l' := [some (.ref 37), some (.int (nI i)), j2, j3]) (st' := []) (σ' := z1) (pc2 := 67) (l2 := [some (.ref 37), some (.int (nI i)), j2, j3]) (st2 := []) (σ2 := z1) (fun f => rfl) (fun zq => absurd ((show nI W.nd ≤ nI i ↔ _ from nI_leI (by omega) (by omega)).mp zq) (by omega)) ?_
      refine pi_ai 5 (u := i) (n := 8) (g := z1 9) (pc' := 22) (l' := [some (.ref 37), some (.int (nI i)), j2, j3]) (t := []) (σ' := z1) (fun f => rfl) (by omega) (by omega) ?_
      refine pi_tp (y := nI (z_dd W i)) ((congrFun (hrz1 9 (by decide)) i).trans ((hc.t.dd i (by omega)).1)) ?_
      refine pi_ai 6 (u := z_dd W i) (n := 8) (g := z1 11) (pc' := 32) (l' := [some (.ref 37), some (.int (nI i)), some (.int (nI (z_dd W i))), j3]) (t := []) (σ' := z1) (fun f => rfl) (by omega) (by omega) ?_
      refine pi_tp (y := (-1)) ((congrFun (hrz1 11 (by decide)) (z_dd W i)).trans ((hc.t.fs _ hdd).trans (if_pos hfn))) ?_
      refine pi_ca 5 (m' := 49) (l' := [some (.ref 1), some (.int (-1))]) (σ' := z1) (pc2 := 41) (l2 := [some (.ref 37), some (.int (nI i)), some (.int (nI (z_dd W i))), some (.int (-1))]) (t := []) (fun f => rfl) (pi_C_hasStreetM ((congrFun (hrz1 1 (by decide)) 9).trans (hc.t.st)) (by omega)) ?_
      rintro _ _ ⟨rfl, rfl⟩
      refine pi_ct 1 (c := nI 0 = 0) (pc' := 61) (l' := [some (.ref 37), some (.int (nI i)), some (.int (nI (z_dd W i))), some (.int (-1))]) (st' := []) (σ' := z1) (pc2 := 44) (l2 := [some (.ref 37), some (.int (nI i)), some (.int (nI (z_dd W i))), some (.int (-1))]) (st2 := []) (σ2 := z1) (fun f => rfl) (by decide) ?_
      refine pi_go 1 (pc' := 64) (l' := [some (.ref 37), some (.int (nI i + nI 1)), some (.int (nI (z_dd W i))), some (.int (-1))]) (st' := []) (σ' := z1) (fun f => rfl) ?_
      rw [show nI i + nI 1 = nI (i + 1) from nI_add _ 1]
      refine pi_go 1 (pc' := 2) (l' := [some (.ref 37), some (.int (nI (i + 1))), some (.int (nI (z_dd W i))), some (.int (-1))]) (st' := []) (σ' := z1) (fun f => rfl) ?_
      exact ih1 _ _ _ ((fz1_39).trans (by rw [z_wash_s, z_wd1, if_pos hfn])) ((fz1_40).trans (by rw [z_wash_s, z_wd1, if_pos hfn])) (pi_fr_tr hrz1 (by decide) (pi_fr_rf))
    · have hfl := z_fi_le W.up (z_dd W i) W.ns W.ns
      have hfl2 : z_fi W.up (z_dd W i) W.ns W.ns < W.ns := by omega
      have hus := hk.wd.us _ hfl2
      have hup := z_fi_up W.up (z_dd W i) W.ns W.ns (Nat.le_refl _) hfn
      refine pi_go 4 (pc' := 10) (l' := [some (.ref 37), some (.int (nI i)), j2, j3]) (st' := [.int (z1 1 8), .int (nI i)]) (σ' := z1) (fun f => rfl) ?_
      refine pi_tp (y := nI W.nd) ((congrFun (hrz1 1 (by decide)) 8).trans (hc.t.d)) ?_
      refine pi_cf 1 (c := nI W.nd ≤ nI i) (pc' := 13) (l' := [some (.ref 37), some (.int (nI i)), j2, j3]) (st' := []) (σ' := z1) (pc2 := 67) (l2 := [some (.ref 37), some (.int (nI i)), j2, j3]) (st2 := []) (σ2 := z1) (fun f => rfl) (fun zq => absurd ((show nI W.nd ≤ nI i ↔ _ from nI_leI (by omega) (by omega)).mp zq) (by omega)) ?_
      refine pi_ai 5 (u := i) (n := 8) (g := z1 9) (pc' := 22) (l' := [some (.ref 37), some (.int (nI i)), j2, j3]) (t := []) (σ' := z1) (fun f => rfl) (by omega) (by omega) ?_
      refine pi_tp (y := nI (z_dd W i)) ((congrFun (hrz1 9 (by decide)) i).trans ((hc.t.dd i (by omega)).1)) ?_
      refine pi_ai 6 (u := z_dd W i) (n := 8) (g := z1 11) (pc' := 32) (l' := [some (.ref 37), some (.int (nI i)), some (.int (nI (z_dd W i))), j3]) (t := []) (σ' := z1) (fun f => rfl) (by omega) (by omega) ?_
      refine pi_tp (y := nI (z_fi W.up (z_dd W i) W.ns W.ns)) ((congrFun (hrz1 11 (by decide)) (z_dd W i)).trans ((hc.t.fs _ hdd).trans (if_neg hfn))) ?_
      refine pi_ca 5 (m' := 49) (l' := [some (.ref 1), some (.int (nI (z_fi W.up (z_dd W i) W.ns W.ns)))]) (σ' := z1) (pc2 := 41) (l2 := [some (.ref 37), some (.int (nI i)), some (.int (nI (z_dd W i))), some (.int (nI (z_fi W.up (z_dd W i) W.ns W.ns)))]) (t := []) (fun f => rfl) (pi_C_hasStreetT ((congrFun (hrz1 1 (by decide)) 9).trans (hc.t.st)) (by omega) (by omega)) ?_
      rintro _ _ ⟨rfl, rfl⟩
      refine pi_cf 1 (c := nI 1 = 0) (pc' := 44) (l' := [some (.ref 37), some (.int (nI i)), some (.int (nI (z_dd W i))), some (.int (nI (z_fi W.up (z_dd W i) W.ns W.ns)))]) (st' := []) (σ' := z1) (pc2 := 61) (l2 := [some (.ref 37), some (.int (nI i)), some (.int (nI (z_dd W i))), some (.int (nI (z_fi W.up (z_dd W i) W.ns W.ns)))]) (st2 := []) (σ2 := z1) (fun f => rfl) (by decide) ?_
      refine pi_ai 8 (u := z_fi W.up (z_dd W i) W.ns W.ns) (n := 12) (g := z1 8) (pc' := 58) (l' := [some (.ref 37), some (.int (nI i)), some (.int (nI (z_dd W i))), some (.int (nI (z_fi W.up (z_dd W i) W.ns W.ns)))]) (t := [.int (nI (z_dd W i)), .ref 38]) (σ' := z1) (fun f => rfl) (by omega) (by omega) ?_
      refine pi_tp (y := nI (W.lo (z_fi W.up (z_dd W i) W.ns W.ns))) ((congrFun (hrz1 8 (by decide)) (z_fi W.up (z_dd W i) W.ns W.ns)).trans ((hc.t.ul (z_fi W.up (z_dd W i) W.ns W.ns) (by omega)).2)) ?_
      refine pi_ca 1 (m' := 21) (l' := [some (.ref 38), some (.int (nI (z_dd W i))), some (.int (nI (W.lo (z_fi W.up (z_dd W i) W.ns W.ns)))), none, none, none]) (σ' := z1) (pc2 := 61) (l2 := [some (.ref 37), some (.int (nI i)), some (.int (nI (z_dd W i))), some (.int (nI (z_fi W.up (z_dd W i) W.ns W.ns)))]) (t := []) (fun f => rfl) (pi_C_slide_t (by omega) (by omega) (fun q => absurd hus.2.2.2.2 (by rw [hup, ← q]; exact Int32.lt_irrefl))) ?_
      rintro _ t2 ⟨rfl, gt2_1, gt2_2, grt2⟩
      refine pi_go 1 (pc' := 64) (l' := [some (.ref 37), some (.int (nI i + nI 1)), some (.int (nI (z_dd W i))), some (.int (nI (z_fi W.up (z_dd W i) W.ns W.ns)))]) (st' := []) (σ' := t2) (fun f => rfl) ?_
      rw [show nI i + nI 1 = nI (i + 1) from nI_add _ 1]
      refine pi_go 1 (pc' := 2) (l' := [some (.ref 37), some (.int (nI (i + 1))), some (.int (nI (z_dd W i))), some (.int (nI (z_fi W.up (z_dd W i) W.ns W.ns)))]) (st' := []) (σ' := t2) (fun f => rfl) ?_
      exact ih1 _ _ _ ((gt2_1.trans (congrArg (fun z => (z_gd (z_dd W i) (W.lo (z_fi W.up (z_dd W i) W.ns W.ns)) z).1) (Prod.ext (fz1_39) (fz1_40)))).trans (by rw [z_wash_s, z_wd1, if_neg hfn])) ((gt2_2.trans (congrArg (fun z => (z_gd (z_dd W i) (W.lo (z_fi W.up (z_dd W i) W.ns W.ns)) z).2) (Prod.ext (fz1_39) (fz1_40)))).trans (by rw [z_wash_s, z_wd1, if_neg hfn])) (pi_fr_tr grt2 (by decide) (pi_fr_tr hrz1 (by decide) (pi_fr_rf)))
set_option maxRecDepth 20000 in
theorem pi_C_sweepsDown_t {xs : Nat → Int32} {L d : Nat} {W : zW} {σ : pi_S} (hc : z_CK W σ) {st : Nat} (hs : st < 12)  : pi_wp xs L (d + 2) 13 0 [some (.ref 37), some (.int (nI st)), none, none] [] σ (fun v s => (z_may W.ns W.up W.lo W.hd (σ 39) st = true ∧ v = some (.int (nI 1)) ∧ s 39 = (z_gd (W.up st) (W.lo st) (σ 39, σ 40)).1 ∧ s 40 = (z_gd (W.up st) (W.lo st) (σ 39, σ 40)).2 ∧ pi_fr [39, 40] s σ) ∨ (z_may W.ns W.up W.lo W.hd (σ 39) st = false ∧ v = some (.int (nI 0)) ∧ σ = s)) := by
  have hk := hc.p.wk
  have hnd8 := hk.wd.nd8
  have hns12 := hk.wd.ns12
  have hn60 := hk.nine
  have hnf := hk.nf
  have hnw := hk.nw
  have hnc := hk.nc
  have hn08 := hk.wd.n0
  have hn140 := hk.wd.n1
  refine pi_ca 4 (m' := 49) (l' := [some (.ref 1), some (.int (nI st))]) (σ' := σ) (pc2 := 8) (l2 := [some (.ref 37), some (.int (nI st)), none, none]) (t := []) (fun f => rfl) (pi_C_hasStreetN (hc.t.st) (by omega) (by omega)) ?_
  rintro _ _ (⟨b1, rfl, rfl⟩ | ⟨b1, rfl, rfl⟩)
  · refine pi_cf 1 (c := nI 1 = 0) (pc' := 13) (l' := [some (.ref 37), some (.int (nI st)), none, none]) (st' := []) (σ' := σ) (pc2 := 11) (l2 := [some (.ref 37), some (.int (nI st)), none, none]) (st2 := []) (σ2 := σ) (fun f => rfl) (by decide) ?_
    have hus := hk.wd.us st b1
    refine pi_ai 5 (u := st) (n := 12) (g := σ 7) (pc' := 22) (l' := [some (.ref 37), some (.int (nI st)), none, none]) (t := []) (σ' := σ) (fun f => rfl) (by omega) (by omega) ?_
    refine pi_tp (y := nI (W.up st)) ((hc.t.ul st (by omega)).1) ?_
    refine pi_ai 6 (u := st) (n := 12) (g := σ 8) (pc' := 32) (l' := [some (.ref 37), some (.int (nI st)), some (.int (nI (W.up st))), none]) (t := []) (σ' := σ) (fun f => rfl) (by omega) (by omega) ?_
    refine pi_tp (y := nI (W.lo st)) ((hc.t.ul st (by omega)).2) ?_
    refine pi_ca 5 (m' := 23) (l' := [some (.ref 38), some (.int (nI (W.up st))), none, none]) (σ' := σ) (pc2 := 41) (l2 := [some (.ref 37), some (.int (nI st)), some (.int (nI (W.up st))), some (.int (nI (W.lo st)))]) (t := []) (fun f => rfl) (pi_C_all_t (by omega)) ?_
    rintro _ _ ⟨rfl, rfl⟩
    refine pi_ca 4 (m' := 23) (l' := [some (.ref 38), some (.int (nI (W.lo st))), none, none]) (σ' := σ) (pc2 := 49) (l2 := [some (.ref 37), some (.int (nI st)), some (.int (nI (W.up st))), some (.int (nI (W.lo st)))]) (t := [.int (z_all (σ 39) (W.up st))]) (fun f => rfl) (pi_C_all_t (by omega)) ?_
    rintro _ _ ⟨rfl, rfl⟩
    refine pi_ai 6 (u := W.lo st) (n := 8) (g := σ 14) (pc' := 59) (l' := [some (.ref 37), some (.int (nI st)), some (.int (nI (W.up st))), some (.int (nI (W.lo st)))]) (t := [.int ((z_all (σ 39) (W.up st)) + (z_all (σ 39) (W.lo st)))]) (σ' := σ) (fun f => rfl) (by omega) (by omega) ?_
    refine pi_tp (y := W.hd (W.lo st)) ((hc.p.hd (W.lo st) (by omega))) ?_
    refine pi_if 1 (c := (z_all (σ 39) (W.up st)) + (z_all (σ 39) (W.lo st)) ≤ W.hd (W.lo st)) (pc' := 64) (l' := [some (.ref 37), some (.int (nI st)), some (.int (nI (W.up st))), some (.int (nI (W.lo st)))]) (st' := []) (σ' := σ) (pc2 := 62) (l2 := [some (.ref 37), some (.int (nI st)), some (.int (nI (W.up st))), some (.int (nI (W.lo st)))]) (st2 := []) (σ2 := σ) (fun f => rfl) (fun h2 => ?_) (fun h2 => ?_)
    · refine pi_ca 5 (m' := 21) (l' := [some (.ref 38), some (.int (nI (W.up st))), some (.int (nI (W.lo st))), none, none, none]) (σ' := σ) (pc2 := 73) (l2 := [some (.ref 37), some (.int (nI st)), some (.int (nI (W.up st))), some (.int (nI (W.lo st)))]) (t := []) (fun f => rfl) (pi_C_slide_t (by omega) (by omega) (fun q => absurd hus.2.2.2.2 (by rw [q]; exact Int32.lt_irrefl))) ?_
      rintro _ t1 ⟨rfl, gt1_1, gt1_2, grt1⟩
      refine pi_rb 2 (c := (nI 1) &&& 1 = nI 1) (v := some (.int (nI 1))) (σ' := t1) (fun f => rfl) (by decide) ?_
      exact Or.inl ⟨decide_eq_true ⟨b1, h2⟩, rfl, gt1_1, gt1_2, pi_fr_tr grt1 (by decide) (pi_fr_rf)⟩
    · refine pi_rb 2 (c := (nI 0) &&& 1 = nI 0) (v := some (.int (nI 0))) (σ' := σ) (fun f => rfl) (by decide) ?_
      exact Or.inr ⟨decide_eq_false (fun q => h2 q.2), rfl, rfl⟩
  · refine pi_ct 1 (c := nI 0 = 0) (pc' := 11) (l' := [some (.ref 37), some (.int (nI st)), none, none]) (st' := []) (σ' := σ) (pc2 := 13) (l2 := [some (.ref 37), some (.int (nI st)), none, none]) (st2 := []) (σ2 := σ) (fun f => rfl) (by decide) ?_
    refine pi_rb 2 (c := (nI 0) &&& 1 = nI 0) (v := some (.int (nI 0))) (σ' := σ) (fun f => rfl) (by decide) ?_
    exact Or.inr ⟨decide_eq_false (fun q => b1 q.1), rfl, rfl⟩
