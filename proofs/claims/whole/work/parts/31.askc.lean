set_option maxRecDepth 20000 in
theorem pi_X_fault_bad {xs : Nat → Int32} {L d : Nat} {W : zW} {σ : pi_S} (hR : z_CR W σ) {a : Int32} (hb : ¬ (z_B 2 a))  : pi_wp xs L (d + 9) 63 0 [some (.ref 0), some (.int a)] [] σ (fun v s => v = some (.int (-2)) ∧ z_CR W s ∧ pi_fr z_CJ s σ) := by
  have hk := hR.k.p.wk
  have hnd8 := hk.wd.nd8
  have hns12 := hk.wd.ns12
  have hn60 := hk.nine
  have hnf := hk.nf
  have hnw := hk.nw
  have hnc := hk.nc
  have hn08 := hk.wd.n0
  have hn140 := hk.wd.n1
  refine pi_ca 3 (m' := 94) (l' := [some (.int a), some (.int (nI 2))]) (σ' := σ) (pc2 := 5) (l2 := [some (.ref 0), some (.int a)]) (t := []) (fun f => rfl) (pi_C_belowB (a := a) (n := 2) (by omega)) ?_
  rintro _ _ (⟨b1, rfl, rfl⟩ | ⟨b1, rfl, rfl⟩)
  · refine pi_cf 1 (c := nI 1 = 0) (pc' := 11) (l' := [some (.ref 0), some (.int a)]) (st' := []) (σ' := σ) (pc2 := 8) (l2 := [some (.ref 0), some (.int a)]) (st2 := []) (σ2 := σ) (fun f => rfl) (by decide) ?_
    exact (hb b1).elim
  · refine pi_ct 1 (c := nI 0 = 0) (pc' := 8) (l' := [some (.ref 0), some (.int a)]) (st' := []) (σ' := σ) (pc2 := 11) (l2 := [some (.ref 0), some (.int a)]) (st2 := []) (σ2 := σ) (fun f => rfl) (by decide) ?_
    refine pi_rt 2 (v := some (.int (-2))) (σ' := σ) (fun f => rfl) ?_
    exact ⟨rfl, hR, pi_fr_rf⟩
set_option maxRecDepth 20000 in
theorem pi_X_fault0 {xs : Nat → Int32} {L d : Nat} {W : zW} {σ : pi_S} (hR : z_CR W σ)   : pi_wp xs L (d + 9) 63 0 [some (.ref 0), some (.int (nI 0))] [] σ (fun v s => v = some (.int (W.f0)) ∧ z_CR W s ∧ pi_fr z_CJ s σ) := by
  have hk := hR.k.p.wk
  have hnd8 := hk.wd.nd8
  have hns12 := hk.wd.ns12
  have hn60 := hk.nine
  have hnf := hk.nf
  have hnw := hk.nw
  have hnc := hk.nc
  have hn08 := hk.wd.n0
  have hn140 := hk.wd.n1
  refine pi_ca 3 (m' := 94) (l' := [some (.int (nI 0)), some (.int (nI 2))]) (σ' := σ) (pc2 := 5) (l2 := [some (.ref 0), some (.int (nI 0))]) (t := []) (fun f => rfl) (pi_below1 _ _ (z_BL (by omega) (by omega))) ?_
  rintro _ _ ⟨rfl, rfl⟩
  refine pi_cf 1 (c := nI 1 = 0) (pc' := 11) (l' := [some (.ref 0), some (.int (nI 0))]) (st' := []) (σ' := σ) (pc2 := 8) (l2 := [some (.ref 0), some (.int (nI 0))]) (st2 := []) (σ2 := σ) (fun f => rfl) (by decide) ?_
  refine pi_ct 2 (c := nI 0 = 0) (pc' := 15) (l' := [some (.ref 0), some (.int (nI 0))]) (st' := []) (σ' := σ) (pc2 := 25) (l2 := [some (.ref 0), some (.int (nI 0))]) (st2 := []) (σ2 := σ) (fun f => rfl) (by decide) ?_
  refine pi_go 3 (pc' := 22) (l' := [some (.ref 0), some (.int (nI 0))]) (st' := [.int (σ 1 10)]) (σ' := σ) (fun f => rfl) ?_
  refine pi_tp (y := W.f0) (hR.k.t.f0) ?_
  refine pi_rt 2 (v := some (.int W.f0)) (σ' := σ) (fun f => rfl) ?_
  exact ⟨rfl, hR, pi_fr_rf⟩
set_option maxRecDepth 20000 in
theorem pi_X_fault1 {xs : Nat → Int32} {L d : Nat} {W : zW} {σ : pi_S} (hR : z_CR W σ)   : pi_wp xs L (d + 9) 63 0 [some (.ref 0), some (.int (nI 1))] [] σ (fun v s => v = some (.int (W.f1)) ∧ z_CR W s ∧ pi_fr z_CJ s σ) := by
  have hk := hR.k.p.wk
  have hnd8 := hk.wd.nd8
  have hns12 := hk.wd.ns12
  have hn60 := hk.nine
  have hnf := hk.nf
  have hnw := hk.nw
  have hnc := hk.nc
  have hn08 := hk.wd.n0
  have hn140 := hk.wd.n1
  refine pi_ca 3 (m' := 94) (l' := [some (.int (nI 1)), some (.int (nI 2))]) (σ' := σ) (pc2 := 5) (l2 := [some (.ref 0), some (.int (nI 1))]) (t := []) (fun f => rfl) (pi_below1 _ _ (z_BL (by omega) (by omega))) ?_
  rintro _ _ ⟨rfl, rfl⟩
  refine pi_cf 1 (c := nI 1 = 0) (pc' := 11) (l' := [some (.ref 0), some (.int (nI 1))]) (st' := []) (σ' := σ) (pc2 := 8) (l2 := [some (.ref 0), some (.int (nI 1))]) (st2 := []) (σ2 := σ) (fun f => rfl) (by decide) ?_
  refine pi_cf 2 (c := nI 1 = 0) (pc' := 25) (l' := [some (.ref 0), some (.int (nI 1))]) (st' := []) (σ' := σ) (pc2 := 15) (l2 := [some (.ref 0), some (.int (nI 1))]) (st2 := []) (σ2 := σ) (fun f => rfl) (by decide) ?_
  refine pi_go 3 (pc' := 32) (l' := [some (.ref 0), some (.int (nI 1))]) (st' := [.int (σ 1 11)]) (σ' := σ) (fun f => rfl) ?_
  refine pi_tp (y := W.f1) (hR.k.t.f1) ?_
  refine pi_rt 1 (v := some (.int W.f1)) (σ' := σ) (fun f => rfl) ?_
  exact ⟨rfl, hR, pi_fr_rf⟩
set_option maxRecDepth 20000 in
theorem pi_X_height_bad {xs : Nat → Int32} {L d : Nat} {W : zW} {σ : pi_S} (hR : z_CR W σ) {a : Int32} (hb : ¬ (z_B W.nd a))  : pi_wp xs L (d + 9) 64 0 [some (.ref 0), some (.int a)] [] σ (fun v s => v = some (.int (-2)) ∧ z_CR W s ∧ pi_fr z_CJ s σ) := by
  have hk := hR.k.p.wk
  have hnd8 := hk.wd.nd8
  have hns12 := hk.wd.ns12
  have hn60 := hk.nine
  have hnf := hk.nf
  have hnw := hk.nw
  have hnc := hk.nc
  have hn08 := hk.wd.n0
  have hn140 := hk.wd.n1
  refine pi_ca 4 (m' := 48) (l' := [some (.ref 1), some (.int a)]) (σ' := σ) (pc2 := 8) (l2 := [some (.ref 0), some (.int a)]) (t := []) (fun f => rfl) (pi_C_hasDoor (hR.k.t.d) (by omega)) ?_
  rintro _ _ (⟨b1, rfl, rfl⟩ | ⟨b1, rfl, rfl⟩)
  · refine pi_cf 1 (c := nI 1 = 0) (pc' := 11) (l' := [some (.ref 0), some (.int a)]) (st' := []) (σ' := σ) (pc2 := 23) (l2 := [some (.ref 0), some (.int a)]) (st2 := []) (σ2 := σ) (fun f => rfl) (by decide) ?_
    exact (hb b1).elim
  · refine pi_ct 1 (c := nI 0 = 0) (pc' := 23) (l' := [some (.ref 0), some (.int a)]) (st' := []) (σ' := σ) (pc2 := 11) (l2 := [some (.ref 0), some (.int a)]) (st2 := []) (σ2 := σ) (fun f => rfl) (by decide) ?_
    refine pi_rt 2 (v := some (.int (-2))) (σ' := σ) (fun f => rfl) ?_
    exact ⟨rfl, hR, pi_fr_rf⟩
set_option maxRecDepth 20000 in
theorem pi_X_height {xs : Nat → Int32} {L d : Nat} {W : zW} {σ : pi_S} (hR : z_CR W σ) {dr : Nat} (hd : dr < W.nd)  : pi_wp xs L (d + 9) 64 0 [some (.ref 0), some (.int (nI dr))] [] σ (fun v s => v = some (.int (W.hh dr)) ∧ z_CR W s ∧ pi_fr z_CJ s σ) := by
  have hk := hR.k.p.wk
  have hnd8 := hk.wd.nd8
  have hns12 := hk.wd.ns12
  have hn60 := hk.nine
  have hnf := hk.nf
  have hnw := hk.nw
  have hnc := hk.nc
  have hn08 := hk.wd.n0
  have hn140 := hk.wd.n1
  refine pi_ca 4 (m' := 48) (l' := [some (.ref 1), some (.int (nI dr))]) (σ' := σ) (pc2 := 8) (l2 := [some (.ref 0), some (.int (nI dr))]) (t := []) (fun f => rfl) (pi_C_hasDoorT (hR.k.t.d) (by omega) (by omega)) ?_
  rintro _ _ ⟨rfl, rfl⟩
  refine pi_cf 1 (c := nI 1 = 0) (pc' := 11) (l' := [some (.ref 0), some (.int (nI dr))]) (st' := []) (σ' := σ) (pc2 := 23) (l2 := [some (.ref 0), some (.int (nI dr))]) (st2 := []) (σ2 := σ) (fun f => rfl) (by decide) ?_
  refine pi_ai 5 (u := dr) (n := 8) (g := σ 6) (pc' := 20) (l' := [some (.ref 0), some (.int (nI dr))]) (t := []) (σ' := σ) (fun f => rfl) (by omega) (by omega) ?_
  refine pi_tp (y := W.hh dr) ((hR.k.t.hh dr (by omega))) ?_
  refine pi_rt 2 (v := some (.int (W.hh dr))) (σ' := σ) (fun f => rfl) ?_
  exact ⟨rfl, hR, pi_fr_rf⟩
set_option maxRecDepth 20000 in
theorem pi_X_street_bad {xs : Nat → Int32} {L d : Nat} {W : zW} {σ : pi_S} (hR : z_CR W σ) {a b : Int32} (hb : ¬ (z_B W.ns a ∧ z_B 2 b))  : pi_wp xs L (d + 9) 65 0 [some (.ref 0), some (.int a), some (.int b)] [] σ (fun v s => v = some (.int (-2)) ∧ z_CR W s ∧ pi_fr z_CJ s σ) := by
  have hk := hR.k.p.wk
  have hnd8 := hk.wd.nd8
  have hns12 := hk.wd.ns12
  have hn60 := hk.nine
  have hnf := hk.nf
  have hnw := hk.nw
  have hnc := hk.nc
  have hn08 := hk.wd.n0
  have hn140 := hk.wd.n1
  refine pi_ca 4 (m' := 49) (l' := [some (.ref 1), some (.int a)]) (σ' := σ) (pc2 := 8) (l2 := [some (.ref 0), some (.int a), some (.int b)]) (t := []) (fun f => rfl) (pi_C_hasStreet (hR.k.t.st) (by omega)) ?_
  rintro _ _ (⟨b1, rfl, rfl⟩ | ⟨b1, rfl, rfl⟩)
  · refine pi_cf 1 (c := nI 1 = 0) (pc' := 11) (l' := [some (.ref 0), some (.int a), some (.int b)]) (st' := []) (σ' := σ) (pc2 := 19) (l2 := [some (.ref 0), some (.int a), some (.int b)]) (st2 := []) (σ2 := σ) (fun f => rfl) (by decide) ?_
    refine pi_ca 3 (m' := 94) (l' := [some (.int b), some (.int (nI 2))]) (σ' := σ) (pc2 := 16) (l2 := [some (.ref 0), some (.int a), some (.int b)]) (t := []) (fun f => rfl) (pi_C_belowB (a := b) (n := 2) (by omega)) ?_
    rintro _ _ (⟨b2, rfl, rfl⟩ | ⟨b2, rfl, rfl⟩)
    · refine pi_cf 1 (c := nI 1 = 0) (pc' := 22) (l' := [some (.ref 0), some (.int a), some (.int b)]) (st' := []) (σ' := σ) (pc2 := 19) (l2 := [some (.ref 0), some (.int a), some (.int b)]) (st2 := []) (σ2 := σ) (fun f => rfl) (by decide) ?_
      exact (hb ⟨b1, b2⟩).elim
    · refine pi_ct 1 (c := nI 0 = 0) (pc' := 19) (l' := [some (.ref 0), some (.int a), some (.int b)]) (st' := []) (σ' := σ) (pc2 := 22) (l2 := [some (.ref 0), some (.int a), some (.int b)]) (st2 := []) (σ2 := σ) (fun f => rfl) (by decide) ?_
      refine pi_rt 2 (v := some (.int (-2))) (σ' := σ) (fun f => rfl) ?_
      exact ⟨rfl, hR, pi_fr_rf⟩
  · refine pi_ct 1 (c := nI 0 = 0) (pc' := 19) (l' := [some (.ref 0), some (.int a), some (.int b)]) (st' := []) (σ' := σ) (pc2 := 11) (l2 := [some (.ref 0), some (.int a), some (.int b)]) (st2 := []) (σ2 := σ) (fun f => rfl) (by decide) ?_
    refine pi_rt 2 (v := some (.int (-2))) (σ' := σ) (fun f => rfl) ?_
    exact ⟨rfl, hR, pi_fr_rf⟩
set_option maxRecDepth 20000 in
theorem pi_X_street0 {xs : Nat → Int32} {L d : Nat} {W : zW} {σ : pi_S} (hR : z_CR W σ) {st : Nat} (hs : st < W.ns)  : pi_wp xs L (d + 9) 65 0 [some (.ref 0), some (.int (nI st)), some (.int (nI 0))] [] σ (fun v s => v = some (.int (nI (W.up st))) ∧ z_CR W s ∧ pi_fr z_CJ s σ) := by
  have hk := hR.k.p.wk
  have hnd8 := hk.wd.nd8
  have hns12 := hk.wd.ns12
  have hn60 := hk.nine
  have hnf := hk.nf
  have hnw := hk.nw
  have hnc := hk.nc
  have hn08 := hk.wd.n0
  have hn140 := hk.wd.n1
  refine pi_ca 4 (m' := 49) (l' := [some (.ref 1), some (.int (nI st))]) (σ' := σ) (pc2 := 8) (l2 := [some (.ref 0), some (.int (nI st)), some (.int (nI 0))]) (t := []) (fun f => rfl) (pi_C_hasStreetT (hR.k.t.st) (by omega) (by omega)) ?_
  rintro _ _ ⟨rfl, rfl⟩
  refine pi_cf 1 (c := nI 1 = 0) (pc' := 11) (l' := [some (.ref 0), some (.int (nI st)), some (.int (nI 0))]) (st' := []) (σ' := σ) (pc2 := 19) (l2 := [some (.ref 0), some (.int (nI st)), some (.int (nI 0))]) (st2 := []) (σ2 := σ) (fun f => rfl) (by decide) ?_
  refine pi_ca 3 (m' := 94) (l' := [some (.int (nI 0)), some (.int (nI 2))]) (σ' := σ) (pc2 := 16) (l2 := [some (.ref 0), some (.int (nI st)), some (.int (nI 0))]) (t := []) (fun f => rfl) (pi_below1 _ _ (z_BL (by omega) (by omega))) ?_
  rintro _ _ ⟨rfl, rfl⟩
  refine pi_cf 1 (c := nI 1 = 0) (pc' := 22) (l' := [some (.ref 0), some (.int (nI st)), some (.int (nI 0))]) (st' := []) (σ' := σ) (pc2 := 19) (l2 := [some (.ref 0), some (.int (nI st)), some (.int (nI 0))]) (st2 := []) (σ2 := σ) (fun f => rfl) (by decide) ?_
  refine pi_ct 2 (c := nI 0 = 0) (pc' := 26) (l' := [some (.ref 0), some (.int (nI st)), some (.int (nI 0))]) (st' := []) (σ' := σ) (pc2 := 38) (l2 := [some (.ref 0), some (.int (nI st)), some (.int (nI 0))]) (st2 := []) (σ2 := σ) (fun f => rfl) (by decide) ?_
  refine pi_ai 5 (u := st) (n := 12) (g := σ 7) (pc' := 35) (l' := [some (.ref 0), some (.int (nI st)), some (.int (nI 0))]) (t := []) (σ' := σ) (fun f => rfl) (by omega) (by omega) ?_
  refine pi_tp (y := nI (W.up st)) ((hR.k.t.ul st (by omega)).1) ?_
  refine pi_rt 2 (v := some (.int (nI (W.up st)))) (σ' := σ) (fun f => rfl) ?_
  exact ⟨rfl, hR, pi_fr_rf⟩
set_option maxRecDepth 20000 in
theorem pi_X_street1 {xs : Nat → Int32} {L d : Nat} {W : zW} {σ : pi_S} (hR : z_CR W σ) {st : Nat} (hs : st < W.ns)  : pi_wp xs L (d + 9) 65 0 [some (.ref 0), some (.int (nI st)), some (.int (nI 1))] [] σ (fun v s => v = some (.int (nI (W.lo st))) ∧ z_CR W s ∧ pi_fr z_CJ s σ) := by
  have hk := hR.k.p.wk
  have hnd8 := hk.wd.nd8
  have hns12 := hk.wd.ns12
  have hn60 := hk.nine
  have hnf := hk.nf
  have hnw := hk.nw
  have hnc := hk.nc
  have hn08 := hk.wd.n0
  have hn140 := hk.wd.n1
  refine pi_ca 4 (m' := 49) (l' := [some (.ref 1), some (.int (nI st))]) (σ' := σ) (pc2 := 8) (l2 := [some (.ref 0), some (.int (nI st)), some (.int (nI 1))]) (t := []) (fun f => rfl) (pi_C_hasStreetT (hR.k.t.st) (by omega) (by omega)) ?_
  rintro _ _ ⟨rfl, rfl⟩
  refine pi_cf 1 (c := nI 1 = 0) (pc' := 11) (l' := [some (.ref 0), some (.int (nI st)), some (.int (nI 1))]) (st' := []) (σ' := σ) (pc2 := 19) (l2 := [some (.ref 0), some (.int (nI st)), some (.int (nI 1))]) (st2 := []) (σ2 := σ) (fun f => rfl) (by decide) ?_
  refine pi_ca 3 (m' := 94) (l' := [some (.int (nI 1)), some (.int (nI 2))]) (σ' := σ) (pc2 := 16) (l2 := [some (.ref 0), some (.int (nI st)), some (.int (nI 1))]) (t := []) (fun f => rfl) (pi_below1 _ _ (z_BL (by omega) (by omega))) ?_
  rintro _ _ ⟨rfl, rfl⟩
  refine pi_cf 1 (c := nI 1 = 0) (pc' := 22) (l' := [some (.ref 0), some (.int (nI st)), some (.int (nI 1))]) (st' := []) (σ' := σ) (pc2 := 19) (l2 := [some (.ref 0), some (.int (nI st)), some (.int (nI 1))]) (st2 := []) (σ2 := σ) (fun f => rfl) (by decide) ?_
  refine pi_cf 2 (c := nI 1 = 0) (pc' := 38) (l' := [some (.ref 0), some (.int (nI st)), some (.int (nI 1))]) (st' := []) (σ' := σ) (pc2 := 26) (l2 := [some (.ref 0), some (.int (nI st)), some (.int (nI 1))]) (st2 := []) (σ2 := σ) (fun f => rfl) (by decide) ?_
  refine pi_ai 5 (u := st) (n := 12) (g := σ 8) (pc' := 47) (l' := [some (.ref 0), some (.int (nI st)), some (.int (nI 1))]) (t := []) (σ' := σ) (fun f => rfl) (by omega) (by omega) ?_
  refine pi_tp (y := nI (W.lo st)) ((hR.k.t.ul st (by omega)).2) ?_
  refine pi_rt 1 (v := some (.int (nI (W.lo st)))) (σ' := σ) (fun f => rfl) ?_
  exact ⟨rfl, hR, pi_fr_rf⟩
theorem z_nlt_m {k : Nat} (h : k < 2 ^ 31) : ¬ nI k < -1 := by
  rw [Int32.lt_iff_toInt_lt, nI_toInt h]
  have : (-1 : Int32).toInt = -1 := by decide
  omega
theorem z_B1_c {c : Int32} {n : Nat} (hn : n < 2 ^ 30) (h1 : ¬ c < -1) (h2 : c < nI (n + 1)) : z_B1 (n + 1) c := by
  refine (z_B1_in hn).mp ⟨Int32.not_lt.mp h1, ?_⟩
  rw [Int32.lt_iff_toInt_lt, nI_toInt (by omega)] at h2
  rw [Int32.le_iff_toInt_le, nI_toInt (by omega)]
  omega
set_option maxRecDepth 20000 in
theorem pi_X_lies_bad {xs : Nat → Int32} {L d : Nat} {W : zW} {σ : pi_S} (hR : z_CR W σ) {a b c : Int32} (hb : ¬ (z_B W.nd a ∧ z_B (W.nine + 1) b ∧ z_B1 5 c))  : pi_wp xs L (d + 9) 73 0 [some (.ref 0), some (.int a), some (.int b), some (.int c), none] [] σ (fun v s => v = some (.int (-2)) ∧ z_CR W s ∧ pi_fr z_CJ s σ) := by
  have hk := hR.k.p.wk
  have hnd8 := hk.wd.nd8
  have hns12 := hk.wd.ns12
  have hn60 := hk.nine
  have hnf := hk.nf
  have hnw := hk.nw
  have hnc := hk.nc
  have hn08 := hk.wd.n0
  have hn140 := hk.wd.n1
  refine pi_ca 4 (m' := 48) (l' := [some (.ref 1), some (.int a)]) (σ' := σ) (pc2 := 8) (l2 := [some (.ref 0), some (.int a), some (.int b), some (.int c), none]) (t := []) (fun f => rfl) (pi_C_hasDoor (hR.k.t.d) (by omega)) ?_
  rintro _ _ (⟨b1, rfl, rfl⟩ | ⟨b1, rfl, rfl⟩)
  · refine pi_cf 1 (c := nI 1 = 0) (pc' := 11) (l' := [some (.ref 0), some (.int a), some (.int b), some (.int c), none]) (st' := []) (σ' := σ) (pc2 := 29) (l2 := [some (.ref 0), some (.int a), some (.int b), some (.int c), none]) (st2 := []) (σ2 := σ) (fun f => rfl) (by decide) ?_
    refine pi_ca 3 (m' := 95) (l' := [some (.ref 0), some (.int b)]) (σ' := σ) (pc2 := 16) (l2 := [some (.ref 0), some (.int a), some (.int b), some (.int c), none]) (t := []) (fun f => rfl) (pi_C_toNine hR.k) ?_
    rintro _ _ (⟨b2, rfl, rfl⟩ | ⟨b2, rfl, rfl⟩)
    · refine pi_cf 1 (c := nI 1 = 0) (pc' := 19) (l' := [some (.ref 0), some (.int a), some (.int b), some (.int c), none]) (st' := []) (σ' := σ) (pc2 := 29) (l2 := [some (.ref 0), some (.int a), some (.int b), some (.int c), none]) (st2 := []) (σ2 := σ) (fun f => rfl) (by decide) ?_
      refine pi_if 3 (c := c < (-1)) (pc' := 29) (l' := [some (.ref 0), some (.int a), some (.int b), some (.int c), none]) (st' := []) (σ' := σ) (pc2 := 24) (l2 := [some (.ref 0), some (.int a), some (.int b), some (.int c), none]) (st2 := []) (σ2 := σ) (fun f => rfl) (fun h3 => ?_) (fun h3 => ?_)
      · refine pi_rt 2 (v := some (.int (-2))) (σ' := σ) (fun f => rfl) ?_
        exact ⟨rfl, hR, pi_fr_rf⟩
      · refine pi_if 3 (c := c < nI 5) (pc' := 32) (l' := [some (.ref 0), some (.int a), some (.int b), some (.int c), none]) (st' := []) (σ' := σ) (pc2 := 29) (l2 := [some (.ref 0), some (.int a), some (.int b), some (.int c), none]) (st2 := []) (σ2 := σ) (fun f => rfl) (fun h4 => ?_) (fun h4 => ?_)
        · exact (hb ⟨b1, b2, z_B1_c (n := 4) (by omega) h3 h4⟩).elim
        · refine pi_rt 2 (v := some (.int (-2))) (σ' := σ) (fun f => rfl) ?_
          exact ⟨rfl, hR, pi_fr_rf⟩
    · refine pi_ct 1 (c := nI 0 = 0) (pc' := 29) (l' := [some (.ref 0), some (.int a), some (.int b), some (.int c), none]) (st' := []) (σ' := σ) (pc2 := 19) (l2 := [some (.ref 0), some (.int a), some (.int b), some (.int c), none]) (st2 := []) (σ2 := σ) (fun f => rfl) (by decide) ?_
      refine pi_rt 2 (v := some (.int (-2))) (σ' := σ) (fun f => rfl) ?_
      exact ⟨rfl, hR, pi_fr_rf⟩
  · refine pi_ct 1 (c := nI 0 = 0) (pc' := 29) (l' := [some (.ref 0), some (.int a), some (.int b), some (.int c), none]) (st' := []) (σ' := σ) (pc2 := 11) (l2 := [some (.ref 0), some (.int a), some (.int b), some (.int c), none]) (st2 := []) (σ2 := σ) (fun f => rfl) (by decide) ?_
    refine pi_rt 2 (v := some (.int (-2))) (σ' := σ) (fun f => rfl) ?_
    exact ⟨rfl, hR, pi_fr_rf⟩
set_option maxRecDepth 20000 in
theorem pi_X_lies0c {xs : Nat → Int32} {L d : Nat} {W : zW} {σ : pi_S} (hR : z_CR W σ) {dr : Nat} (hd : dr < W.nd)  : pi_wp xs L (d + 9) 73 0 [some (.ref 0), some (.int (nI dr)), some (.int (nI W.nine)), some (.int (-1)), none] [] σ (fun v s => v = some (.int (z_all (z_A W).1.1.1 dr)) ∧ z_CR W s ∧ pi_fr z_CJ s σ) := by
  have hk := hR.k.p.wk
  have hnd8 := hk.wd.nd8
  have hns12 := hk.wd.ns12
  have hn60 := hk.nine
  have hnf := hk.nf
  have hnw := hk.nw
  have hnc := hk.nc
  have hn08 := hk.wd.n0
  have hn140 := hk.wd.n1
  refine pi_ca 4 (m' := 48) (l' := [some (.ref 1), some (.int (nI dr))]) (σ' := σ) (pc2 := 8) (l2 := [some (.ref 0), some (.int (nI dr)), some (.int (nI W.nine)), some (.int (-1)), none]) (t := []) (fun f => rfl) (pi_C_hasDoorT (hR.k.t.d) (by omega) (by omega)) ?_
  rintro _ _ ⟨rfl, rfl⟩
  refine pi_cf 1 (c := nI 1 = 0) (pc' := 11) (l' := [some (.ref 0), some (.int (nI dr)), some (.int (nI W.nine)), some (.int (-1)), none]) (st' := []) (σ' := σ) (pc2 := 29) (l2 := [some (.ref 0), some (.int (nI dr)), some (.int (nI W.nine)), some (.int (-1)), none]) (st2 := []) (σ2 := σ) (fun f => rfl) (by decide) ?_
  refine pi_ca 3 (m' := 95) (l' := [some (.ref 0), some (.int (nI W.nine))]) (σ' := σ) (pc2 := 16) (l2 := [some (.ref 0), some (.int (nI dr)), some (.int (nI W.nine)), some (.int (-1)), none]) (t := []) (fun f => rfl) (pi_C_toNineT hR.k (by omega)) ?_
  rintro _ _ ⟨rfl, rfl⟩
  refine pi_cf 1 (c := nI 1 = 0) (pc' := 19) (l' := [some (.ref 0), some (.int (nI dr)), some (.int (nI W.nine)), some (.int (-1)), none]) (st' := []) (σ' := σ) (pc2 := 29) (l2 := [some (.ref 0), some (.int (nI dr)), some (.int (nI W.nine)), some (.int (-1)), none]) (st2 := []) (σ2 := σ) (fun f => rfl) (by decide) ?_
  refine pi_cf 3 (c := (-1) < (-1)) (pc' := 24) (l' := [some (.ref 0), some (.int (nI dr)), some (.int (nI W.nine)), some (.int (-1)), none]) (st' := []) (σ' := σ) (pc2 := 29) (l2 := [some (.ref 0), some (.int (nI dr)), some (.int (nI W.nine)), some (.int (-1)), none]) (st2 := []) (σ2 := σ) (fun f => rfl) (by decide) ?_
  refine pi_ct 3 (c := (-1) < nI 5) (pc' := 32) (l' := [some (.ref 0), some (.int (nI dr)), some (.int (nI W.nine)), some (.int (-1)), none]) (st' := []) (σ' := σ) (pc2 := 29) (l2 := [some (.ref 0), some (.int (nI dr)), some (.int (nI W.nine)), some (.int (-1)), none]) (st2 := []) (σ2 := σ) (fun f => rfl) (by decide) ?_
  refine pi_ca 3 (m' := 98) (l' := [some (.ref 0), some (.int (nI W.nine))]) (σ' := σ) (pc2 := 37) (l2 := [some (.ref 0), some (.int (nI dr)), some (.int (nI W.nine)), some (.int (-1)), none]) (t := []) (fun f => rfl) (pi_C_behind_c hR.k) ?_
  rintro _ _ ⟨rfl, rfl⟩
  refine pi_ct 5 (c := (-1) = (-1)) (pc' := 47) (l' := [some (.ref 0), some (.int (nI dr)), some (.int (nI W.nine)), some (.int (-1)), some (.ref 34)]) (st' := []) (σ' := σ) (pc2 := 56) (l2 := [some (.ref 0), some (.int (nI dr)), some (.int (nI W.nine)), some (.int (-1)), some (.ref 34)]) (st2 := []) (σ2 := σ) (fun f => rfl) (by decide) ?_
  refine pi_ca 3 (m' := 23) (l' := [some (.ref 34), some (.int (nI dr)), none, none]) (σ' := σ) (pc2 := 53) (l2 := [some (.ref 0), some (.int (nI dr)), some (.int (nI W.nine)), some (.int (-1)), some (.ref 34)]) (t := []) (fun f => rfl) (pi_C_all_c (by omega)) ?_
  rintro _ _ ⟨rfl, rfl⟩
  refine pi_tp (y := z_all ((z_A W).1.1.1) dr) (congrArg (fun z => z_all z dr) (hR.b)) ?_
  refine pi_rt 2 (v := some (.int (z_all ((z_A W).1.1.1) dr))) (σ' := σ) (fun f => rfl) ?_
  exact ⟨rfl, hR, pi_fr_rf⟩
set_option maxRecDepth 20000 in
theorem pi_X_lies0t {xs : Nat → Int32} {L d : Nat} {W : zW} {σ : pi_S} (hR : z_CR W σ) {dr : Nat} (hd : dr < W.nd) {mi : Nat} (hi : mi < W.nine)  : pi_wp xs L (d + 9) 73 0 [some (.ref 0), some (.int (nI dr)), some (.int (nI mi)), some (.int (-1)), none] [] σ (fun v s => v = some (.int (z_all (z_R W (-1) (-1) 0 (fun _ => 0) (mi + 1)).1.1.1 dr)) ∧ z_CR W s ∧ pi_fr z_CJ s σ) := by
  have hk := hR.k.p.wk
  have hnd8 := hk.wd.nd8
  have hns12 := hk.wd.ns12
  have hn60 := hk.nine
  have hnf := hk.nf
  have hnw := hk.nw
  have hnc := hk.nc
  have hn08 := hk.wd.n0
  have hn140 := hk.wd.n1
  refine pi_ca 4 (m' := 48) (l' := [some (.ref 1), some (.int (nI dr))]) (σ' := σ) (pc2 := 8) (l2 := [some (.ref 0), some (.int (nI dr)), some (.int (nI mi)), some (.int (-1)), none]) (t := []) (fun f => rfl) (pi_C_hasDoorT (hR.k.t.d) (by omega) (by omega)) ?_
  rintro _ _ ⟨rfl, rfl⟩
  refine pi_cf 1 (c := nI 1 = 0) (pc' := 11) (l' := [some (.ref 0), some (.int (nI dr)), some (.int (nI mi)), some (.int (-1)), none]) (st' := []) (σ' := σ) (pc2 := 29) (l2 := [some (.ref 0), some (.int (nI dr)), some (.int (nI mi)), some (.int (-1)), none]) (st2 := []) (σ2 := σ) (fun f => rfl) (by decide) ?_
  refine pi_ca 3 (m' := 95) (l' := [some (.ref 0), some (.int (nI mi))]) (σ' := σ) (pc2 := 16) (l2 := [some (.ref 0), some (.int (nI dr)), some (.int (nI mi)), some (.int (-1)), none]) (t := []) (fun f => rfl) (pi_C_toNineT hR.k (by omega)) ?_
  rintro _ _ ⟨rfl, rfl⟩
  refine pi_cf 1 (c := nI 1 = 0) (pc' := 19) (l' := [some (.ref 0), some (.int (nI dr)), some (.int (nI mi)), some (.int (-1)), none]) (st' := []) (σ' := σ) (pc2 := 29) (l2 := [some (.ref 0), some (.int (nI dr)), some (.int (nI mi)), some (.int (-1)), none]) (st2 := []) (σ2 := σ) (fun f => rfl) (by decide) ?_
  refine pi_cf 3 (c := (-1) < (-1)) (pc' := 24) (l' := [some (.ref 0), some (.int (nI dr)), some (.int (nI mi)), some (.int (-1)), none]) (st' := []) (σ' := σ) (pc2 := 29) (l2 := [some (.ref 0), some (.int (nI dr)), some (.int (nI mi)), some (.int (-1)), none]) (st2 := []) (σ2 := σ) (fun f => rfl) (by decide) ?_
  refine pi_ct 3 (c := (-1) < nI 5) (pc' := 32) (l' := [some (.ref 0), some (.int (nI dr)), some (.int (nI mi)), some (.int (-1)), none]) (st' := []) (σ' := σ) (pc2 := 29) (l2 := [some (.ref 0), some (.int (nI dr)), some (.int (nI mi)), some (.int (-1)), none]) (st2 := []) (σ2 := σ) (fun f => rfl) (by decide) ?_
  refine pi_ca 3 (m' := 98) (l' := [some (.ref 0), some (.int (nI mi))]) (σ' := σ) (pc2 := 37) (l2 := [some (.ref 0), some (.int (nI dr)), some (.int (nI mi)), some (.int (-1)), none]) (t := []) (fun f => rfl) (pi_C_behind_t hR (by omega)) ?_
  rintro _ t1 ⟨rfl, et1_1, et1_2, gt1, rt1⟩
  refine pi_ct 5 (c := (-1) = (-1)) (pc' := 47) (l' := [some (.ref 0), some (.int (nI dr)), some (.int (nI mi)), some (.int (-1)), some (.ref 38)]) (st' := []) (σ' := t1) (pc2 := 56) (l2 := [some (.ref 0), some (.int (nI dr)), some (.int (nI mi)), some (.int (-1)), some (.ref 38)]) (st2 := []) (σ2 := t1) (fun f => rfl) (by decide) ?_
  refine pi_ca 3 (m' := 23) (l' := [some (.ref 38), some (.int (nI dr)), none, none]) (σ' := t1) (pc2 := 53) (l2 := [some (.ref 0), some (.int (nI dr)), some (.int (nI mi)), some (.int (-1)), some (.ref 38)]) (t := []) (fun f => rfl) (pi_C_all_t (by omega)) ?_
  rintro _ _ ⟨rfl, rfl⟩
  refine pi_tp (y := z_all ((z_R W (-1) (-1) 0 (fun _ => 0) (mi + 1)).1.1.1) dr) (congrArg (fun z => z_all z dr) (et1_1)) ?_
  refine pi_rt 2 (v := some (.int (z_all ((z_R W (-1) (-1) 0 (fun _ => 0) (mi + 1)).1.1.1) dr))) (σ' := t1) (fun f => rfl) ?_
  exact ⟨rfl, gt1, pi_fr_tr rt1 (by decide) (pi_fr_rf)⟩
set_option maxRecDepth 20000 in
theorem pi_X_lies1c {xs : Nat → Int32} {L d : Nat} {W : zW} {σ : pi_S} (hR : z_CR W σ) {dr : Nat} (hd : dr < W.nd) {kd : Nat} (hkd : kd < 5)  : pi_wp xs L (d + 9) 73 0 [some (.ref 0), some (.int (nI dr)), some (.int (nI W.nine)), some (.int (nI kd)), none] [] σ (fun v s => v = some (.int ((z_A W).1.1.1 (5 * dr + kd))) ∧ z_CR W s ∧ pi_fr z_CJ s σ) := by
  have hk := hR.k.p.wk
  have hnd8 := hk.wd.nd8
  have hns12 := hk.wd.ns12
  have hn60 := hk.nine
  have hnf := hk.nf
  have hnw := hk.nw
  have hnc := hk.nc
  have hn08 := hk.wd.n0
  have hn140 := hk.wd.n1
  refine pi_ca 4 (m' := 48) (l' := [some (.ref 1), some (.int (nI dr))]) (σ' := σ) (pc2 := 8) (l2 := [some (.ref 0), some (.int (nI dr)), some (.int (nI W.nine)), some (.int (nI kd)), none]) (t := []) (fun f => rfl) (pi_C_hasDoorT (hR.k.t.d) (by omega) (by omega)) ?_
  rintro _ _ ⟨rfl, rfl⟩
  refine pi_cf 1 (c := nI 1 = 0) (pc' := 11) (l' := [some (.ref 0), some (.int (nI dr)), some (.int (nI W.nine)), some (.int (nI kd)), none]) (st' := []) (σ' := σ) (pc2 := 29) (l2 := [some (.ref 0), some (.int (nI dr)), some (.int (nI W.nine)), some (.int (nI kd)), none]) (st2 := []) (σ2 := σ) (fun f => rfl) (by decide) ?_
  refine pi_ca 3 (m' := 95) (l' := [some (.ref 0), some (.int (nI W.nine))]) (σ' := σ) (pc2 := 16) (l2 := [some (.ref 0), some (.int (nI dr)), some (.int (nI W.nine)), some (.int (nI kd)), none]) (t := []) (fun f => rfl) (pi_C_toNineT hR.k (by omega)) ?_
  rintro _ _ ⟨rfl, rfl⟩
  refine pi_cf 1 (c := nI 1 = 0) (pc' := 19) (l' := [some (.ref 0), some (.int (nI dr)), some (.int (nI W.nine)), some (.int (nI kd)), none]) (st' := []) (σ' := σ) (pc2 := 29) (l2 := [some (.ref 0), some (.int (nI dr)), some (.int (nI W.nine)), some (.int (nI kd)), none]) (st2 := []) (σ2 := σ) (fun f => rfl) (by decide) ?_
  refine pi_cf 3 (c := nI kd < (-1)) (pc' := 24) (l' := [some (.ref 0), some (.int (nI dr)), some (.int (nI W.nine)), some (.int (nI kd)), none]) (st' := []) (σ' := σ) (pc2 := 29) (l2 := [some (.ref 0), some (.int (nI dr)), some (.int (nI W.nine)), some (.int (nI kd)), none]) (st2 := []) (σ2 := σ) (fun f => rfl) (z_nlt_m (by omega)) ?_
  refine pi_ct 3 (c := nI kd < nI 5) (pc' := 32) (l' := [some (.ref 0), some (.int (nI dr)), some (.int (nI W.nine)), some (.int (nI kd)), none]) (st' := []) (σ' := σ) (pc2 := 29) (l2 := [some (.ref 0), some (.int (nI dr)), some (.int (nI W.nine)), some (.int (nI kd)), none]) (st2 := []) (σ2 := σ) (fun f => rfl) ((nI_ltI (by omega) (by omega)).mpr hkd) ?_
  refine pi_ca 3 (m' := 98) (l' := [some (.ref 0), some (.int (nI W.nine))]) (σ' := σ) (pc2 := 37) (l2 := [some (.ref 0), some (.int (nI dr)), some (.int (nI W.nine)), some (.int (nI kd)), none]) (t := []) (fun f => rfl) (pi_C_behind_c hR.k) ?_
  rintro _ _ ⟨rfl, rfl⟩
  refine pi_cf 5 (c := nI kd = (-1)) (pc' := 56) (l' := [some (.ref 0), some (.int (nI dr)), some (.int (nI W.nine)), some (.int (nI kd)), some (.ref 34)]) (st' := []) (σ' := σ) (pc2 := 47) (l2 := [some (.ref 0), some (.int (nI dr)), some (.int (nI W.nine)), some (.int (nI kd)), some (.ref 34)]) (st2 := []) (σ2 := σ) (fun f => rfl) (z_nIm _ (by omega)) ?_
  refine pi_ca 4 (m' := 22) (l' := [some (.ref 34), some (.int (nI dr)), some (.int (nI kd))]) (σ' := σ) (pc2 := 63) (l2 := [some (.ref 0), some (.int (nI dr)), some (.int (nI W.nine)), some (.int (nI kd)), some (.ref 34)]) (t := []) (fun f => rfl) (pi_C_barrowsAt_c (by omega) (by omega)) ?_
  rintro _ _ ⟨rfl, rfl⟩
  refine pi_tp (y := ((z_A W).1.1.1) (5 * dr + kd)) (congrFun (hR.b) _) ?_
  refine pi_rt 1 (v := some (.int (((z_A W).1.1.1) (5 * dr + kd)))) (σ' := σ) (fun f => rfl) ?_
  exact ⟨rfl, hR, pi_fr_rf⟩
set_option maxRecDepth 20000 in
theorem pi_X_lies1t {xs : Nat → Int32} {L d : Nat} {W : zW} {σ : pi_S} (hR : z_CR W σ) {dr : Nat} (hd : dr < W.nd) {mi kd : Nat} (hi : mi < W.nine) (hkd : kd < 5)  : pi_wp xs L (d + 9) 73 0 [some (.ref 0), some (.int (nI dr)), some (.int (nI mi)), some (.int (nI kd)), none] [] σ (fun v s => v = some (.int ((z_R W (-1) (-1) 0 (fun _ => 0) (mi + 1)).1.1.1 (5 * dr + kd))) ∧ z_CR W s ∧ pi_fr z_CJ s σ) := by
  have hk := hR.k.p.wk
  have hnd8 := hk.wd.nd8
  have hns12 := hk.wd.ns12
  have hn60 := hk.nine
  have hnf := hk.nf
  have hnw := hk.nw
  have hnc := hk.nc
  have hn08 := hk.wd.n0
  have hn140 := hk.wd.n1
  refine pi_ca 4 (m' := 48) (l' := [some (.ref 1), some (.int (nI dr))]) (σ' := σ) (pc2 := 8) (l2 := [some (.ref 0), some (.int (nI dr)), some (.int (nI mi)), some (.int (nI kd)), none]) (t := []) (fun f => rfl) (pi_C_hasDoorT (hR.k.t.d) (by omega) (by omega)) ?_
  rintro _ _ ⟨rfl, rfl⟩
  refine pi_cf 1 (c := nI 1 = 0) (pc' := 11) (l' := [some (.ref 0), some (.int (nI dr)), some (.int (nI mi)), some (.int (nI kd)), none]) (st' := []) (σ' := σ) (pc2 := 29) (l2 := [some (.ref 0), some (.int (nI dr)), some (.int (nI mi)), some (.int (nI kd)), none]) (st2 := []) (σ2 := σ) (fun f => rfl) (by decide) ?_
  refine pi_ca 3 (m' := 95) (l' := [some (.ref 0), some (.int (nI mi))]) (σ' := σ) (pc2 := 16) (l2 := [some (.ref 0), some (.int (nI dr)), some (.int (nI mi)), some (.int (nI kd)), none]) (t := []) (fun f => rfl) (pi_C_toNineT hR.k (by omega)) ?_
  rintro _ _ ⟨rfl, rfl⟩
  refine pi_cf 1 (c := nI 1 = 0) (pc' := 19) (l' := [some (.ref 0), some (.int (nI dr)), some (.int (nI mi)), some (.int (nI kd)), none]) (st' := []) (σ' := σ) (pc2 := 29) (l2 := [some (.ref 0), some (.int (nI dr)), some (.int (nI mi)), some (.int (nI kd)), none]) (st2 := []) (σ2 := σ) (fun f => rfl) (by decide) ?_
  refine pi_cf 3 (c := nI kd < (-1)) (pc' := 24) (l' := [some (.ref 0), some (.int (nI dr)), some (.int (nI mi)), some (.int (nI kd)), none]) (st' := []) (σ' := σ) (pc2 := 29) (l2 := [some (.ref 0), some (.int (nI dr)), some (.int (nI mi)), some (.int (nI kd)), none]) (st2 := []) (σ2 := σ) (fun f => rfl) (z_nlt_m (by omega)) ?_
  refine pi_ct 3 (c := nI kd < nI 5) (pc' := 32) (l' := [some (.ref 0), some (.int (nI dr)), some (.int (nI mi)), some (.int (nI kd)), none]) (st' := []) (σ' := σ) (pc2 := 29) (l2 := [some (.ref 0), some (.int (nI dr)), some (.int (nI mi)), some (.int (nI kd)), none]) (st2 := []) (σ2 := σ) (fun f => rfl) ((nI_ltI (by omega) (by omega)).mpr hkd) ?_
  refine pi_ca 3 (m' := 98) (l' := [some (.ref 0), some (.int (nI mi))]) (σ' := σ) (pc2 := 37) (l2 := [some (.ref 0), some (.int (nI dr)), some (.int (nI mi)), some (.int (nI kd)), none]) (t := []) (fun f => rfl) (pi_C_behind_t hR (by omega)) ?_
  rintro _ t1 ⟨rfl, et1_1, et1_2, gt1, rt1⟩
  refine pi_cf 5 (c := nI kd = (-1)) (pc' := 56) (l' := [some (.ref 0), some (.int (nI dr)), some (.int (nI mi)), some (.int (nI kd)), some (.ref 38)]) (st' := []) (σ' := t1) (pc2 := 47) (l2 := [some (.ref 0), some (.int (nI dr)), some (.int (nI mi)), some (.int (nI kd)), some (.ref 38)]) (st2 := []) (σ2 := t1) (fun f => rfl) (z_nIm _ (by omega)) ?_
  refine pi_ca 4 (m' := 22) (l' := [some (.ref 38), some (.int (nI dr)), some (.int (nI kd))]) (σ' := t1) (pc2 := 63) (l2 := [some (.ref 0), some (.int (nI dr)), some (.int (nI mi)), some (.int (nI kd)), some (.ref 38)]) (t := []) (fun f => rfl) (pi_C_barrowsAt_t (by omega) (by omega)) ?_
  rintro _ _ ⟨rfl, rfl⟩
  refine pi_tp (y := ((z_R W (-1) (-1) 0 (fun _ => 0) (mi + 1)).1.1.1) (5 * dr + kd)) (congrFun (et1_1) _) ?_
  refine pi_rt 1 (v := some (.int (((z_R W (-1) (-1) 0 (fun _ => 0) (mi + 1)).1.1.1) (5 * dr + kd)))) (σ' := t1) (fun f => rfl) ?_
  exact ⟨rfl, gt1, pi_fr_tr rt1 (by decide) (pi_fr_rf)⟩
set_option maxRecDepth 20000 in
theorem pi_X_fine_bad {xs : Nat → Int32} {L d : Nat} {W : zW} {σ : pi_S} (hR : z_CR W σ) {a : Int32} (hb : ¬ (a = -1 ∨ z_B W.nd a))  : pi_wp xs L (d + 9) 74 0 [some (.ref 0), some (.int a)] [] σ (fun v s => v = some (.int (-2)) ∧ z_CR W s ∧ pi_fr z_CJ s σ) := by
  have hk := hR.k.p.wk
  have hnd8 := hk.wd.nd8
  have hns12 := hk.wd.ns12
  have hn60 := hk.nine
  have hnf := hk.nf
  have hnw := hk.nw
  have hnc := hk.nc
  have hn08 := hk.wd.n0
  have hn140 := hk.wd.n1
  refine pi_if 3 (c := a = (-1)) (pc' := 5) (l' := [some (.ref 0), some (.int a)]) (st' := []) (σ' := σ) (pc2 := 13) (l2 := [some (.ref 0), some (.int a)]) (st2 := []) (σ2 := σ) (fun f => rfl) (fun h1 => ?_) (fun h1 => ?_)
  · exact (hb (Or.inl h1)).elim
  · refine pi_ca 4 (m' := 48) (l' := [some (.ref 1), some (.int a)]) (σ' := σ) (pc2 := 21) (l2 := [some (.ref 0), some (.int a)]) (t := []) (fun f => rfl) (pi_C_hasDoor (hR.k.t.d) (by omega)) ?_
    rintro _ _ (⟨b2, rfl, rfl⟩ | ⟨b2, rfl, rfl⟩)
    · refine pi_cf 1 (c := nI 1 = 0) (pc' := 24) (l' := [some (.ref 0), some (.int a)]) (st' := []) (σ' := σ) (pc2 := 35) (l2 := [some (.ref 0), some (.int a)]) (st2 := []) (σ2 := σ) (fun f => rfl) (by decide) ?_
      exact (hb (Or.inr b2)).elim
    · refine pi_ct 1 (c := nI 0 = 0) (pc' := 35) (l' := [some (.ref 0), some (.int a)]) (st' := []) (σ' := σ) (pc2 := 24) (l2 := [some (.ref 0), some (.int a)]) (st2 := []) (σ2 := σ) (fun f => rfl) (by decide) ?_
      refine pi_rt 2 (v := some (.int (-2))) (σ' := σ) (fun f => rfl) ?_
      exact ⟨rfl, hR, pi_fr_rf⟩
set_option maxRecDepth 20000 in
theorem pi_X_fine0 {xs : Nat → Int32} {L d : Nat} {W : zW} {σ : pi_S} (hR : z_CR W σ)   : pi_wp xs L (d + 9) 74 0 [some (.ref 0), some (.int (-1))] [] σ (fun v s => v = some (.int (z_fines W.rt (z_A W).1.1.1 W.nd)) ∧ z_CR W s ∧ pi_fr z_CJ s σ) := by
  have hk := hR.k.p.wk
  have hnd8 := hk.wd.nd8
  have hns12 := hk.wd.ns12
  have hn60 := hk.nine
  have hnf := hk.nf
  have hnw := hk.nw
  have hnc := hk.nc
  have hn08 := hk.wd.n0
  have hn140 := hk.wd.n1
  refine pi_ct 3 (c := (-1) = (-1)) (pc' := 5) (l' := [some (.ref 0), some (.int (-1))]) (st' := []) (σ' := σ) (pc2 := 13) (l2 := [some (.ref 0), some (.int (-1))]) (st2 := []) (σ2 := σ) (fun f => rfl) (by decide) ?_
  refine pi_ca 3 (m' := 17) (l' := [some (.ref 33), none, none]) (σ' := σ) (pc2 := 12) (l2 := [some (.ref 0), some (.int (-1))]) (t := []) (fun f => rfl) (pi_C_fines_c hR.k) ?_
  rintro _ _ ⟨rfl, rfl⟩
  refine pi_tp (y := z_fines W.rt ((z_A W).1.1.1) W.nd) (z_fines_c rfl (hR.b) _) ?_
  refine pi_rt 1 (v := some (.int (z_fines W.rt ((z_A W).1.1.1) W.nd))) (σ' := σ) (fun f => rfl) ?_
  exact ⟨rfl, hR, pi_fr_rf⟩
set_option maxRecDepth 20000 in
theorem pi_X_fine1 {xs : Nat → Int32} {L d : Nat} {W : zW} {σ : pi_S} (hR : z_CR W σ) {dr : Nat} (hd : dr < W.nd)  : pi_wp xs L (d + 9) 74 0 [some (.ref 0), some (.int (nI dr))] [] σ (fun v s => v = some (.int (z_fine W.rt (z_A W).1.1.1 dr)) ∧ z_CR W s ∧ pi_fr z_CJ s σ) := by
  have hk := hR.k.p.wk
  have hnd8 := hk.wd.nd8
  have hns12 := hk.wd.ns12
  have hn60 := hk.nine
  have hnf := hk.nf
  have hnw := hk.nw
  have hnc := hk.nc
  have hn08 := hk.wd.n0
  have hn140 := hk.wd.n1
  refine pi_cf 3 (c := nI dr = (-1)) (pc' := 13) (l' := [some (.ref 0), some (.int (nI dr))]) (st' := []) (σ' := σ) (pc2 := 5) (l2 := [some (.ref 0), some (.int (nI dr))]) (st2 := []) (σ2 := σ) (fun f => rfl) (z_nIm _ (by omega)) ?_
  refine pi_ca 4 (m' := 48) (l' := [some (.ref 1), some (.int (nI dr))]) (σ' := σ) (pc2 := 21) (l2 := [some (.ref 0), some (.int (nI dr))]) (t := []) (fun f => rfl) (pi_C_hasDoorT (hR.k.t.d) (by omega) (by omega)) ?_
  rintro _ _ ⟨rfl, rfl⟩
  refine pi_cf 1 (c := nI 1 = 0) (pc' := 24) (l' := [some (.ref 0), some (.int (nI dr))]) (st' := []) (σ' := σ) (pc2 := 35) (l2 := [some (.ref 0), some (.int (nI dr))]) (st2 := []) (σ2 := σ) (fun f => rfl) (by decide) ?_
  refine pi_ca 4 (m' := 16) (l' := [some (.ref 33), some (.int (nI dr)), none, none]) (σ' := σ) (pc2 := 32) (l2 := [some (.ref 0), some (.int (nI dr))]) (t := []) (fun f => rfl) (pi_C_fineAt_c hR.k (by omega)) ?_
  rintro _ _ ⟨rfl, rfl⟩
  refine pi_tp (y := z_fine W.rt ((z_A W).1.1.1) dr) (z_fine_c rfl (hR.b) _) ?_
  refine pi_rt 2 (v := some (.int (z_fine W.rt ((z_A W).1.1.1) dr))) (σ' := σ) (fun f => rfl) ?_
  exact ⟨rfl, hR, pi_fr_rf⟩
set_option maxRecDepth 20000 in
theorem pi_X_judged {xs : Nat → Int32} {L d : Nat} {W : zW} {σ : pi_S} (hR : z_CR W σ)   : pi_wp xs L (d + 9) 75 0 [some (.ref 0)] [] σ (fun v s => v = some (.int ((z_A W).1.2)) ∧ z_CR W s ∧ pi_fr z_CJ s σ) := by
  have hk := hR.k.p.wk
  have hnd8 := hk.wd.nd8
  have hns12 := hk.wd.ns12
  have hn60 := hk.nine
  have hnf := hk.nf
  have hnw := hk.nw
  have hnc := hk.nc
  have hn08 := hk.wd.n0
  have hn140 := hk.wd.n1
  refine pi_go 3 (pc' := 7) (l' := [some (.ref 0)]) (st' := [.int (σ 33 4)]) (σ' := σ) (fun f => rfl) ?_
  refine pi_tp (y := (z_A W).1.2) (hR.a) ?_
  refine pi_rt 1 (v := some (.int ((z_A W).1.2))) (σ' := σ) (fun f => rfl) ?_
  exact ⟨rfl, hR, pi_fr_rf⟩
set_option maxRecDepth 20000 in
theorem pi_X_bribe_bad {xs : Nat → Int32} {L d : Nat} {W : zW} {σ : pi_S} (hR : z_CR W σ) {a b : Int32} (hb : ¬ (z_B W.ns a ∧ z_B 3 b))  : pi_wp xs L (d + 9) 79 0 [some (.ref 0), some (.int a), some (.int b), none, none, none, none] [] σ (fun v s => v = some (.int (-2)) ∧ z_CR W s ∧ pi_fr z_CJ s σ) := by
  have hk := hR.k.p.wk
  have hnd8 := hk.wd.nd8
  have hns12 := hk.wd.ns12
  have hn60 := hk.nine
  have hnf := hk.nf
  have hnw := hk.nw
  have hnc := hk.nc
  have hn08 := hk.wd.n0
  have hn140 := hk.wd.n1
  refine pi_ca 4 (m' := 49) (l' := [some (.ref 1), some (.int a)]) (σ' := σ) (pc2 := 8) (l2 := [some (.ref 0), some (.int a), some (.int b), none, none, none, none]) (t := []) (fun f => rfl) (pi_C_hasStreet (hR.k.t.st) (by omega)) ?_
  rintro _ _ (⟨b1, rfl, rfl⟩ | ⟨b1, rfl, rfl⟩)
  · refine pi_cf 1 (c := nI 1 = 0) (pc' := 11) (l' := [some (.ref 0), some (.int a), some (.int b), none, none, none, none]) (st' := []) (σ' := σ) (pc2 := 19) (l2 := [some (.ref 0), some (.int a), some (.int b), none, none, none, none]) (st2 := []) (σ2 := σ) (fun f => rfl) (by decide) ?_
    refine pi_ca 3 (m' := 94) (l' := [some (.int b), some (.int (nI 3))]) (σ' := σ) (pc2 := 16) (l2 := [some (.ref 0), some (.int a), some (.int b), none, none, none, none]) (t := []) (fun f => rfl) (pi_C_belowB (a := b) (n := 3) (by omega)) ?_
    rintro _ _ (⟨b2, rfl, rfl⟩ | ⟨b2, rfl, rfl⟩)
    · refine pi_cf 1 (c := nI 1 = 0) (pc' := 22) (l' := [some (.ref 0), some (.int a), some (.int b), none, none, none, none]) (st' := []) (σ' := σ) (pc2 := 19) (l2 := [some (.ref 0), some (.int a), some (.int b), none, none, none, none]) (st2 := []) (σ2 := σ) (fun f => rfl) (by decide) ?_
      exact (hb ⟨b1, b2⟩).elim
    · refine pi_ct 1 (c := nI 0 = 0) (pc' := 19) (l' := [some (.ref 0), some (.int a), some (.int b), none, none, none, none]) (st' := []) (σ' := σ) (pc2 := 22) (l2 := [some (.ref 0), some (.int a), some (.int b), none, none, none, none]) (st2 := []) (σ2 := σ) (fun f => rfl) (by decide) ?_
      refine pi_rt 2 (v := some (.int (-2))) (σ' := σ) (fun f => rfl) ?_
      exact ⟨rfl, hR, pi_fr_rf⟩
  · refine pi_ct 1 (c := nI 0 = 0) (pc' := 19) (l' := [some (.ref 0), some (.int a), some (.int b), none, none, none, none]) (st' := []) (σ' := σ) (pc2 := 11) (l2 := [some (.ref 0), some (.int a), some (.int b), none, none, none, none]) (st2 := []) (σ2 := σ) (fun f => rfl) (by decide) ?_
    refine pi_rt 2 (v := some (.int (-2))) (σ' := σ) (fun f => rfl) ?_
    exact ⟨rfl, hR, pi_fr_rf⟩
set_option maxRecDepth 20000 in
theorem pi_X_bribe0 {xs : Nat → Int32} {L d : Nat} {W : zW} {σ : pi_S} (hR : z_CR W σ) {st : Nat} (hs : st < W.ns)  : pi_wp xs L (d + 9) 79 0 [some (.ref 0), some (.int (nI st)), some (.int (nI 0)), none, none, none, none] [] σ (fun v s => v = some (.int (z_more W st)) ∧ z_CR W s ∧ pi_fr z_CJ s σ) := by
  have hk := hR.k.p.wk
  have hnd8 := hk.wd.nd8
  have hns12 := hk.wd.ns12
  have hn60 := hk.nine
  have hnf := hk.nf
  have hnw := hk.nw
  have hnc := hk.nc
  have hn08 := hk.wd.n0
  have hn140 := hk.wd.n1
  have hul := hk.wd.us st hs
  refine pi_ca 4 (m' := 49) (l' := [some (.ref 1), some (.int (nI st))]) (σ' := σ) (pc2 := 8) (l2 := [some (.ref 0), some (.int (nI st)), some (.int (nI 0)), none, none, none, none]) (t := []) (fun f => rfl) (pi_C_hasStreetT (hR.k.t.st) (by omega) (by omega)) ?_
  rintro _ _ ⟨rfl, rfl⟩
  refine pi_cf 1 (c := nI 1 = 0) (pc' := 11) (l' := [some (.ref 0), some (.int (nI st)), some (.int (nI 0)), none, none, none, none]) (st' := []) (σ' := σ) (pc2 := 19) (l2 := [some (.ref 0), some (.int (nI st)), some (.int (nI 0)), none, none, none, none]) (st2 := []) (σ2 := σ) (fun f => rfl) (by decide) ?_
  refine pi_ca 3 (m' := 94) (l' := [some (.int (nI 0)), some (.int (nI 3))]) (σ' := σ) (pc2 := 16) (l2 := [some (.ref 0), some (.int (nI st)), some (.int (nI 0)), none, none, none, none]) (t := []) (fun f => rfl) (pi_below1 _ _ (z_BL (by omega) (by omega))) ?_
  rintro _ _ ⟨rfl, rfl⟩
  refine pi_cf 1 (c := nI 1 = 0) (pc' := 22) (l' := [some (.ref 0), some (.int (nI st)), some (.int (nI 0)), none, none, none, none]) (st' := []) (σ' := σ) (pc2 := 19) (l2 := [some (.ref 0), some (.int (nI st)), some (.int (nI 0)), none, none, none, none]) (st2 := []) (σ2 := σ) (fun f => rfl) (by decide) ?_
  refine pi_ai 5 (u := st) (n := 12) (g := σ 7) (pc' := 31) (l' := [some (.ref 0), some (.int (nI st)), some (.int (nI 0)), none, none, none, none]) (t := []) (σ' := σ) (fun f => rfl) (by omega) (by omega) ?_
  refine pi_tp (y := nI (W.up st)) ((hR.k.t.ul st (by omega)).1) ?_
  refine pi_ca 5 (m' := 16) (l' := [some (.ref 33), some (.int (nI (W.up st))), none, none]) (σ' := σ) (pc2 := 40) (l2 := [some (.ref 0), some (.int (nI st)), some (.int (nI 0)), some (.int (nI (W.up st))), none, none, none]) (t := []) (fun f => rfl) (pi_C_fineAt_c hR.k (by omega)) ?_
  rintro _ _ ⟨rfl, rfl⟩
  refine pi_tp (y := z_fine W.rt ((z_A W).1.1.1) (W.up st)) (z_fine_c rfl (hR.b) _) ?_
  refine pi_ai 10 (u := st) (n := 12) (g := σ 8) (pc' := 60) (l' := [some (.ref 0), some (.int (nI st)), some (.int (nI 0)), some (.int (nI (W.up st))), some (.int (z_fine W.rt ((z_A W).1.1.1) (W.up st))), none, none]) (t := [.ref 15, .int (z_fine W.rt ((z_A W).1.1.1) (W.up st))]) (σ' := σ) (fun f => rfl) (by omega) (by omega) ?_
  refine pi_tp (y := nI (W.lo st)) ((hR.k.t.ul st (by omega)).2) ?_
  refine pi_ai 1 (u := W.lo st) (n := 8) (g := σ 15) (pc' := 61) (l' := [some (.ref 0), some (.int (nI st)), some (.int (nI 0)), some (.int (nI (W.up st))), some (.int (z_fine W.rt ((z_A W).1.1.1) (W.up st))), none, none]) (t := [.int (z_fine W.rt ((z_A W).1.1.1) (W.up st))]) (σ' := σ) (fun f => rfl) (by omega) (by omega) ?_
  refine pi_tp (y := W.pr (W.lo st)) ((hR.k.p.pr (W.lo st) (by omega))) ?_
  refine pi_ai 8 (u := W.up st) (n := 8) (g := σ 15) (pc' := 75) (l' := [some (.ref 0), some (.int (nI st)), some (.int (nI 0)), some (.int (nI (W.up st))), some (.int (z_fine W.rt ((z_A W).1.1.1) (W.up st))), some (.int ((z_fine W.rt ((z_A W).1.1.1) (W.up st)) * (W.pr (W.lo st)))), none]) (t := [.int (z_fine W.rt ((z_A W).1.1.1) (W.up st))]) (σ' := σ) (fun f => rfl) (by omega) (by omega) ?_
  refine pi_tp (y := W.pr (W.up st)) ((hR.k.p.pr (W.up st) (by omega))) ?_
  refine pi_cf 5 (c := nI 0 = nI 2) (pc' := 93) (l' := [some (.ref 0), some (.int (nI st)), some (.int (nI 0)), some (.int (nI (W.up st))), some (.int (z_fine W.rt ((z_A W).1.1.1) (W.up st))), some (.int ((z_fine W.rt ((z_A W).1.1.1) (W.up st)) * (W.pr (W.lo st)))), some (.int ((z_fine W.rt ((z_A W).1.1.1) (W.up st)) * (W.pr (W.up st))))]) (st' := []) (σ' := σ) (pc2 := 83) (l2 := [some (.ref 0), some (.int (nI st)), some (.int (nI 0)), some (.int (nI (W.up st))), some (.int (z_fine W.rt ((z_A W).1.1.1) (W.up st))), some (.int ((z_fine W.rt ((z_A W).1.1.1) (W.up st)) * (W.pr (W.lo st)))), some (.int ((z_fine W.rt ((z_A W).1.1.1) (W.up st)) * (W.pr (W.up st))))]) (st2 := []) (σ2 := σ) (fun f => rfl) (by decide) ?_
  refine pi_ct 2 (c := nI 0 = 0) (pc' := 97) (l' := [some (.ref 0), some (.int (nI st)), some (.int (nI 0)), some (.int (nI (W.up st))), some (.int (z_fine W.rt ((z_A W).1.1.1) (W.up st))), some (.int ((z_fine W.rt ((z_A W).1.1.1) (W.up st)) * (W.pr (W.lo st)))), some (.int ((z_fine W.rt ((z_A W).1.1.1) (W.up st)) * (W.pr (W.up st))))]) (st' := []) (σ' := σ) (pc2 := 102) (l2 := [some (.ref 0), some (.int (nI st)), some (.int (nI 0)), some (.int (nI (W.up st))), some (.int (z_fine W.rt ((z_A W).1.1.1) (W.up st))), some (.int ((z_fine W.rt ((z_A W).1.1.1) (W.up st)) * (W.pr (W.lo st)))), some (.int ((z_fine W.rt ((z_A W).1.1.1) (W.up st)) * (W.pr (W.up st))))]) (st2 := []) (σ2 := σ) (fun f => rfl) (by decide) ?_
  refine pi_rt 3 (v := some (.int ((z_fine W.rt ((z_A W).1.1.1) (W.up st)) * (W.pr (W.lo st))))) (σ' := σ) (fun f => rfl) ?_
  exact ⟨rfl, hR, pi_fr_rf⟩
set_option maxRecDepth 20000 in
theorem pi_X_bribe1 {xs : Nat → Int32} {L d : Nat} {W : zW} {σ : pi_S} (hR : z_CR W σ) {st : Nat} (hs : st < W.ns)  : pi_wp xs L (d + 9) 79 0 [some (.ref 0), some (.int (nI st)), some (.int (nI 1)), none, none, none, none] [] σ (fun v s => v = some (.int (z_less W st)) ∧ z_CR W s ∧ pi_fr z_CJ s σ) := by
  have hk := hR.k.p.wk
  have hnd8 := hk.wd.nd8
  have hns12 := hk.wd.ns12
  have hn60 := hk.nine
  have hnf := hk.nf
  have hnw := hk.nw
  have hnc := hk.nc
  have hn08 := hk.wd.n0
  have hn140 := hk.wd.n1
  have hul := hk.wd.us st hs
  refine pi_ca 4 (m' := 49) (l' := [some (.ref 1), some (.int (nI st))]) (σ' := σ) (pc2 := 8) (l2 := [some (.ref 0), some (.int (nI st)), some (.int (nI 1)), none, none, none, none]) (t := []) (fun f => rfl) (pi_C_hasStreetT (hR.k.t.st) (by omega) (by omega)) ?_
  rintro _ _ ⟨rfl, rfl⟩
  refine pi_cf 1 (c := nI 1 = 0) (pc' := 11) (l' := [some (.ref 0), some (.int (nI st)), some (.int (nI 1)), none, none, none, none]) (st' := []) (σ' := σ) (pc2 := 19) (l2 := [some (.ref 0), some (.int (nI st)), some (.int (nI 1)), none, none, none, none]) (st2 := []) (σ2 := σ) (fun f => rfl) (by decide) ?_
  refine pi_ca 3 (m' := 94) (l' := [some (.int (nI 1)), some (.int (nI 3))]) (σ' := σ) (pc2 := 16) (l2 := [some (.ref 0), some (.int (nI st)), some (.int (nI 1)), none, none, none, none]) (t := []) (fun f => rfl) (pi_below1 _ _ (z_BL (by omega) (by omega))) ?_
  rintro _ _ ⟨rfl, rfl⟩
  refine pi_cf 1 (c := nI 1 = 0) (pc' := 22) (l' := [some (.ref 0), some (.int (nI st)), some (.int (nI 1)), none, none, none, none]) (st' := []) (σ' := σ) (pc2 := 19) (l2 := [some (.ref 0), some (.int (nI st)), some (.int (nI 1)), none, none, none, none]) (st2 := []) (σ2 := σ) (fun f => rfl) (by decide) ?_
  refine pi_ai 5 (u := st) (n := 12) (g := σ 7) (pc' := 31) (l' := [some (.ref 0), some (.int (nI st)), some (.int (nI 1)), none, none, none, none]) (t := []) (σ' := σ) (fun f => rfl) (by omega) (by omega) ?_
  refine pi_tp (y := nI (W.up st)) ((hR.k.t.ul st (by omega)).1) ?_
  refine pi_ca 5 (m' := 16) (l' := [some (.ref 33), some (.int (nI (W.up st))), none, none]) (σ' := σ) (pc2 := 40) (l2 := [some (.ref 0), some (.int (nI st)), some (.int (nI 1)), some (.int (nI (W.up st))), none, none, none]) (t := []) (fun f => rfl) (pi_C_fineAt_c hR.k (by omega)) ?_
  rintro _ _ ⟨rfl, rfl⟩
  refine pi_tp (y := z_fine W.rt ((z_A W).1.1.1) (W.up st)) (z_fine_c rfl (hR.b) _) ?_
  refine pi_ai 10 (u := st) (n := 12) (g := σ 8) (pc' := 60) (l' := [some (.ref 0), some (.int (nI st)), some (.int (nI 1)), some (.int (nI (W.up st))), some (.int (z_fine W.rt ((z_A W).1.1.1) (W.up st))), none, none]) (t := [.ref 15, .int (z_fine W.rt ((z_A W).1.1.1) (W.up st))]) (σ' := σ) (fun f => rfl) (by omega) (by omega) ?_
  refine pi_tp (y := nI (W.lo st)) ((hR.k.t.ul st (by omega)).2) ?_
  refine pi_ai 1 (u := W.lo st) (n := 8) (g := σ 15) (pc' := 61) (l' := [some (.ref 0), some (.int (nI st)), some (.int (nI 1)), some (.int (nI (W.up st))), some (.int (z_fine W.rt ((z_A W).1.1.1) (W.up st))), none, none]) (t := [.int (z_fine W.rt ((z_A W).1.1.1) (W.up st))]) (σ' := σ) (fun f => rfl) (by omega) (by omega) ?_
  refine pi_tp (y := W.pr (W.lo st)) ((hR.k.p.pr (W.lo st) (by omega))) ?_
  refine pi_ai 8 (u := W.up st) (n := 8) (g := σ 15) (pc' := 75) (l' := [some (.ref 0), some (.int (nI st)), some (.int (nI 1)), some (.int (nI (W.up st))), some (.int (z_fine W.rt ((z_A W).1.1.1) (W.up st))), some (.int ((z_fine W.rt ((z_A W).1.1.1) (W.up st)) * (W.pr (W.lo st)))), none]) (t := [.int (z_fine W.rt ((z_A W).1.1.1) (W.up st))]) (σ' := σ) (fun f => rfl) (by omega) (by omega) ?_
  refine pi_tp (y := W.pr (W.up st)) ((hR.k.p.pr (W.up st) (by omega))) ?_
  refine pi_cf 5 (c := nI 1 = nI 2) (pc' := 93) (l' := [some (.ref 0), some (.int (nI st)), some (.int (nI 1)), some (.int (nI (W.up st))), some (.int (z_fine W.rt ((z_A W).1.1.1) (W.up st))), some (.int ((z_fine W.rt ((z_A W).1.1.1) (W.up st)) * (W.pr (W.lo st)))), some (.int ((z_fine W.rt ((z_A W).1.1.1) (W.up st)) * (W.pr (W.up st))))]) (st' := []) (σ' := σ) (pc2 := 83) (l2 := [some (.ref 0), some (.int (nI st)), some (.int (nI 1)), some (.int (nI (W.up st))), some (.int (z_fine W.rt ((z_A W).1.1.1) (W.up st))), some (.int ((z_fine W.rt ((z_A W).1.1.1) (W.up st)) * (W.pr (W.lo st)))), some (.int ((z_fine W.rt ((z_A W).1.1.1) (W.up st)) * (W.pr (W.up st))))]) (st2 := []) (σ2 := σ) (fun f => rfl) (by decide) ?_
  refine pi_cf 2 (c := nI 1 = 0) (pc' := 102) (l' := [some (.ref 0), some (.int (nI st)), some (.int (nI 1)), some (.int (nI (W.up st))), some (.int (z_fine W.rt ((z_A W).1.1.1) (W.up st))), some (.int ((z_fine W.rt ((z_A W).1.1.1) (W.up st)) * (W.pr (W.lo st)))), some (.int ((z_fine W.rt ((z_A W).1.1.1) (W.up st)) * (W.pr (W.up st))))]) (st' := []) (σ' := σ) (pc2 := 97) (l2 := [some (.ref 0), some (.int (nI st)), some (.int (nI 1)), some (.int (nI (W.up st))), some (.int (z_fine W.rt ((z_A W).1.1.1) (W.up st))), some (.int ((z_fine W.rt ((z_A W).1.1.1) (W.up st)) * (W.pr (W.lo st)))), some (.int ((z_fine W.rt ((z_A W).1.1.1) (W.up st)) * (W.pr (W.up st))))]) (st2 := []) (σ2 := σ) (fun f => rfl) (by decide) ?_
  refine pi_rt 2 (v := some (.int ((z_fine W.rt ((z_A W).1.1.1) (W.up st)) * (W.pr (W.up st))))) (σ' := σ) (fun f => rfl) ?_
  exact ⟨rfl, hR, pi_fr_rf⟩
set_option maxRecDepth 20000 in
theorem pi_X_bribe2 {xs : Nat → Int32} {L d : Nat} {W : zW} {σ : pi_S} (hR : z_CR W σ) {st : Nat} (hs : st < W.ns)  : pi_wp xs L (d + 9) 79 0 [some (.ref 0), some (.int (nI st)), some (.int (nI 2)), none, none, none, none] [] σ (fun v s => v = some (.int (z_br W st)) ∧ z_CR W s ∧ pi_fr z_CJ s σ) := by
  have hk := hR.k.p.wk
  have hnd8 := hk.wd.nd8
  have hns12 := hk.wd.ns12
  have hn60 := hk.nine
  have hnf := hk.nf
  have hnw := hk.nw
  have hnc := hk.nc
  have hn08 := hk.wd.n0
  have hn140 := hk.wd.n1
  have hul := hk.wd.us st hs
  refine pi_ca 4 (m' := 49) (l' := [some (.ref 1), some (.int (nI st))]) (σ' := σ) (pc2 := 8) (l2 := [some (.ref 0), some (.int (nI st)), some (.int (nI 2)), none, none, none, none]) (t := []) (fun f => rfl) (pi_C_hasStreetT (hR.k.t.st) (by omega) (by omega)) ?_
  rintro _ _ ⟨rfl, rfl⟩
  refine pi_cf 1 (c := nI 1 = 0) (pc' := 11) (l' := [some (.ref 0), some (.int (nI st)), some (.int (nI 2)), none, none, none, none]) (st' := []) (σ' := σ) (pc2 := 19) (l2 := [some (.ref 0), some (.int (nI st)), some (.int (nI 2)), none, none, none, none]) (st2 := []) (σ2 := σ) (fun f => rfl) (by decide) ?_
  refine pi_ca 3 (m' := 94) (l' := [some (.int (nI 2)), some (.int (nI 3))]) (σ' := σ) (pc2 := 16) (l2 := [some (.ref 0), some (.int (nI st)), some (.int (nI 2)), none, none, none, none]) (t := []) (fun f => rfl) (pi_below1 _ _ (z_BL (by omega) (by omega))) ?_
  rintro _ _ ⟨rfl, rfl⟩
  refine pi_cf 1 (c := nI 1 = 0) (pc' := 22) (l' := [some (.ref 0), some (.int (nI st)), some (.int (nI 2)), none, none, none, none]) (st' := []) (σ' := σ) (pc2 := 19) (l2 := [some (.ref 0), some (.int (nI st)), some (.int (nI 2)), none, none, none, none]) (st2 := []) (σ2 := σ) (fun f => rfl) (by decide) ?_
  refine pi_ai 5 (u := st) (n := 12) (g := σ 7) (pc' := 31) (l' := [some (.ref 0), some (.int (nI st)), some (.int (nI 2)), none, none, none, none]) (t := []) (σ' := σ) (fun f => rfl) (by omega) (by omega) ?_
  refine pi_tp (y := nI (W.up st)) ((hR.k.t.ul st (by omega)).1) ?_
  refine pi_ca 5 (m' := 16) (l' := [some (.ref 33), some (.int (nI (W.up st))), none, none]) (σ' := σ) (pc2 := 40) (l2 := [some (.ref 0), some (.int (nI st)), some (.int (nI 2)), some (.int (nI (W.up st))), none, none, none]) (t := []) (fun f => rfl) (pi_C_fineAt_c hR.k (by omega)) ?_
  rintro _ _ ⟨rfl, rfl⟩
  refine pi_tp (y := z_fine W.rt ((z_A W).1.1.1) (W.up st)) (z_fine_c rfl (hR.b) _) ?_
  refine pi_ai 10 (u := st) (n := 12) (g := σ 8) (pc' := 60) (l' := [some (.ref 0), some (.int (nI st)), some (.int (nI 2)), some (.int (nI (W.up st))), some (.int (z_fine W.rt ((z_A W).1.1.1) (W.up st))), none, none]) (t := [.ref 15, .int (z_fine W.rt ((z_A W).1.1.1) (W.up st))]) (σ' := σ) (fun f => rfl) (by omega) (by omega) ?_
  refine pi_tp (y := nI (W.lo st)) ((hR.k.t.ul st (by omega)).2) ?_
  refine pi_ai 1 (u := W.lo st) (n := 8) (g := σ 15) (pc' := 61) (l' := [some (.ref 0), some (.int (nI st)), some (.int (nI 2)), some (.int (nI (W.up st))), some (.int (z_fine W.rt ((z_A W).1.1.1) (W.up st))), none, none]) (t := [.int (z_fine W.rt ((z_A W).1.1.1) (W.up st))]) (σ' := σ) (fun f => rfl) (by omega) (by omega) ?_
  refine pi_tp (y := W.pr (W.lo st)) ((hR.k.p.pr (W.lo st) (by omega))) ?_
  refine pi_ai 8 (u := W.up st) (n := 8) (g := σ 15) (pc' := 75) (l' := [some (.ref 0), some (.int (nI st)), some (.int (nI 2)), some (.int (nI (W.up st))), some (.int (z_fine W.rt ((z_A W).1.1.1) (W.up st))), some (.int ((z_fine W.rt ((z_A W).1.1.1) (W.up st)) * (W.pr (W.lo st)))), none]) (t := [.int (z_fine W.rt ((z_A W).1.1.1) (W.up st))]) (σ' := σ) (fun f => rfl) (by omega) (by omega) ?_
  refine pi_tp (y := W.pr (W.up st)) ((hR.k.p.pr (W.up st) (by omega))) ?_
  refine pi_ct 5 (c := nI 2 = nI 2) (pc' := 83) (l' := [some (.ref 0), some (.int (nI st)), some (.int (nI 2)), some (.int (nI (W.up st))), some (.int (z_fine W.rt ((z_A W).1.1.1) (W.up st))), some (.int ((z_fine W.rt ((z_A W).1.1.1) (W.up st)) * (W.pr (W.lo st)))), some (.int ((z_fine W.rt ((z_A W).1.1.1) (W.up st)) * (W.pr (W.up st))))]) (st' := []) (σ' := σ) (pc2 := 93) (l2 := [some (.ref 0), some (.int (nI st)), some (.int (nI 2)), some (.int (nI (W.up st))), some (.int (z_fine W.rt ((z_A W).1.1.1) (W.up st))), some (.int ((z_fine W.rt ((z_A W).1.1.1) (W.up st)) * (W.pr (W.lo st)))), some (.int ((z_fine W.rt ((z_A W).1.1.1) (W.up st)) * (W.pr (W.up st))))]) (st2 := []) (σ2 := σ) (fun f => rfl) (by decide) ?_
  refine pi_go 5 (pc' := 92) (l' := [some (.ref 0), some (.int (nI st)), some (.int (nI 2)), some (.int (nI (W.up st))), some (.int (z_fine W.rt ((z_A W).1.1.1) (W.up st))), some (.int ((z_fine W.rt ((z_A W).1.1.1) (W.up st)) * (W.pr (W.lo st)))), some (.int ((z_fine W.rt ((z_A W).1.1.1) (W.up st)) * (W.pr (W.up st))))]) (st' := [.int (if ((z_fine W.rt ((z_A W).1.1.1) (W.up st)) * (W.pr (W.lo st))) - ((z_fine W.rt ((z_A W).1.1.1) (W.up st)) * (W.pr (W.up st))) < nI 0 then nI 0 else ((z_fine W.rt ((z_A W).1.1.1) (W.up st)) * (W.pr (W.lo st))) - ((z_fine W.rt ((z_A W).1.1.1) (W.up st)) * (W.pr (W.up st))))]) (σ' := σ) (fun f => rfl) ?_
  refine pi_tp (y := z_br W st) (z_br_max hk hs) ?_
  refine pi_rt 1 (v := some (.int (z_br W st))) (σ' := σ) (fun f => rfl) ?_
  exact ⟨rfl, hR, pi_fr_rf⟩
theorem z_or0 (a : Int32) : a ||| nI 0 = a := Int32.or_zero
set_option maxRecDepth 20000 in
theorem pi_X_rests {xs : Nat → Int32} {L d : Nat} {W : zW} {σ : pi_S} (hR : z_CR W σ)   : pi_wp xs L (d + 10) 80 0 [some (.ref 0), none, none] [] σ (fun v s => v = some (.int (z_rests W W.ns)) ∧ z_CR W s ∧ pi_fr z_CJ s σ) := by
  have hk := hR.k.p.wk
  have hnd8 := hk.wd.nd8
  have hns12 := hk.wd.ns12
  have hn60 := hk.nine
  have hnf := hk.nf
  have hnw := hk.nw
  have hnc := hk.nc
  have hn08 := hk.wd.n0
  have hn140 := hk.wd.n1
  refine pi_go 4 (pc' := 4) (l' := [some (.ref 0), some (.int (nI 0)), some (.int (nI 0))]) (st' := []) (σ' := σ) (fun f => rfl) ?_
  suffices hl1 : ∀ i, i ≤ W.ns → ∀ (z1 : pi_S), pi_fr z_CJ z1 σ → z_CR W z1 → pi_wp xs L (d + 10) 80 4 [some (.ref 0), some (.int (z_rests W i)), some (.int (nI i))] [] z1 (fun v s => v = some (.int (z_rests W W.ns)) ∧ z_CR W s ∧ pi_fr z_CJ s σ) from hl1 0 (by omega) _ (pi_fr_rf) (hR)
  refine pi_lp0 ?_ ?_
  · intro z1 hrz1 hx1
    refine pi_go 4 (pc' := 12) (l' := [some (.ref 0), some (.int (z_rests W W.ns)), some (.int (nI W.ns))]) (st' := [.int (z1 1 9), .int (nI W.ns)]) (σ' := z1) (fun f => rfl) ?_
    refine pi_tp (y := nI W.ns) ((congrFun (hrz1 1 (by decide)) 9).trans (hR.k.t.st)) ?_
    refine pi_ct 1 (c := nI W.ns ≤ nI W.ns) (pc' := 36) (l' := [some (.ref 0), some (.int (z_rests W W.ns)), some (.int (nI W.ns))]) (st' := []) (σ' := z1) (pc2 := 15) (l2 := [some (.ref 0), some (.int (z_rests W W.ns)), some (.int (nI W.ns))]) (st2 := []) (σ2 := z1) (fun f => rfl) ((show nI W.ns ≤ nI W.ns ↔ _ from nI_leI (by omega) (by omega)).mpr (by omega)) ?_
    refine pi_rt 2 (v := some (.int (z_rests W W.ns))) (σ' := z1) (fun f => rfl) ?_
    exact ⟨rfl, hx1, pi_fr_tr hrz1 (by decide) (pi_fr_rf)⟩
  · intro i hi1 ih1 z1 hrz1 hx1
    refine pi_go 4 (pc' := 12) (l' := [some (.ref 0), some (.int (z_rests W i)), some (.int (nI i))]) (st' := [.int (z1 1 9), .int (nI i)]) (σ' := z1) (fun f => rfl) ?_
    refine pi_tp (y := nI W.ns) ((congrFun (hrz1 1 (by decide)) 9).trans (hR.k.t.st)) ?_
    refine pi_cf 1 (c := nI W.ns ≤ nI i) (pc' := 15) (l' := [some (.ref 0), some (.int (z_rests W i)), some (.int (nI i))]) (st' := []) (σ' := z1) (pc2 := 36) (l2 := [some (.ref 0), some (.int (z_rests W i)), some (.int (nI i))]) (st2 := []) (σ2 := z1) (fun f => rfl) (fun zq => absurd ((show nI W.ns ≤ nI i ↔ _ from nI_leI (by omega) (by omega)).mp zq) (by omega)) ?_
    refine pi_ca 4 (m' := 79) (l' := [some (.ref 0), some (.int (nI i)), some (.int (nI 2)), none, none, none, none]) (σ' := z1) (pc2 := 21) (l2 := [some (.ref 0), some (.int (z_rests W i)), some (.int (nI i))]) (t := []) (fun f => rfl) (pi_X_bribe2 hx1 (by omega)) ?_
    rintro _ t2 ⟨rfl, gt2, rt2⟩
    refine pi_if 1 (c := z_br W i = 0) (pc' := 24) (l' := [some (.ref 0), some (.int (z_rests W i)), some (.int (nI i))]) (st' := []) (σ' := t2) (pc2 := 30) (l2 := [some (.ref 0), some (.int (z_rests W i)), some (.int (nI i))]) (st2 := []) (σ2 := t2) (fun f => rfl) (fun h1 => ?_) (fun h1 => ?_)
    · refine pi_go 7 (pc' := 33) (l' := [some (.ref 0), some (.int ((z_rests W i) ||| ((nI 1) <<< (nI i &&& 31)))), some (.int (nI i + nI 1))]) (st' := []) (σ' := t2) (fun f => rfl) ?_
      rw [show nI i + nI 1 = nI (i + 1) from nI_add _ 1]
      refine pi_go 1 (pc' := 4) (l' := [some (.ref 0), some (.int ((z_rests W i) ||| ((nI 1) <<< (nI i &&& 31)))), some (.int (nI (i + 1)))]) (st' := []) (σ' := t2) (fun f => rfl) ?_
      rw [show some (Value.int ((z_rests W i) ||| ((nI 1) <<< (nI i &&& 31)))) = some (Value.int (z_rests W (i + 1))) from congrArg (fun z => some (Value.int z)) (by rw [z_rests_s, if_pos h1])]
      exact ih1 _ (pi_fr_tr rt2 (by decide) (pi_fr_tr hrz1 (by decide) (pi_fr_rf))) (gt2)
    · refine pi_go 1 (pc' := 33) (l' := [some (.ref 0), some (.int (z_rests W i)), some (.int (nI i + nI 1))]) (st' := []) (σ' := t2) (fun f => rfl) ?_
      rw [show nI i + nI 1 = nI (i + 1) from nI_add _ 1]
      refine pi_go 1 (pc' := 4) (l' := [some (.ref 0), some (.int (z_rests W i)), some (.int (nI (i + 1)))]) (st' := []) (σ' := t2) (fun f => rfl) ?_
      rw [show some (Value.int (z_rests W i)) = some (Value.int (z_rests W (i + 1))) from congrArg (fun z => some (Value.int z)) (by rw [z_rests_s, if_neg h1]; exact (z_or0 _).symm)]
      exact ih1 _ (pi_fr_tr rt2 (by decide) (pi_fr_tr hrz1 (by decide) (pi_fr_rf))) (gt2)
theorem z_gX {t g : Nat} (h : Nat.gcd t 16 = g) (a : Nat) : a / g = a / Nat.gcd t 16 := by rw [h]
set_option maxRecDepth 20000 in
theorem pi_X_odds_bad {xs : Nat → Int32} {L d : Nat} {W : zW} {σ : pi_S} (hR : z_CR W σ) {a b : Int32} (hb : ¬ (z_B 17 a ∧ z_B 2 b))  : pi_wp xs L (d + 9) 81 0 [some (.ref 0), some (.int a), some (.int b), none, none] [] σ (fun v s => v = some (.long (Int64.ofNat 9223372036854775810)) ∧ z_CR W s ∧ pi_fr z_CJ s σ) := by
  have hk := hR.k.p.wk
  have hnd8 := hk.wd.nd8
  have hns12 := hk.wd.ns12
  have hn60 := hk.nine
  have hnf := hk.nf
  have hnw := hk.nw
  have hnc := hk.nc
  have hn08 := hk.wd.n0
  have hn140 := hk.wd.n1
  refine pi_ca 3 (m' := 94) (l' := [some (.int a), some (.int (nI 17))]) (σ' := σ) (pc2 := 6) (l2 := [some (.ref 0), some (.int a), some (.int b), none, none]) (t := []) (fun f => rfl) (pi_C_belowB (a := a) (n := 17) (by omega)) ?_
  rintro _ _ (⟨b1, rfl, rfl⟩ | ⟨b1, rfl, rfl⟩)
  · refine pi_cf 1 (c := nI 1 = 0) (pc' := 9) (l' := [some (.ref 0), some (.int a), some (.int b), none, none]) (st' := []) (σ' := σ) (pc2 := 17) (l2 := [some (.ref 0), some (.int a), some (.int b), none, none]) (st2 := []) (σ2 := σ) (fun f => rfl) (by decide) ?_
    refine pi_ca 3 (m' := 94) (l' := [some (.int b), some (.int (nI 2))]) (σ' := σ) (pc2 := 14) (l2 := [some (.ref 0), some (.int a), some (.int b), none, none]) (t := []) (fun f => rfl) (pi_C_belowB (a := b) (n := 2) (by omega)) ?_
    rintro _ _ (⟨b2, rfl, rfl⟩ | ⟨b2, rfl, rfl⟩)
    · refine pi_cf 1 (c := nI 1 = 0) (pc' := 21) (l' := [some (.ref 0), some (.int a), some (.int b), none, none]) (st' := []) (σ' := σ) (pc2 := 17) (l2 := [some (.ref 0), some (.int a), some (.int b), none, none]) (st2 := []) (σ2 := σ) (fun f => rfl) (by decide) ?_
      exact (hb ⟨b1, b2⟩).elim
    · refine pi_ct 1 (c := nI 0 = 0) (pc' := 17) (l' := [some (.ref 0), some (.int a), some (.int b), none, none]) (st' := []) (σ' := σ) (pc2 := 21) (l2 := [some (.ref 0), some (.int a), some (.int b), none, none]) (st2 := []) (σ2 := σ) (fun f => rfl) (by decide) ?_
      refine pi_rt 2 (v := some (.long (Int64.ofNat 9223372036854775810))) (σ' := σ) (fun f => rfl) ?_
      exact ⟨rfl, hR, pi_fr_rf⟩
  · refine pi_ct 1 (c := nI 0 = 0) (pc' := 17) (l' := [some (.ref 0), some (.int a), some (.int b), none, none]) (st' := []) (σ' := σ) (pc2 := 9) (l2 := [some (.ref 0), some (.int a), some (.int b), none, none]) (st2 := []) (σ2 := σ) (fun f => rfl) (by decide) ?_
    refine pi_rt 2 (v := some (.long (Int64.ofNat 9223372036854775810))) (σ' := σ) (fun f => rfl) ?_
    exact ⟨rfl, hR, pi_fr_rf⟩
set_option maxRecDepth 20000 in
theorem pi_X_odds0 {xs : Nat → Int32} {L d : Nat} {W : zW} {σ : pi_S} (hR : z_CR W σ) {x t : Nat} (hx : x < 17) (hmean : z_mean W (nI x) (-1) = nI t) (ht30 : t < 2 ^ 30)  : pi_wp xs L (d + 9) 81 0 [some (.ref 0), some (.int (nI x)), some (.int (nI 0)), none, none] [] σ (fun v s => v = some (.long (nL (t / Nat.gcd t 16))) ∧ z_CR W s ∧ pi_fr z_CJ s σ) := by
  have hk := hR.k.p.wk
  have hnd8 := hk.wd.nd8
  have hns12 := hk.wd.ns12
  have hn60 := hk.nine
  have hnf := hk.nf
  have hnw := hk.nw
  have hnc := hk.nc
  have hn08 := hk.wd.n0
  have hn140 := hk.wd.n1
  refine pi_ca 3 (m' := 94) (l' := [some (.int (nI x)), some (.int (nI 17))]) (σ' := σ) (pc2 := 6) (l2 := [some (.ref 0), some (.int (nI x)), some (.int (nI 0)), none, none]) (t := []) (fun f => rfl) (pi_below1 _ _ (z_BL (by omega) (by omega))) ?_
  rintro _ _ ⟨rfl, rfl⟩
  refine pi_cf 1 (c := nI 1 = 0) (pc' := 9) (l' := [some (.ref 0), some (.int (nI x)), some (.int (nI 0)), none, none]) (st' := []) (σ' := σ) (pc2 := 17) (l2 := [some (.ref 0), some (.int (nI x)), some (.int (nI 0)), none, none]) (st2 := []) (σ2 := σ) (fun f => rfl) (by decide) ?_
  refine pi_ca 3 (m' := 94) (l' := [some (.int (nI 0)), some (.int (nI 2))]) (σ' := σ) (pc2 := 14) (l2 := [some (.ref 0), some (.int (nI x)), some (.int (nI 0)), none, none]) (t := []) (fun f => rfl) (pi_below1 _ _ (z_BL (by omega) (by omega))) ?_
  rintro _ _ ⟨rfl, rfl⟩
  refine pi_cf 1 (c := nI 1 = 0) (pc' := 21) (l' := [some (.ref 0), some (.int (nI x)), some (.int (nI 0)), none, none]) (st' := []) (σ' := σ) (pc2 := 17) (l2 := [some (.ref 0), some (.int (nI x)), some (.int (nI 0)), none, none]) (st2 := []) (σ2 := σ) (fun f => rfl) (by decide) ?_
  refine pi_go 6 (pc' := 33) (l' := [some (.ref 0), some (.int (nI x)), some (.int (nI 0)), none, none]) (st' := [.int (σ 22 5), .int (nI x), .ref 0]) (σ' := σ) (fun f => rfl) ?_
  refine pi_tp (y := nI W.nw) (hR.k.p.nw) ?_
  refine pi_ca 1 (m' := 99) (l' := [some (.ref 0), some (.int (nI x)), some (.int (nI W.nw)), none, none]) (σ' := σ) (pc2 := 36) (l2 := [some (.ref 0), some (.int (nI x)), some (.int (nI 0)), none, none]) (t := []) (fun f => rfl) (pi_C_meanA hR (nI x)) ?_
  rintro _ t1 ⟨rfl, gt1, rt1⟩
  rw [hmean]
  refine pi_cf 6 (c := nI 16 ≤ nI 1) (pc' := 47) (l' := [some (.ref 0), some (.int (nI x)), some (.int (nI 0)), some (.int (nI t)), some (.int (nI 16))]) (st' := []) (σ' := t1) (pc2 := 66) (l2 := [some (.ref 0), some (.int (nI x)), some (.int (nI 0)), some (.int (nI t)), some (.int (nI 16))]) (st2 := []) (σ2 := t1) (fun f => rfl) (by decide) ?_
  refine pi_gn 3 (c := nI 2 = 0) (pc' := 50) (l' := [some (.ref 0), some (.int (nI x)), some (.int (nI 0)), some (.int (nI t)), some (.int (nI 16))]) (st' := [.int ((nI t) - (nI t) / (nI 2) * (nI 2))]) (σ' := t1) (fun f => rfl) (by decide) ?_
  refine pi_tp (y := nI (t % 2)) (pk_rem (by omega) (by omega) (by omega)) ?_
  refine pi_if 1 (c := nI (t % 2) = 0) (pc' := 53) (l' := [some (.ref 0), some (.int (nI x)), some (.int (nI 0)), some (.int (nI t)), some (.int (nI 16))]) (st' := []) (σ' := t1) (pc2 := 66) (l2 := [some (.ref 0), some (.int (nI x)), some (.int (nI 0)), some (.int (nI t)), some (.int (nI 16))]) (st2 := []) (σ2 := t1) (fun f => rfl) (fun h1 => ?_) (fun h1 => ?_)
  · replace h1 : (t % 2) = 0 := (show nI (t % 2) = nI 0 ↔ _ from nI_eq (by omega) (by omega)).mp h1
    refine pi_gn 3 (c := nI 2 = 0) (pc' := 56) (l' := [some (.ref 0), some (.int (nI x)), some (.int (nI 0)), some (.int (nI t)), some (.int (nI 16))]) (st' := [.int ((nI t) / (nI 2))]) (σ' := t1) (fun f => rfl) (by decide) ?_
    refine pi_tp (y := nI (t / 2)) (pk_div (by omega) (by omega) (by omega)) ?_
    refine pi_gn 4 (c := nI 2 = 0) (pc' := 61) (l' := [some (.ref 0), some (.int (nI x)), some (.int (nI 0)), some (.int (nI (t / 2))), some (.int (nI 16))]) (st' := [.int ((nI 16) / (nI 2))]) (σ' := t1) (fun f => rfl) (by decide) ?_
    refine pi_tp (y := nI 8) (pk_div (by omega) (by omega) (by omega)) ?_
    refine pi_cf 5 (c := nI 8 ≤ nI 1) (pc' := 47) (l' := [some (.ref 0), some (.int (nI x)), some (.int (nI 0)), some (.int (nI (t / 2))), some (.int (nI 8))]) (st' := []) (σ' := t1) (pc2 := 66) (l2 := [some (.ref 0), some (.int (nI x)), some (.int (nI 0)), some (.int (nI (t / 2))), some (.int (nI 8))]) (st2 := []) (σ2 := t1) (fun f => rfl) (by decide) ?_
    refine pi_gn 3 (c := nI 2 = 0) (pc' := 50) (l' := [some (.ref 0), some (.int (nI x)), some (.int (nI 0)), some (.int (nI (t / 2))), some (.int (nI 8))]) (st' := [.int ((nI (t / 2)) - (nI (t / 2)) / (nI 2) * (nI 2))]) (σ' := t1) (fun f => rfl) (by decide) ?_
    refine pi_tp (y := nI ((t / 2) % 2)) (pk_rem (by omega) (by omega) (by omega)) ?_
    refine pi_if 1 (c := nI ((t / 2) % 2) = 0) (pc' := 53) (l' := [some (.ref 0), some (.int (nI x)), some (.int (nI 0)), some (.int (nI (t / 2))), some (.int (nI 8))]) (st' := []) (σ' := t1) (pc2 := 66) (l2 := [some (.ref 0), some (.int (nI x)), some (.int (nI 0)), some (.int (nI (t / 2))), some (.int (nI 8))]) (st2 := []) (σ2 := t1) (fun f => rfl) (fun h2 => ?_) (fun h2 => ?_)
    · replace h2 : ((t / 2) % 2) = 0 := (show nI ((t / 2) % 2) = nI 0 ↔ _ from nI_eq (by omega) (by omega)).mp h2
      refine pi_gn 3 (c := nI 2 = 0) (pc' := 56) (l' := [some (.ref 0), some (.int (nI x)), some (.int (nI 0)), some (.int (nI (t / 2))), some (.int (nI 8))]) (st' := [.int ((nI (t / 2)) / (nI 2))]) (σ' := t1) (fun f => rfl) (by decide) ?_
      refine pi_tp (y := nI ((t / 2) / 2)) (pk_div (by omega) (by omega) (by omega)) ?_
      refine pi_gn 4 (c := nI 2 = 0) (pc' := 61) (l' := [some (.ref 0), some (.int (nI x)), some (.int (nI 0)), some (.int (nI ((t / 2) / 2))), some (.int (nI 8))]) (st' := [.int ((nI 8) / (nI 2))]) (σ' := t1) (fun f => rfl) (by decide) ?_
      refine pi_tp (y := nI 4) (pk_div (by omega) (by omega) (by omega)) ?_
      refine pi_cf 5 (c := nI 4 ≤ nI 1) (pc' := 47) (l' := [some (.ref 0), some (.int (nI x)), some (.int (nI 0)), some (.int (nI ((t / 2) / 2))), some (.int (nI 4))]) (st' := []) (σ' := t1) (pc2 := 66) (l2 := [some (.ref 0), some (.int (nI x)), some (.int (nI 0)), some (.int (nI ((t / 2) / 2))), some (.int (nI 4))]) (st2 := []) (σ2 := t1) (fun f => rfl) (by decide) ?_
      refine pi_gn 3 (c := nI 2 = 0) (pc' := 50) (l' := [some (.ref 0), some (.int (nI x)), some (.int (nI 0)), some (.int (nI ((t / 2) / 2))), some (.int (nI 4))]) (st' := [.int ((nI ((t / 2) / 2)) - (nI ((t / 2) / 2)) / (nI 2) * (nI 2))]) (σ' := t1) (fun f => rfl) (by decide) ?_
      refine pi_tp (y := nI (((t / 2) / 2) % 2)) (pk_rem (by omega) (by omega) (by omega)) ?_
      refine pi_if 1 (c := nI (((t / 2) / 2) % 2) = 0) (pc' := 53) (l' := [some (.ref 0), some (.int (nI x)), some (.int (nI 0)), some (.int (nI ((t / 2) / 2))), some (.int (nI 4))]) (st' := []) (σ' := t1) (pc2 := 66) (l2 := [some (.ref 0), some (.int (nI x)), some (.int (nI 0)), some (.int (nI ((t / 2) / 2))), some (.int (nI 4))]) (st2 := []) (σ2 := t1) (fun f => rfl) (fun h3 => ?_) (fun h3 => ?_)
      · replace h3 : (((t / 2) / 2) % 2) = 0 := (show nI (((t / 2) / 2) % 2) = nI 0 ↔ _ from nI_eq (by omega) (by omega)).mp h3
        refine pi_gn 3 (c := nI 2 = 0) (pc' := 56) (l' := [some (.ref 0), some (.int (nI x)), some (.int (nI 0)), some (.int (nI ((t / 2) / 2))), some (.int (nI 4))]) (st' := [.int ((nI ((t / 2) / 2)) / (nI 2))]) (σ' := t1) (fun f => rfl) (by decide) ?_
        refine pi_tp (y := nI (((t / 2) / 2) / 2)) (pk_div (by omega) (by omega) (by omega)) ?_
        refine pi_gn 4 (c := nI 2 = 0) (pc' := 61) (l' := [some (.ref 0), some (.int (nI x)), some (.int (nI 0)), some (.int (nI (((t / 2) / 2) / 2))), some (.int (nI 4))]) (st' := [.int ((nI 4) / (nI 2))]) (σ' := t1) (fun f => rfl) (by decide) ?_
        refine pi_tp (y := nI 2) (pk_div (by omega) (by omega) (by omega)) ?_
        refine pi_cf 5 (c := nI 2 ≤ nI 1) (pc' := 47) (l' := [some (.ref 0), some (.int (nI x)), some (.int (nI 0)), some (.int (nI (((t / 2) / 2) / 2))), some (.int (nI 2))]) (st' := []) (σ' := t1) (pc2 := 66) (l2 := [some (.ref 0), some (.int (nI x)), some (.int (nI 0)), some (.int (nI (((t / 2) / 2) / 2))), some (.int (nI 2))]) (st2 := []) (σ2 := t1) (fun f => rfl) (by decide) ?_
        refine pi_gn 3 (c := nI 2 = 0) (pc' := 50) (l' := [some (.ref 0), some (.int (nI x)), some (.int (nI 0)), some (.int (nI (((t / 2) / 2) / 2))), some (.int (nI 2))]) (st' := [.int ((nI (((t / 2) / 2) / 2)) - (nI (((t / 2) / 2) / 2)) / (nI 2) * (nI 2))]) (σ' := t1) (fun f => rfl) (by decide) ?_
        refine pi_tp (y := nI ((((t / 2) / 2) / 2) % 2)) (pk_rem (by omega) (by omega) (by omega)) ?_
        refine pi_if 1 (c := nI ((((t / 2) / 2) / 2) % 2) = 0) (pc' := 53) (l' := [some (.ref 0), some (.int (nI x)), some (.int (nI 0)), some (.int (nI (((t / 2) / 2) / 2))), some (.int (nI 2))]) (st' := []) (σ' := t1) (pc2 := 66) (l2 := [some (.ref 0), some (.int (nI x)), some (.int (nI 0)), some (.int (nI (((t / 2) / 2) / 2))), some (.int (nI 2))]) (st2 := []) (σ2 := t1) (fun f => rfl) (fun h4 => ?_) (fun h4 => ?_)
        · replace h4 : ((((t / 2) / 2) / 2) % 2) = 0 := (show nI ((((t / 2) / 2) / 2) % 2) = nI 0 ↔ _ from nI_eq (by omega) (by omega)).mp h4
          refine pi_gn 3 (c := nI 2 = 0) (pc' := 56) (l' := [some (.ref 0), some (.int (nI x)), some (.int (nI 0)), some (.int (nI (((t / 2) / 2) / 2))), some (.int (nI 2))]) (st' := [.int ((nI (((t / 2) / 2) / 2)) / (nI 2))]) (σ' := t1) (fun f => rfl) (by decide) ?_
          refine pi_tp (y := nI ((((t / 2) / 2) / 2) / 2)) (pk_div (by omega) (by omega) (by omega)) ?_
          refine pi_gn 4 (c := nI 2 = 0) (pc' := 61) (l' := [some (.ref 0), some (.int (nI x)), some (.int (nI 0)), some (.int (nI ((((t / 2) / 2) / 2) / 2))), some (.int (nI 2))]) (st' := [.int ((nI 2) / (nI 2))]) (σ' := t1) (fun f => rfl) (by decide) ?_
          refine pi_tp (y := nI 1) (pk_div (by omega) (by omega) (by omega)) ?_
          refine pi_ct 5 (c := nI 1 ≤ nI 1) (pc' := 66) (l' := [some (.ref 0), some (.int (nI x)), some (.int (nI 0)), some (.int (nI ((((t / 2) / 2) / 2) / 2))), some (.int (nI 1))]) (st' := []) (σ' := t1) (pc2 := 47) (l2 := [some (.ref 0), some (.int (nI x)), some (.int (nI 0)), some (.int (nI ((((t / 2) / 2) / 2) / 2))), some (.int (nI 1))]) (st2 := []) (σ2 := t1) (fun f => rfl) (by decide) ?_
          refine pi_ct 2 (c := nI 0 = 0) (pc' := 70) (l' := [some (.ref 0), some (.int (nI x)), some (.int (nI 0)), some (.int (nI ((((t / 2) / 2) / 2) / 2))), some (.int (nI 1))]) (st' := []) (σ' := t1) (pc2 := 75) (l2 := [some (.ref 0), some (.int (nI x)), some (.int (nI 0)), some (.int (nI ((((t / 2) / 2) / 2) / 2))), some (.int (nI 1))]) (st2 := []) (σ2 := t1) (fun f => rfl) (by decide) ?_
          refine pi_rt 4 (v := some (.long (Int32.toInt64 (nI ((((t / 2) / 2) / 2) / 2))))) (σ' := t1) (fun f => rfl) ?_
          have hg : Nat.gcd t 16 = 16 := by rw [z_gt16, if_pos h1, if_pos h2, if_pos h3, if_pos h4]
          exact ⟨congrArg (fun z => some (Value.long z)) (show _ = nL (t / Nat.gcd t 16) from (nL_i2l (by omega)).trans (congrArg nL (by rw [hg] <;> omega))), gt1, pi_fr_tr rt1 (by decide) (pi_fr_rf)⟩
        · replace h4 : ¬ (((((t / 2) / 2) / 2) % 2) = 0) := fun zq => h4 ((show nI ((((t / 2) / 2) / 2) % 2) = nI 0 ↔ _ from nI_eq (by omega) (by omega)).mpr zq)
          refine pi_ct 2 (c := nI 0 = 0) (pc' := 70) (l' := [some (.ref 0), some (.int (nI x)), some (.int (nI 0)), some (.int (nI (((t / 2) / 2) / 2))), some (.int (nI 2))]) (st' := []) (σ' := t1) (pc2 := 75) (l2 := [some (.ref 0), some (.int (nI x)), some (.int (nI 0)), some (.int (nI (((t / 2) / 2) / 2))), some (.int (nI 2))]) (st2 := []) (σ2 := t1) (fun f => rfl) (by decide) ?_
          refine pi_rt 4 (v := some (.long (Int32.toInt64 (nI (((t / 2) / 2) / 2))))) (σ' := t1) (fun f => rfl) ?_
          have hg : Nat.gcd t 16 = 8 := by rw [z_gt16, if_pos h1, if_pos h2, if_pos h3, if_neg h4]
          exact ⟨congrArg (fun z => some (Value.long z)) (show _ = nL (t / Nat.gcd t 16) from (nL_i2l (by omega)).trans (congrArg nL (by rw [hg] <;> omega))), gt1, pi_fr_tr rt1 (by decide) (pi_fr_rf)⟩
      · replace h3 : ¬ ((((t / 2) / 2) % 2) = 0) := fun zq => h3 ((show nI (((t / 2) / 2) % 2) = nI 0 ↔ _ from nI_eq (by omega) (by omega)).mpr zq)
        refine pi_ct 2 (c := nI 0 = 0) (pc' := 70) (l' := [some (.ref 0), some (.int (nI x)), some (.int (nI 0)), some (.int (nI ((t / 2) / 2))), some (.int (nI 4))]) (st' := []) (σ' := t1) (pc2 := 75) (l2 := [some (.ref 0), some (.int (nI x)), some (.int (nI 0)), some (.int (nI ((t / 2) / 2))), some (.int (nI 4))]) (st2 := []) (σ2 := t1) (fun f => rfl) (by decide) ?_
        refine pi_rt 4 (v := some (.long (Int32.toInt64 (nI ((t / 2) / 2))))) (σ' := t1) (fun f => rfl) ?_
        have hg : Nat.gcd t 16 = 4 := by rw [z_gt16, if_pos h1, if_pos h2, if_neg h3]
        exact ⟨congrArg (fun z => some (Value.long z)) (show _ = nL (t / Nat.gcd t 16) from (nL_i2l (by omega)).trans (congrArg nL (by rw [hg] <;> omega))), gt1, pi_fr_tr rt1 (by decide) (pi_fr_rf)⟩
    · replace h2 : ¬ (((t / 2) % 2) = 0) := fun zq => h2 ((show nI ((t / 2) % 2) = nI 0 ↔ _ from nI_eq (by omega) (by omega)).mpr zq)
      refine pi_ct 2 (c := nI 0 = 0) (pc' := 70) (l' := [some (.ref 0), some (.int (nI x)), some (.int (nI 0)), some (.int (nI (t / 2))), some (.int (nI 8))]) (st' := []) (σ' := t1) (pc2 := 75) (l2 := [some (.ref 0), some (.int (nI x)), some (.int (nI 0)), some (.int (nI (t / 2))), some (.int (nI 8))]) (st2 := []) (σ2 := t1) (fun f => rfl) (by decide) ?_
      refine pi_rt 4 (v := some (.long (Int32.toInt64 (nI (t / 2))))) (σ' := t1) (fun f => rfl) ?_
      have hg : Nat.gcd t 16 = 2 := by rw [z_gt16, if_pos h1, if_neg h2]
      exact ⟨congrArg (fun z => some (Value.long z)) (show _ = nL (t / Nat.gcd t 16) from (nL_i2l (by omega)).trans (congrArg nL (by rw [hg] <;> omega))), gt1, pi_fr_tr rt1 (by decide) (pi_fr_rf)⟩
  · replace h1 : ¬ ((t % 2) = 0) := fun zq => h1 ((show nI (t % 2) = nI 0 ↔ _ from nI_eq (by omega) (by omega)).mpr zq)
    refine pi_ct 2 (c := nI 0 = 0) (pc' := 70) (l' := [some (.ref 0), some (.int (nI x)), some (.int (nI 0)), some (.int (nI t)), some (.int (nI 16))]) (st' := []) (σ' := t1) (pc2 := 75) (l2 := [some (.ref 0), some (.int (nI x)), some (.int (nI 0)), some (.int (nI t)), some (.int (nI 16))]) (st2 := []) (σ2 := t1) (fun f => rfl) (by decide) ?_
    refine pi_rt 4 (v := some (.long (Int32.toInt64 (nI t)))) (σ' := t1) (fun f => rfl) ?_
    have hg : Nat.gcd t 16 = 1 := by rw [z_gt16, if_neg h1]
    exact ⟨congrArg (fun z => some (Value.long z)) (show _ = nL (t / Nat.gcd t 16) from (nL_i2l (by omega)).trans (congrArg nL (by rw [hg] <;> omega))), gt1, pi_fr_tr rt1 (by decide) (pi_fr_rf)⟩
set_option maxRecDepth 20000 in
theorem pi_X_odds1 {xs : Nat → Int32} {L d : Nat} {W : zW} {σ : pi_S} (hR : z_CR W σ) {x t : Nat} (hx : x < 17) (hmean : z_mean W (nI x) (-1) = nI t) (ht30 : t < 2 ^ 30)  : pi_wp xs L (d + 9) 81 0 [some (.ref 0), some (.int (nI x)), some (.int (nI 1)), none, none] [] σ (fun v s => v = some (.long (nL (16 / Nat.gcd t 16))) ∧ z_CR W s ∧ pi_fr z_CJ s σ) := by
  have hk := hR.k.p.wk
  have hnd8 := hk.wd.nd8
  have hns12 := hk.wd.ns12
  have hn60 := hk.nine
  have hnf := hk.nf
  have hnw := hk.nw
  have hnc := hk.nc
  have hn08 := hk.wd.n0
  have hn140 := hk.wd.n1
  refine pi_ca 3 (m' := 94) (l' := [some (.int (nI x)), some (.int (nI 17))]) (σ' := σ) (pc2 := 6) (l2 := [some (.ref 0), some (.int (nI x)), some (.int (nI 1)), none, none]) (t := []) (fun f => rfl) (pi_below1 _ _ (z_BL (by omega) (by omega))) ?_
  rintro _ _ ⟨rfl, rfl⟩
  refine pi_cf 1 (c := nI 1 = 0) (pc' := 9) (l' := [some (.ref 0), some (.int (nI x)), some (.int (nI 1)), none, none]) (st' := []) (σ' := σ) (pc2 := 17) (l2 := [some (.ref 0), some (.int (nI x)), some (.int (nI 1)), none, none]) (st2 := []) (σ2 := σ) (fun f => rfl) (by decide) ?_
  refine pi_ca 3 (m' := 94) (l' := [some (.int (nI 1)), some (.int (nI 2))]) (σ' := σ) (pc2 := 14) (l2 := [some (.ref 0), some (.int (nI x)), some (.int (nI 1)), none, none]) (t := []) (fun f => rfl) (pi_below1 _ _ (z_BL (by omega) (by omega))) ?_
  rintro _ _ ⟨rfl, rfl⟩
  refine pi_cf 1 (c := nI 1 = 0) (pc' := 21) (l' := [some (.ref 0), some (.int (nI x)), some (.int (nI 1)), none, none]) (st' := []) (σ' := σ) (pc2 := 17) (l2 := [some (.ref 0), some (.int (nI x)), some (.int (nI 1)), none, none]) (st2 := []) (σ2 := σ) (fun f => rfl) (by decide) ?_
  refine pi_go 6 (pc' := 33) (l' := [some (.ref 0), some (.int (nI x)), some (.int (nI 1)), none, none]) (st' := [.int (σ 22 5), .int (nI x), .ref 0]) (σ' := σ) (fun f => rfl) ?_
  refine pi_tp (y := nI W.nw) (hR.k.p.nw) ?_
  refine pi_ca 1 (m' := 99) (l' := [some (.ref 0), some (.int (nI x)), some (.int (nI W.nw)), none, none]) (σ' := σ) (pc2 := 36) (l2 := [some (.ref 0), some (.int (nI x)), some (.int (nI 1)), none, none]) (t := []) (fun f => rfl) (pi_C_meanA hR (nI x)) ?_
  rintro _ t1 ⟨rfl, gt1, rt1⟩
  rw [hmean]
  refine pi_cf 6 (c := nI 16 ≤ nI 1) (pc' := 47) (l' := [some (.ref 0), some (.int (nI x)), some (.int (nI 1)), some (.int (nI t)), some (.int (nI 16))]) (st' := []) (σ' := t1) (pc2 := 66) (l2 := [some (.ref 0), some (.int (nI x)), some (.int (nI 1)), some (.int (nI t)), some (.int (nI 16))]) (st2 := []) (σ2 := t1) (fun f => rfl) (by decide) ?_
  refine pi_gn 3 (c := nI 2 = 0) (pc' := 50) (l' := [some (.ref 0), some (.int (nI x)), some (.int (nI 1)), some (.int (nI t)), some (.int (nI 16))]) (st' := [.int ((nI t) - (nI t) / (nI 2) * (nI 2))]) (σ' := t1) (fun f => rfl) (by decide) ?_
  refine pi_tp (y := nI (t % 2)) (pk_rem (by omega) (by omega) (by omega)) ?_
  refine pi_if 1 (c := nI (t % 2) = 0) (pc' := 53) (l' := [some (.ref 0), some (.int (nI x)), some (.int (nI 1)), some (.int (nI t)), some (.int (nI 16))]) (st' := []) (σ' := t1) (pc2 := 66) (l2 := [some (.ref 0), some (.int (nI x)), some (.int (nI 1)), some (.int (nI t)), some (.int (nI 16))]) (st2 := []) (σ2 := t1) (fun f => rfl) (fun h1 => ?_) (fun h1 => ?_)
  · replace h1 : (t % 2) = 0 := (show nI (t % 2) = nI 0 ↔ _ from nI_eq (by omega) (by omega)).mp h1
    refine pi_gn 3 (c := nI 2 = 0) (pc' := 56) (l' := [some (.ref 0), some (.int (nI x)), some (.int (nI 1)), some (.int (nI t)), some (.int (nI 16))]) (st' := [.int ((nI t) / (nI 2))]) (σ' := t1) (fun f => rfl) (by decide) ?_
    refine pi_tp (y := nI (t / 2)) (pk_div (by omega) (by omega) (by omega)) ?_
    refine pi_gn 4 (c := nI 2 = 0) (pc' := 61) (l' := [some (.ref 0), some (.int (nI x)), some (.int (nI 1)), some (.int (nI (t / 2))), some (.int (nI 16))]) (st' := [.int ((nI 16) / (nI 2))]) (σ' := t1) (fun f => rfl) (by decide) ?_
    refine pi_tp (y := nI 8) (pk_div (by omega) (by omega) (by omega)) ?_
    refine pi_cf 5 (c := nI 8 ≤ nI 1) (pc' := 47) (l' := [some (.ref 0), some (.int (nI x)), some (.int (nI 1)), some (.int (nI (t / 2))), some (.int (nI 8))]) (st' := []) (σ' := t1) (pc2 := 66) (l2 := [some (.ref 0), some (.int (nI x)), some (.int (nI 1)), some (.int (nI (t / 2))), some (.int (nI 8))]) (st2 := []) (σ2 := t1) (fun f => rfl) (by decide) ?_
    refine pi_gn 3 (c := nI 2 = 0) (pc' := 50) (l' := [some (.ref 0), some (.int (nI x)), some (.int (nI 1)), some (.int (nI (t / 2))), some (.int (nI 8))]) (st' := [.int ((nI (t / 2)) - (nI (t / 2)) / (nI 2) * (nI 2))]) (σ' := t1) (fun f => rfl) (by decide) ?_
    refine pi_tp (y := nI ((t / 2) % 2)) (pk_rem (by omega) (by omega) (by omega)) ?_
    refine pi_if 1 (c := nI ((t / 2) % 2) = 0) (pc' := 53) (l' := [some (.ref 0), some (.int (nI x)), some (.int (nI 1)), some (.int (nI (t / 2))), some (.int (nI 8))]) (st' := []) (σ' := t1) (pc2 := 66) (l2 := [some (.ref 0), some (.int (nI x)), some (.int (nI 1)), some (.int (nI (t / 2))), some (.int (nI 8))]) (st2 := []) (σ2 := t1) (fun f => rfl) (fun h2 => ?_) (fun h2 => ?_)
    · replace h2 : ((t / 2) % 2) = 0 := (show nI ((t / 2) % 2) = nI 0 ↔ _ from nI_eq (by omega) (by omega)).mp h2
      refine pi_gn 3 (c := nI 2 = 0) (pc' := 56) (l' := [some (.ref 0), some (.int (nI x)), some (.int (nI 1)), some (.int (nI (t / 2))), some (.int (nI 8))]) (st' := [.int ((nI (t / 2)) / (nI 2))]) (σ' := t1) (fun f => rfl) (by decide) ?_
      refine pi_tp (y := nI ((t / 2) / 2)) (pk_div (by omega) (by omega) (by omega)) ?_
      refine pi_gn 4 (c := nI 2 = 0) (pc' := 61) (l' := [some (.ref 0), some (.int (nI x)), some (.int (nI 1)), some (.int (nI ((t / 2) / 2))), some (.int (nI 8))]) (st' := [.int ((nI 8) / (nI 2))]) (σ' := t1) (fun f => rfl) (by decide) ?_
      refine pi_tp (y := nI 4) (pk_div (by omega) (by omega) (by omega)) ?_
      refine pi_cf 5 (c := nI 4 ≤ nI 1) (pc' := 47) (l' := [some (.ref 0), some (.int (nI x)), some (.int (nI 1)), some (.int (nI ((t / 2) / 2))), some (.int (nI 4))]) (st' := []) (σ' := t1) (pc2 := 66) (l2 := [some (.ref 0), some (.int (nI x)), some (.int (nI 1)), some (.int (nI ((t / 2) / 2))), some (.int (nI 4))]) (st2 := []) (σ2 := t1) (fun f => rfl) (by decide) ?_
      refine pi_gn 3 (c := nI 2 = 0) (pc' := 50) (l' := [some (.ref 0), some (.int (nI x)), some (.int (nI 1)), some (.int (nI ((t / 2) / 2))), some (.int (nI 4))]) (st' := [.int ((nI ((t / 2) / 2)) - (nI ((t / 2) / 2)) / (nI 2) * (nI 2))]) (σ' := t1) (fun f => rfl) (by decide) ?_
      refine pi_tp (y := nI (((t / 2) / 2) % 2)) (pk_rem (by omega) (by omega) (by omega)) ?_
      refine pi_if 1 (c := nI (((t / 2) / 2) % 2) = 0) (pc' := 53) (l' := [some (.ref 0), some (.int (nI x)), some (.int (nI 1)), some (.int (nI ((t / 2) / 2))), some (.int (nI 4))]) (st' := []) (σ' := t1) (pc2 := 66) (l2 := [some (.ref 0), some (.int (nI x)), some (.int (nI 1)), some (.int (nI ((t / 2) / 2))), some (.int (nI 4))]) (st2 := []) (σ2 := t1) (fun f => rfl) (fun h3 => ?_) (fun h3 => ?_)
      · replace h3 : (((t / 2) / 2) % 2) = 0 := (show nI (((t / 2) / 2) % 2) = nI 0 ↔ _ from nI_eq (by omega) (by omega)).mp h3
        refine pi_gn 3 (c := nI 2 = 0) (pc' := 56) (l' := [some (.ref 0), some (.int (nI x)), some (.int (nI 1)), some (.int (nI ((t / 2) / 2))), some (.int (nI 4))]) (st' := [.int ((nI ((t / 2) / 2)) / (nI 2))]) (σ' := t1) (fun f => rfl) (by decide) ?_
        refine pi_tp (y := nI (((t / 2) / 2) / 2)) (pk_div (by omega) (by omega) (by omega)) ?_
        refine pi_gn 4 (c := nI 2 = 0) (pc' := 61) (l' := [some (.ref 0), some (.int (nI x)), some (.int (nI 1)), some (.int (nI (((t / 2) / 2) / 2))), some (.int (nI 4))]) (st' := [.int ((nI 4) / (nI 2))]) (σ' := t1) (fun f => rfl) (by decide) ?_
        refine pi_tp (y := nI 2) (pk_div (by omega) (by omega) (by omega)) ?_
        refine pi_cf 5 (c := nI 2 ≤ nI 1) (pc' := 47) (l' := [some (.ref 0), some (.int (nI x)), some (.int (nI 1)), some (.int (nI (((t / 2) / 2) / 2))), some (.int (nI 2))]) (st' := []) (σ' := t1) (pc2 := 66) (l2 := [some (.ref 0), some (.int (nI x)), some (.int (nI 1)), some (.int (nI (((t / 2) / 2) / 2))), some (.int (nI 2))]) (st2 := []) (σ2 := t1) (fun f => rfl) (by decide) ?_
        refine pi_gn 3 (c := nI 2 = 0) (pc' := 50) (l' := [some (.ref 0), some (.int (nI x)), some (.int (nI 1)), some (.int (nI (((t / 2) / 2) / 2))), some (.int (nI 2))]) (st' := [.int ((nI (((t / 2) / 2) / 2)) - (nI (((t / 2) / 2) / 2)) / (nI 2) * (nI 2))]) (σ' := t1) (fun f => rfl) (by decide) ?_
        refine pi_tp (y := nI ((((t / 2) / 2) / 2) % 2)) (pk_rem (by omega) (by omega) (by omega)) ?_
        refine pi_if 1 (c := nI ((((t / 2) / 2) / 2) % 2) = 0) (pc' := 53) (l' := [some (.ref 0), some (.int (nI x)), some (.int (nI 1)), some (.int (nI (((t / 2) / 2) / 2))), some (.int (nI 2))]) (st' := []) (σ' := t1) (pc2 := 66) (l2 := [some (.ref 0), some (.int (nI x)), some (.int (nI 1)), some (.int (nI (((t / 2) / 2) / 2))), some (.int (nI 2))]) (st2 := []) (σ2 := t1) (fun f => rfl) (fun h4 => ?_) (fun h4 => ?_)
        · replace h4 : ((((t / 2) / 2) / 2) % 2) = 0 := (show nI ((((t / 2) / 2) / 2) % 2) = nI 0 ↔ _ from nI_eq (by omega) (by omega)).mp h4
          refine pi_gn 3 (c := nI 2 = 0) (pc' := 56) (l' := [some (.ref 0), some (.int (nI x)), some (.int (nI 1)), some (.int (nI (((t / 2) / 2) / 2))), some (.int (nI 2))]) (st' := [.int ((nI (((t / 2) / 2) / 2)) / (nI 2))]) (σ' := t1) (fun f => rfl) (by decide) ?_
          refine pi_tp (y := nI ((((t / 2) / 2) / 2) / 2)) (pk_div (by omega) (by omega) (by omega)) ?_
          refine pi_gn 4 (c := nI 2 = 0) (pc' := 61) (l' := [some (.ref 0), some (.int (nI x)), some (.int (nI 1)), some (.int (nI ((((t / 2) / 2) / 2) / 2))), some (.int (nI 2))]) (st' := [.int ((nI 2) / (nI 2))]) (σ' := t1) (fun f => rfl) (by decide) ?_
          refine pi_tp (y := nI 1) (pk_div (by omega) (by omega) (by omega)) ?_
          refine pi_ct 5 (c := nI 1 ≤ nI 1) (pc' := 66) (l' := [some (.ref 0), some (.int (nI x)), some (.int (nI 1)), some (.int (nI ((((t / 2) / 2) / 2) / 2))), some (.int (nI 1))]) (st' := []) (σ' := t1) (pc2 := 47) (l2 := [some (.ref 0), some (.int (nI x)), some (.int (nI 1)), some (.int (nI ((((t / 2) / 2) / 2) / 2))), some (.int (nI 1))]) (st2 := []) (σ2 := t1) (fun f => rfl) (by decide) ?_
          refine pi_cf 2 (c := nI 1 = 0) (pc' := 75) (l' := [some (.ref 0), some (.int (nI x)), some (.int (nI 1)), some (.int (nI ((((t / 2) / 2) / 2) / 2))), some (.int (nI 1))]) (st' := []) (σ' := t1) (pc2 := 70) (l2 := [some (.ref 0), some (.int (nI x)), some (.int (nI 1)), some (.int (nI ((((t / 2) / 2) / 2) / 2))), some (.int (nI 1))]) (st2 := []) (σ2 := t1) (fun f => rfl) (by decide) ?_
          refine pi_rt 3 (v := some (.long (Int32.toInt64 (nI 1)))) (σ' := t1) (fun f => rfl) ?_
          have hg : Nat.gcd t 16 = 16 := by rw [z_gt16, if_pos h1, if_pos h2, if_pos h3, if_pos h4]
          exact ⟨congrArg (fun z => some (Value.long z)) (show _ = nL (16 / Nat.gcd t 16) from (nL_i2l (by omega)).trans (congrArg nL (by rw [hg] <;> omega))), gt1, pi_fr_tr rt1 (by decide) (pi_fr_rf)⟩
        · replace h4 : ¬ (((((t / 2) / 2) / 2) % 2) = 0) := fun zq => h4 ((show nI ((((t / 2) / 2) / 2) % 2) = nI 0 ↔ _ from nI_eq (by omega) (by omega)).mpr zq)
          refine pi_cf 2 (c := nI 1 = 0) (pc' := 75) (l' := [some (.ref 0), some (.int (nI x)), some (.int (nI 1)), some (.int (nI (((t / 2) / 2) / 2))), some (.int (nI 2))]) (st' := []) (σ' := t1) (pc2 := 70) (l2 := [some (.ref 0), some (.int (nI x)), some (.int (nI 1)), some (.int (nI (((t / 2) / 2) / 2))), some (.int (nI 2))]) (st2 := []) (σ2 := t1) (fun f => rfl) (by decide) ?_
          refine pi_rt 3 (v := some (.long (Int32.toInt64 (nI 2)))) (σ' := t1) (fun f => rfl) ?_
          have hg : Nat.gcd t 16 = 8 := by rw [z_gt16, if_pos h1, if_pos h2, if_pos h3, if_neg h4]
          exact ⟨congrArg (fun z => some (Value.long z)) (show _ = nL (16 / Nat.gcd t 16) from (nL_i2l (by omega)).trans (congrArg nL (by rw [hg] <;> omega))), gt1, pi_fr_tr rt1 (by decide) (pi_fr_rf)⟩
      · replace h3 : ¬ ((((t / 2) / 2) % 2) = 0) := fun zq => h3 ((show nI (((t / 2) / 2) % 2) = nI 0 ↔ _ from nI_eq (by omega) (by omega)).mpr zq)
        refine pi_cf 2 (c := nI 1 = 0) (pc' := 75) (l' := [some (.ref 0), some (.int (nI x)), some (.int (nI 1)), some (.int (nI ((t / 2) / 2))), some (.int (nI 4))]) (st' := []) (σ' := t1) (pc2 := 70) (l2 := [some (.ref 0), some (.int (nI x)), some (.int (nI 1)), some (.int (nI ((t / 2) / 2))), some (.int (nI 4))]) (st2 := []) (σ2 := t1) (fun f => rfl) (by decide) ?_
        refine pi_rt 3 (v := some (.long (Int32.toInt64 (nI 4)))) (σ' := t1) (fun f => rfl) ?_
        have hg : Nat.gcd t 16 = 4 := by rw [z_gt16, if_pos h1, if_pos h2, if_neg h3]
        exact ⟨congrArg (fun z => some (Value.long z)) (show _ = nL (16 / Nat.gcd t 16) from (nL_i2l (by omega)).trans (congrArg nL (by rw [hg] <;> omega))), gt1, pi_fr_tr rt1 (by decide) (pi_fr_rf)⟩
    · replace h2 : ¬ (((t / 2) % 2) = 0) := fun zq => h2 ((show nI ((t / 2) % 2) = nI 0 ↔ _ from nI_eq (by omega) (by omega)).mpr zq)
      refine pi_cf 2 (c := nI 1 = 0) (pc' := 75) (l' := [some (.ref 0), some (.int (nI x)), some (.int (nI 1)), some (.int (nI (t / 2))), some (.int (nI 8))]) (st' := []) (σ' := t1) (pc2 := 70) (l2 := [some (.ref 0), some (.int (nI x)), some (.int (nI 1)), some (.int (nI (t / 2))), some (.int (nI 8))]) (st2 := []) (σ2 := t1) (fun f => rfl) (by decide) ?_
      refine pi_rt 3 (v := some (.long (Int32.toInt64 (nI 8)))) (σ' := t1) (fun f => rfl) ?_
      have hg : Nat.gcd t 16 = 2 := by rw [z_gt16, if_pos h1, if_neg h2]
      exact ⟨congrArg (fun z => some (Value.long z)) (show _ = nL (16 / Nat.gcd t 16) from (nL_i2l (by omega)).trans (congrArg nL (by rw [hg] <;> omega))), gt1, pi_fr_tr rt1 (by decide) (pi_fr_rf)⟩
  · replace h1 : ¬ ((t % 2) = 0) := fun zq => h1 ((show nI (t % 2) = nI 0 ↔ _ from nI_eq (by omega) (by omega)).mpr zq)
    refine pi_cf 2 (c := nI 1 = 0) (pc' := 75) (l' := [some (.ref 0), some (.int (nI x)), some (.int (nI 1)), some (.int (nI t)), some (.int (nI 16))]) (st' := []) (σ' := t1) (pc2 := 70) (l2 := [some (.ref 0), some (.int (nI x)), some (.int (nI 1)), some (.int (nI t)), some (.int (nI 16))]) (st2 := []) (σ2 := t1) (fun f => rfl) (by decide) ?_
    refine pi_rt 3 (v := some (.long (Int32.toInt64 (nI 16)))) (σ' := t1) (fun f => rfl) ?_
    have hg : Nat.gcd t 16 = 1 := by rw [z_gt16, if_neg h1]
    exact ⟨congrArg (fun z => some (Value.long z)) (show _ = nL (16 / Nat.gcd t 16) from (nL_i2l (by omega)).trans (congrArg nL (by rw [hg] <;> omega))), gt1, pi_fr_tr rt1 (by decide) (pi_fr_rf)⟩
set_option maxRecDepth 20000 in
theorem pi_X_waits_bad {xs : Nat → Int32} {L d : Nat} {W : zW} {σ : pi_S} (hR : z_CR W σ) {a : Int32} (hb : ¬ (z_B 17 a))  : pi_wp xs L (d + 9) 82 0 [some (.ref 0), some (.int a), none] [] σ (fun v s => v = some (.int (-2)) ∧ z_CR W s ∧ pi_fr z_CJ s σ) := by
  have hk := hR.k.p.wk
  have hnd8 := hk.wd.nd8
  have hns12 := hk.wd.ns12
  have hn60 := hk.nine
  have hnf := hk.nf
  have hnw := hk.nw
  have hnc := hk.nc
  have hn08 := hk.wd.n0
  have hn140 := hk.wd.n1
  refine pi_ca 3 (m' := 94) (l' := [some (.int a), some (.int (nI 17))]) (σ' := σ) (pc2 := 6) (l2 := [some (.ref 0), some (.int a), none]) (t := []) (fun f => rfl) (pi_C_belowB (a := a) (n := 17) (by omega)) ?_
  rintro _ _ (⟨b1, rfl, rfl⟩ | ⟨b1, rfl, rfl⟩)
  · refine pi_cf 1 (c := nI 1 = 0) (pc' := 12) (l' := [some (.ref 0), some (.int a), none]) (st' := []) (σ' := σ) (pc2 := 9) (l2 := [some (.ref 0), some (.int a), none]) (st2 := []) (σ2 := σ) (fun f => rfl) (by decide) ?_
    exact (hb b1).elim
  · refine pi_ct 1 (c := nI 0 = 0) (pc' := 9) (l' := [some (.ref 0), some (.int a), none]) (st' := []) (σ' := σ) (pc2 := 12) (l2 := [some (.ref 0), some (.int a), none]) (st2 := []) (σ2 := σ) (fun f => rfl) (by decide) ?_
    refine pi_rt 2 (v := some (.int (-2))) (σ' := σ) (fun f => rfl) ?_
    exact ⟨rfl, hR, pi_fr_rf⟩
set_option maxRecDepth 20000 in
theorem pi_X_waits0 {xs : Nat → Int32} {L d : Nat} {W : zW} {σ : pi_S} (hR : z_CR W σ) {x : Nat} (hx : x < 17) (h0 : W.nw = 0)  : pi_wp xs L (d + 9) 82 0 [some (.ref 0), some (.int (nI x)), none] [] σ (fun v s => v = some (.int ((-3))) ∧ z_CR W s ∧ pi_fr z_CJ s σ) := by
  have hk := hR.k.p.wk
  have hnd8 := hk.wd.nd8
  have hns12 := hk.wd.ns12
  have hn60 := hk.nine
  have hnf := hk.nf
  have hnw := hk.nw
  have hnc := hk.nc
  have hn08 := hk.wd.n0
  have hn140 := hk.wd.n1
  refine pi_ca 3 (m' := 94) (l' := [some (.int (nI x)), some (.int (nI 17))]) (σ' := σ) (pc2 := 6) (l2 := [some (.ref 0), some (.int (nI x)), none]) (t := []) (fun f => rfl) (pi_below1 _ _ (z_BL (by omega) (by omega))) ?_
  rintro _ _ ⟨rfl, rfl⟩
  refine pi_cf 1 (c := nI 1 = 0) (pc' := 12) (l' := [some (.ref 0), some (.int (nI x)), none]) (st' := []) (σ' := σ) (pc2 := 9) (l2 := [some (.ref 0), some (.int (nI x)), none]) (st2 := []) (σ2 := σ) (fun f => rfl) (by decide) ?_
  refine pi_go 4 (pc' := 22) (l' := [some (.ref 0), some (.int (nI x)), none]) (st' := [.int (σ 22 5)]) (σ' := σ) (fun f => rfl) ?_
  refine pi_tp (y := nI W.nw) (hR.k.p.nw) ?_
  refine pi_ct 3 (c := nI W.nw = 0) (pc' := 27) (l' := [some (.ref 0), some (.int (nI x)), some (.int (nI W.nw))]) (st' := []) (σ' := σ) (pc2 := 30) (l2 := [some (.ref 0), some (.int (nI x)), some (.int (nI W.nw))]) (st2 := []) (σ2 := σ) (fun f => rfl) (congrArg nI h0) ?_
  refine pi_rt 2 (v := some (.int (-3))) (σ' := σ) (fun f => rfl) ?_
  exact ⟨rfl, hR, pi_fr_rf⟩
set_option maxRecDepth 20000 in
theorem pi_X_waits1 {xs : Nat → Int32} {L d : Nat} {W : zW} {σ : pi_S} (hR : z_CR W σ) {x : Nat} (hx : x < 17) (h0 : ¬ W.nw = 0)  : pi_wp xs L (d + 9) 82 0 [some (.ref 0), some (.int (nI x)), none] [] σ (fun v s => v = some (.int (if z_mean W (nI x) (nI W.nw - nI 1) < z_mean W (nI x) (-1) then nI 1 else nI 0)) ∧ z_CR W s ∧ pi_fr z_CJ s σ) := by
  have hk := hR.k.p.wk
  have hnd8 := hk.wd.nd8
  have hns12 := hk.wd.ns12
  have hn60 := hk.nine
  have hnf := hk.nf
  have hnw := hk.nw
  have hnc := hk.nc
  have hn08 := hk.wd.n0
  have hn140 := hk.wd.n1
  refine pi_ca 3 (m' := 94) (l' := [some (.int (nI x)), some (.int (nI 17))]) (σ' := σ) (pc2 := 6) (l2 := [some (.ref 0), some (.int (nI x)), none]) (t := []) (fun f => rfl) (pi_below1 _ _ (z_BL (by omega) (by omega))) ?_
  rintro _ _ ⟨rfl, rfl⟩
  refine pi_cf 1 (c := nI 1 = 0) (pc' := 12) (l' := [some (.ref 0), some (.int (nI x)), none]) (st' := []) (σ' := σ) (pc2 := 9) (l2 := [some (.ref 0), some (.int (nI x)), none]) (st2 := []) (σ2 := σ) (fun f => rfl) (by decide) ?_
  refine pi_go 4 (pc' := 22) (l' := [some (.ref 0), some (.int (nI x)), none]) (st' := [.int (σ 22 5)]) (σ' := σ) (fun f => rfl) ?_
  refine pi_tp (y := nI W.nw) (hR.k.p.nw) ?_
  refine pi_cf 3 (c := nI W.nw = 0) (pc' := 30) (l' := [some (.ref 0), some (.int (nI x)), some (.int (nI W.nw))]) (st' := []) (σ' := σ) (pc2 := 27) (l2 := [some (.ref 0), some (.int (nI x)), some (.int (nI W.nw))]) (st2 := []) (σ2 := σ) (fun f => rfl) (fun q => h0 ((nI_eq (by omega) (by omega)).mp q)) ?_
  refine pi_go 5 (pc' := 35) (l' := [some (.ref 0), some (.int (nI x)), some (.int (nI W.nw))]) (st' := [.int ((nI W.nw) - (nI 1)), .int (nI x), .ref 0]) (σ' := σ) (fun f => rfl) ?_
  refine pi_tp (y := nI (W.nw - 1)) (z_sub1 h0) ?_
  refine pi_ca 1 (m' := 99) (l' := [some (.ref 0), some (.int (nI x)), some (.int (nI (W.nw - 1))), none, none]) (σ' := σ) (pc2 := 38) (l2 := [some (.ref 0), some (.int (nI x)), some (.int (nI W.nw))]) (t := []) (fun f => rfl) (pi_C_meanB hR (nI x) h0) ?_
  rintro _ t1 ⟨rfl, gt1, rt1⟩
  refine pi_ca 4 (m' := 99) (l' := [some (.ref 0), some (.int (nI x)), some (.int (nI W.nw)), none, none]) (σ' := t1) (pc2 := 44) (l2 := [some (.ref 0), some (.int (nI x)), some (.int (nI W.nw))]) (t := [.int (z_mean W (nI x) (nI W.nw - nI 1))]) (fun f => rfl) (pi_C_meanA gt1 (nI x)) ?_
  rintro _ t2 ⟨rfl, gt2, rt2⟩
  refine pi_if 1 (c := z_mean W (nI x) (-1) ≤ z_mean W (nI x) (nI W.nw - nI 1)) (pc' := 51) (l' := [some (.ref 0), some (.int (nI x)), some (.int (nI W.nw))]) (st' := []) (σ' := t2) (pc2 := 47) (l2 := [some (.ref 0), some (.int (nI x)), some (.int (nI W.nw))]) (st2 := []) (σ2 := t2) (fun f => rfl) (fun h1 => ?_) (fun h1 => ?_)
  · refine pi_rt 2 (v := some (.int (nI 0))) (σ' := t2) (fun f => rfl) ?_
    exact ⟨congrArg (fun z => some (Value.int z)) (if_neg (fun q => Int32.not_lt.mpr h1 q)).symm, gt2, pi_fr_tr rt2 (by decide) (pi_fr_tr rt1 (by decide) (pi_fr_rf))⟩
  · refine pi_rt 3 (v := some (.int (nI 1))) (σ' := t2) (fun f => rfl) ?_
    exact ⟨congrArg (fun z => some (Value.int z)) (if_pos (Int32.not_le.mp h1)).symm, gt2, pi_fr_tr rt2 (by decide) (pi_fr_tr rt1 (by decide) (pi_fr_rf))⟩
set_option maxRecDepth 20000 in
theorem pi_X_who_bad {xs : Nat → Int32} {L d : Nat} {W : zW} {σ : pi_S} (hR : z_CR W σ) {a b c : Int32} (hb : ¬ (z_B (W.nine + 1) a ∧ z_B 5 b ∧ z_B W.nd c))  : pi_wp xs L (d + 9) 83 0 [some (.ref 0), some (.int a), some (.int b), some (.int c), none, none, none] [] σ (fun v s => v = some (.int (-2)) ∧ z_CR W s ∧ pi_fr z_CJ s σ) := by
  have hk := hR.k.p.wk
  have hnd8 := hk.wd.nd8
  have hns12 := hk.wd.ns12
  have hn60 := hk.nine
  have hnf := hk.nf
  have hnw := hk.nw
  have hnc := hk.nc
  have hn08 := hk.wd.n0
  have hn140 := hk.wd.n1
  refine pi_ca 3 (m' := 95) (l' := [some (.ref 0), some (.int a)]) (σ' := σ) (pc2 := 5) (l2 := [some (.ref 0), some (.int a), some (.int b), some (.int c), none, none, none]) (t := []) (fun f => rfl) (pi_C_toNine hR.k) ?_
  rintro _ _ (⟨b1, rfl, rfl⟩ | ⟨b1, rfl, rfl⟩)
  · refine pi_cf 1 (c := nI 1 = 0) (pc' := 8) (l' := [some (.ref 0), some (.int a), some (.int b), some (.int c), none, none, none]) (st' := []) (σ' := σ) (pc2 := 27) (l2 := [some (.ref 0), some (.int a), some (.int b), some (.int c), none, none, none]) (st2 := []) (σ2 := σ) (fun f => rfl) (by decide) ?_
    refine pi_ca 3 (m' := 94) (l' := [some (.int b), some (.int (nI 5))]) (σ' := σ) (pc2 := 13) (l2 := [some (.ref 0), some (.int a), some (.int b), some (.int c), none, none, none]) (t := []) (fun f => rfl) (pi_C_belowB (a := b) (n := 5) (by omega)) ?_
    rintro _ _ (⟨b2, rfl, rfl⟩ | ⟨b2, rfl, rfl⟩)
    · refine pi_cf 1 (c := nI 1 = 0) (pc' := 16) (l' := [some (.ref 0), some (.int a), some (.int b), some (.int c), none, none, none]) (st' := []) (σ' := σ) (pc2 := 27) (l2 := [some (.ref 0), some (.int a), some (.int b), some (.int c), none, none, none]) (st2 := []) (σ2 := σ) (fun f => rfl) (by decide) ?_
      refine pi_ca 4 (m' := 48) (l' := [some (.ref 1), some (.int c)]) (σ' := σ) (pc2 := 24) (l2 := [some (.ref 0), some (.int a), some (.int b), some (.int c), none, none, none]) (t := []) (fun f => rfl) (pi_C_hasDoor (hR.k.t.d) (by omega)) ?_
      rintro _ _ (⟨b3, rfl, rfl⟩ | ⟨b3, rfl, rfl⟩)
      · refine pi_cf 1 (c := nI 1 = 0) (pc' := 30) (l' := [some (.ref 0), some (.int a), some (.int b), some (.int c), none, none, none]) (st' := []) (σ' := σ) (pc2 := 27) (l2 := [some (.ref 0), some (.int a), some (.int b), some (.int c), none, none, none]) (st2 := []) (σ2 := σ) (fun f => rfl) (by decide) ?_
        exact (hb ⟨b1, b2, b3⟩).elim
      · refine pi_ct 1 (c := nI 0 = 0) (pc' := 27) (l' := [some (.ref 0), some (.int a), some (.int b), some (.int c), none, none, none]) (st' := []) (σ' := σ) (pc2 := 30) (l2 := [some (.ref 0), some (.int a), some (.int b), some (.int c), none, none, none]) (st2 := []) (σ2 := σ) (fun f => rfl) (by decide) ?_
        refine pi_rt 2 (v := some (.int (-2))) (σ' := σ) (fun f => rfl) ?_
        exact ⟨rfl, hR, pi_fr_rf⟩
    · refine pi_ct 1 (c := nI 0 = 0) (pc' := 27) (l' := [some (.ref 0), some (.int a), some (.int b), some (.int c), none, none, none]) (st' := []) (σ' := σ) (pc2 := 16) (l2 := [some (.ref 0), some (.int a), some (.int b), some (.int c), none, none, none]) (st2 := []) (σ2 := σ) (fun f => rfl) (by decide) ?_
      refine pi_rt 2 (v := some (.int (-2))) (σ' := σ) (fun f => rfl) ?_
      exact ⟨rfl, hR, pi_fr_rf⟩
  · refine pi_ct 1 (c := nI 0 = 0) (pc' := 27) (l' := [some (.ref 0), some (.int a), some (.int b), some (.int c), none, none, none]) (st' := []) (σ' := σ) (pc2 := 8) (l2 := [some (.ref 0), some (.int a), some (.int b), some (.int c), none, none, none]) (st2 := []) (σ2 := σ) (fun f => rfl) (by decide) ?_
    refine pi_rt 2 (v := some (.int (-2))) (σ' := σ) (fun f => rfl) ?_
    exact ⟨rfl, hR, pi_fr_rf⟩
theorem z_whoC (W : zW) (h : W.nine < 60) (mi : Int32) (d kd : Nat) : (z_Rc W (-1) W.nw (-1) mi d kd (W.nine + 1)).1.1 = (z_A (W.fall mi d kd (nI 1))).1.1.1 := by
  rw [z_Rc_C W mi d kd (fun _ => 0) (W.nine + 1) (by omega)]
  rfl
set_option maxRecDepth 20000 in
theorem pi_X_who {xs : Nat → Int32} {L d : Nat} {W : zW} {σ : pi_S} (hR : z_CR W σ) {mi kd dr : Nat} (hi : mi < W.nine + 1) (hkd : kd < 5) (hd : dr < W.nd)  : pi_wp xs L (d + 9) 83 0 [some (.ref 0), some (.int (nI mi)), some (.int (nI kd)), some (.int (nI dr)), none, none, none] [] σ (fun v s => v = some (.int (z_who W (nI mi) kd dr W.nd)) ∧ z_CR W s ∧ pi_fr z_CJ s σ) := by
  have hk := hR.k.p.wk
  have hnd8 := hk.wd.nd8
  have hns12 := hk.wd.ns12
  have hn60 := hk.nine
  have hnf := hk.nf
  have hnw := hk.nw
  have hnc := hk.nc
  have hn08 := hk.wd.n0
  have hn140 := hk.wd.n1
  refine pi_ca 3 (m' := 95) (l' := [some (.ref 0), some (.int (nI mi))]) (σ' := σ) (pc2 := 5) (l2 := [some (.ref 0), some (.int (nI mi)), some (.int (nI kd)), some (.int (nI dr)), none, none, none]) (t := []) (fun f => rfl) (pi_C_toNineT hR.k (by omega)) ?_
  rintro _ _ ⟨rfl, rfl⟩
  refine pi_cf 1 (c := nI 1 = 0) (pc' := 8) (l' := [some (.ref 0), some (.int (nI mi)), some (.int (nI kd)), some (.int (nI dr)), none, none, none]) (st' := []) (σ' := σ) (pc2 := 27) (l2 := [some (.ref 0), some (.int (nI mi)), some (.int (nI kd)), some (.int (nI dr)), none, none, none]) (st2 := []) (σ2 := σ) (fun f => rfl) (by decide) ?_
  refine pi_ca 3 (m' := 94) (l' := [some (.int (nI kd)), some (.int (nI 5))]) (σ' := σ) (pc2 := 13) (l2 := [some (.ref 0), some (.int (nI mi)), some (.int (nI kd)), some (.int (nI dr)), none, none, none]) (t := []) (fun f => rfl) (pi_below1 _ _ (z_BL (by omega) (by omega))) ?_
  rintro _ _ ⟨rfl, rfl⟩
  refine pi_cf 1 (c := nI 1 = 0) (pc' := 16) (l' := [some (.ref 0), some (.int (nI mi)), some (.int (nI kd)), some (.int (nI dr)), none, none, none]) (st' := []) (σ' := σ) (pc2 := 27) (l2 := [some (.ref 0), some (.int (nI mi)), some (.int (nI kd)), some (.int (nI dr)), none, none, none]) (st2 := []) (σ2 := σ) (fun f => rfl) (by decide) ?_
  refine pi_ca 4 (m' := 48) (l' := [some (.ref 1), some (.int (nI dr))]) (σ' := σ) (pc2 := 24) (l2 := [some (.ref 0), some (.int (nI mi)), some (.int (nI kd)), some (.int (nI dr)), none, none, none]) (t := []) (fun f => rfl) (pi_C_hasDoorT (hR.k.t.d) (by omega) (by omega)) ?_
  rintro _ _ ⟨rfl, rfl⟩
  refine pi_cf 1 (c := nI 1 = 0) (pc' := 30) (l' := [some (.ref 0), some (.int (nI mi)), some (.int (nI kd)), some (.int (nI dr)), none, none, none]) (st' := []) (σ' := σ) (pc2 := 27) (l2 := [some (.ref 0), some (.int (nI mi)), some (.int (nI kd)), some (.int (nI dr)), none, none, none]) (st2 := []) (σ2 := σ) (fun f => rfl) (by decide) ?_
  refine pi_ca 6 (m' := 22) (l' := [some (.ref 34), some (.int (nI dr)), some (.int (nI kd))]) (σ' := σ) (pc2 := 42) (l2 := [some (.ref 0), some (.int (nI mi)), some (.int (nI kd)), some (.int (nI dr)), none, none, none]) (t := []) (fun f => rfl) (pi_C_barrowsAt_c (by omega) (by omega)) ?_
  rintro _ _ ⟨rfl, rfl⟩
  refine pi_tp (y := ((z_A W).1.1.1) (5 * dr + kd)) (congrFun (hR.b) _) ?_
  refine pi_go 7 (pc' := 52) (l' := [some (.ref 0), some (.int (nI mi)), some (.int (nI kd)), some (.int (nI dr)), some (.int ((((z_A W).1.1.1) (5 * dr + kd)) + (nI 1))), some (.int (nI 0)), some (.int (nI 0))]) (st' := []) (σ' := σ) (fun f => rfl) ?_
  suffices hl1 : ∀ yd, yd ≤ W.nd → ∀ (z1 : pi_S), pi_fr z_CJ z1 σ → z_CR W z1 → pi_wp xs L (d + 9) 83 52 [some (.ref 0), some (.int (nI mi)), some (.int (nI kd)), some (.int (nI dr)), some (.int ((z_A W).1.1.1 (5 * dr + kd) + nI 1)), some (.int (z_who W (nI mi) kd dr yd)), some (.int (nI yd))] [] z1 (fun v s => v = some (.int (z_who W (nI mi) kd dr W.nd)) ∧ z_CR W s ∧ pi_fr z_CJ s σ) from hl1 0 (by omega) _ (pi_fr_rf) (hR)
  refine pi_lp0 ?_ ?_
  · intro z1 hrz1 hx1
    refine pi_go 4 (pc' := 61) (l' := [some (.ref 0), some (.int (nI mi)), some (.int (nI kd)), some (.int (nI dr)), some (.int ((z_A W).1.1.1 (5 * dr + kd) + nI 1)), some (.int (z_who W (nI mi) kd dr W.nd)), some (.int (nI W.nd))]) (st' := [.int (z1 1 8), .int (nI W.nd)]) (σ' := z1) (fun f => rfl) ?_
    refine pi_tp (y := nI W.nd) ((congrFun (hrz1 1 (by decide)) 8).trans (hR.k.t.d)) ?_
    refine pi_ct 1 (c := nI W.nd ≤ nI W.nd) (pc' := 128) (l' := [some (.ref 0), some (.int (nI mi)), some (.int (nI kd)), some (.int (nI dr)), some (.int ((z_A W).1.1.1 (5 * dr + kd) + nI 1)), some (.int (z_who W (nI mi) kd dr W.nd)), some (.int (nI W.nd))]) (st' := []) (σ' := z1) (pc2 := 64) (l2 := [some (.ref 0), some (.int (nI mi)), some (.int (nI kd)), some (.int (nI dr)), some (.int ((z_A W).1.1.1 (5 * dr + kd) + nI 1)), some (.int (z_who W (nI mi) kd dr W.nd)), some (.int (nI W.nd))]) (st2 := []) (σ2 := z1) (fun f => rfl) ((show nI W.nd ≤ nI W.nd ↔ _ from nI_leI (by omega) (by omega)).mpr (by omega)) ?_
    refine pi_rt 2 (v := some (.int (z_who W (nI mi) kd dr W.nd))) (σ' := z1) (fun f => rfl) ?_
    exact ⟨rfl, hx1, pi_fr_tr hrz1 (by decide) (pi_fr_rf)⟩
  · intro yd hi1 ih1 z1 hrz1 hx1
    refine pi_go 4 (pc' := 61) (l' := [some (.ref 0), some (.int (nI mi)), some (.int (nI kd)), some (.int (nI dr)), some (.int ((z_A W).1.1.1 (5 * dr + kd) + nI 1)), some (.int (z_who W (nI mi) kd dr yd)), some (.int (nI yd))]) (st' := [.int (z1 1 8), .int (nI yd)]) (σ' := z1) (fun f => rfl) ?_
    refine pi_tp (y := nI W.nd) ((congrFun (hrz1 1 (by decide)) 8).trans (hR.k.t.d)) ?_
    refine pi_cf 1 (c := nI W.nd ≤ nI yd) (pc' := 64) (l' := [some (.ref 0), some (.int (nI mi)), some (.int (nI kd)), some (.int (nI dr)), some (.int ((z_A W).1.1.1 (5 * dr + kd) + nI 1)), some (.int (z_who W (nI mi) kd dr yd)), some (.int (nI yd))]) (st' := []) (σ' := z1) (pc2 := 128) (l2 := [some (.ref 0), some (.int (nI mi)), some (.int (nI kd)), some (.int (nI dr)), some (.int ((z_A W).1.1.1 (5 * dr + kd) + nI 1)), some (.int (z_who W (nI mi) kd dr yd)), some (.int (nI yd))]) (st2 := []) (σ2 := z1) (fun f => rfl) (fun zq => absurd ((show nI W.nd ≤ nI yd ↔ _ from nI_leI (by omega) (by omega)).mp zq) (by omega)) ?_
    refine pi_ca 3 (m' := 3) (l' := [some (.ref 37)]) (σ' := z1) (pc2 := 71) (l2 := [some (.ref 0), some (.int (nI mi)), some (.int (nI kd)), some (.int (nI dr)), some (.int ((z_A W).1.1.1 (5 * dr + kd) + nI 1)), some (.int (z_who W (nI mi) kd dr yd)), some (.int (nI yd))]) (t := []) (fun f => rfl) (pi_C_asTold_t (z_CK.of hR.k (pi_fr_tr hrz1 (by decide) (pi_fr_rf)))) ?_
    rintro _ t2 ⟨rfl, gt2_5, gt2_6, gt2_7, gt2_8, kt2, rt2⟩
    refine pi_ca 6 (m' := 7) (l' := [some (.ref 37), some (.int (nI mi)), some (.int (nI yd)), some (.int (nI kd))]) (σ' := t2) (pc2 := 82) (l2 := [some (.ref 0), some (.int (nI mi)), some (.int (nI kd)), some (.int (nI dr)), some (.int ((z_A W).1.1.1 (5 * dr + kd) + nI 1)), some (.int (z_who W (nI mi) kd dr yd)), some (.int (nI yd))]) (t := []) (fun f => rfl) (pi_C_supBar (nI mi) (nI yd) (nI kd)) ?_
    rintro _ t3 ⟨rfl, gt3_8, gt3_9, gt3_10, kt3, rt3⟩
    refine pi_go 5 (pc' := 93) (l' := [some (.ref 0), some (.int (nI mi)), some (.int (nI kd)), some (.int (nI dr)), some (.int ((z_A W).1.1.1 (5 * dr + kd) + nI 1)), some (.int (z_who W (nI mi) kd dr yd)), some (.int (nI yd))]) (st' := [.int (t3 12 3), .ref 37]) (σ' := t3) (fun f => rfl) ?_
    refine pi_tp (y := nI W.nine) ((congrFun (rt3 12 (by decide)) 3).trans ((congrFun (rt2 12 (by decide)) 3).trans ((congrFun (hrz1 12 (by decide)) 3).trans (hR.k.p.nine)))) ?_
    refine pi_ca 1 (m' := 8) (l' := [some (.ref 37), some (.int (nI W.nine)), none]) (σ' := t3) (pc2 := 96) (l2 := [some (.ref 0), some (.int (nI mi)), some (.int (nI kd)), some (.int (nI dr)), some (.int ((z_A W).1.1.1 (5 * dr + kd) + nI 1)), some (.int (z_who W (nI mi) kd dr yd)), some (.int (nI yd))]) (t := []) (fun f => rfl) (pi_C_run_t (z_CK.of hR.k (pi_fr_tr rt3 (by decide) (pi_fr_tr rt2 (by decide) (pi_fr_tr hrz1 (by decide) (pi_fr_rf))))) (la := W.nine) (kw := W.nw) (by omega) ((kt3 5 (by decide)).trans (gt2_5)) ((kt3 6 (by decide)).trans (gt2_6)) (by omega) ((kt3 7 (by decide)).trans (gt2_7)) (md := yd) (mk := kd) (gt3_8) (by omega) (by omega) (fun m hm q => ⟨gt3_9, gt3_10⟩) (fun k hk1 => (congrFun (rt3 39 (by decide)) k).trans ((fun k hk1 => (congrFun (rt2 39 (by decide)) k).trans ((hx1.jc) k hk1)) k hk1)) (fun k hk1 => (congrFun (rt3 40 (by decide)) k).trans ((fun k hk1 => (congrFun (rt2 40 (by decide)) k).trans ((hx1.jd) k hk1)) k hk1))) ?_
    rintro _ t4 ⟨rfl, gt4_1, gt4_2, gt4_3, kt4, rt4⟩
    refine pi_ca 6 (m' := 22) (l' := [some (.ref 38), some (.int (nI dr)), some (.int (nI kd))]) (σ' := t4) (pc2 := 108) (l2 := [some (.ref 0), some (.int (nI mi)), some (.int (nI kd)), some (.int (nI dr)), some (.int ((z_A W).1.1.1 (5 * dr + kd) + nI 1)), some (.int (z_who W (nI mi) kd dr yd)), some (.int (nI yd))]) (t := []) (fun f => rfl) (pi_C_barrowsAt_t (by omega) (by omega)) ?_
    rintro _ _ ⟨rfl, rfl⟩
    refine pi_tp (y := ((z_Rc W (-1) W.nw (-1) (nI mi) yd kd (W.nine + 1)).1.1) (5 * dr + kd)) (congrFun (gt4_1) _) ?_
    refine pi_if 2 (c := ((z_Rc W (-1) W.nw (-1) (nI mi) yd kd (W.nine + 1)).1.1) (5 * dr + kd) = (z_A W).1.1.1 (5 * dr + kd) + nI 1) (pc' := 113) (l' := [some (.ref 0), some (.int (nI mi)), some (.int (nI kd)), some (.int (nI dr)), some (.int ((z_A W).1.1.1 (5 * dr + kd) + nI 1)), some (.int (z_who W (nI mi) kd dr yd)), some (.int (nI yd))]) (st' := []) (σ' := t4) (pc2 := 122) (l2 := [some (.ref 0), some (.int (nI mi)), some (.int (nI kd)), some (.int (nI dr)), some (.int ((z_A W).1.1.1 (5 * dr + kd) + nI 1)), some (.int (z_who W (nI mi) kd dr yd)), some (.int (nI yd))]) (st2 := []) (σ2 := t4) (fun f => rfl) (fun h1 => ?_) (fun h1 => ?_)
    · refine pi_go 7 (pc' := 125) (l' := [some (.ref 0), some (.int (nI mi)), some (.int (nI kd)), some (.int (nI dr)), some (.int ((z_A W).1.1.1 (5 * dr + kd) + nI 1)), some (.int ((z_who W (nI mi) kd dr yd) ||| ((nI 1) <<< (nI yd &&& 31)))), some (.int (nI yd + nI 1))]) (st' := []) (σ' := t4) (fun f => rfl) ?_
      rw [show nI yd + nI 1 = nI (yd + 1) from nI_add _ 1]
      refine pi_go 1 (pc' := 52) (l' := [some (.ref 0), some (.int (nI mi)), some (.int (nI kd)), some (.int (nI dr)), some (.int ((z_A W).1.1.1 (5 * dr + kd) + nI 1)), some (.int ((z_who W (nI mi) kd dr yd) ||| ((nI 1) <<< (nI yd &&& 31)))), some (.int (nI (yd + 1)))]) (st' := []) (σ' := t4) (fun f => rfl) ?_
      rw [show some (Value.int ((z_who W (nI mi) kd dr yd) ||| ((nI 1) <<< (nI yd &&& 31)))) = some (Value.int (z_who W (nI mi) kd dr (yd + 1))) from congrArg (fun z => some (Value.int z)) (by rw [z_who_s, ← z_whoC W hn60 (nI mi) yd kd, if_pos h1])]
      exact ih1 _ (pi_fr_tr rt4 (by decide) (pi_fr_tr rt3 (by decide) (pi_fr_tr rt2 (by decide) (pi_fr_tr hrz1 (by decide) (pi_fr_rf))))) ((hx1.of (pi_fr_tr rt4 (by decide) (pi_fr_tr rt3 (by decide) (pi_fr_tr rt2 (by decide) (pi_fr_rf)))) (fun k hk1 => (congrFun (gt4_1) k).trans ((z_Rc_tail hk (by omega) (by omega) (by omega) _).1 k hk1)) (fun k hk1 => (congrFun (gt4_2) k).trans ((z_Rc_tail hk (by omega) (by omega) (by omega) _).2 k hk1))))
    · refine pi_go 1 (pc' := 125) (l' := [some (.ref 0), some (.int (nI mi)), some (.int (nI kd)), some (.int (nI dr)), some (.int ((z_A W).1.1.1 (5 * dr + kd) + nI 1)), some (.int (z_who W (nI mi) kd dr yd)), some (.int (nI yd + nI 1))]) (st' := []) (σ' := t4) (fun f => rfl) ?_
      rw [show nI yd + nI 1 = nI (yd + 1) from nI_add _ 1]
      refine pi_go 1 (pc' := 52) (l' := [some (.ref 0), some (.int (nI mi)), some (.int (nI kd)), some (.int (nI dr)), some (.int ((z_A W).1.1.1 (5 * dr + kd) + nI 1)), some (.int (z_who W (nI mi) kd dr yd)), some (.int (nI (yd + 1)))]) (st' := []) (σ' := t4) (fun f => rfl) ?_
      rw [show some (Value.int (z_who W (nI mi) kd dr yd)) = some (Value.int (z_who W (nI mi) kd dr (yd + 1))) from congrArg (fun z => some (Value.int z)) (by rw [z_who_s, ← z_whoC W hn60 (nI mi) yd kd, if_neg h1]; exact (z_or0 _).symm)]
      exact ih1 _ (pi_fr_tr rt4 (by decide) (pi_fr_tr rt3 (by decide) (pi_fr_tr rt2 (by decide) (pi_fr_tr hrz1 (by decide) (pi_fr_rf))))) ((hx1.of (pi_fr_tr rt4 (by decide) (pi_fr_tr rt3 (by decide) (pi_fr_tr rt2 (by decide) (pi_fr_rf)))) (fun k hk1 => (congrFun (gt4_1) k).trans ((z_Rc_tail hk (by omega) (by omega) (by omega) _).1 k hk1)) (fun k hk1 => (congrFun (gt4_2) k).trans ((z_Rc_tail hk (by omega) (by omega) (by omega) _).2 k hk1))))
set_option maxRecDepth 20000 in
theorem pi_X_origin_bad {xs : Nat → Int32} {L d : Nat} {W : zW} {σ : pi_S} (hR : z_CR W σ) {a b : Int32} (hb : ¬ (z_B W.nd a ∧ z_B 5 b))  : pi_wp xs L (d + 9) 84 0 [some (.ref 0), some (.int a), some (.int b)] [] σ (fun v s => v = some (.int (-2)) ∧ z_CR W s ∧ pi_fr z_CJ s σ) := by
  have hk := hR.k.p.wk
  have hnd8 := hk.wd.nd8
  have hns12 := hk.wd.ns12
  have hn60 := hk.nine
  have hnf := hk.nf
  have hnw := hk.nw
  have hnc := hk.nc
  have hn08 := hk.wd.n0
  have hn140 := hk.wd.n1
  refine pi_ca 4 (m' := 48) (l' := [some (.ref 1), some (.int a)]) (σ' := σ) (pc2 := 8) (l2 := [some (.ref 0), some (.int a), some (.int b)]) (t := []) (fun f => rfl) (pi_C_hasDoor (hR.k.t.d) (by omega)) ?_
  rintro _ _ (⟨b1, rfl, rfl⟩ | ⟨b1, rfl, rfl⟩)
  · refine pi_cf 1 (c := nI 1 = 0) (pc' := 11) (l' := [some (.ref 0), some (.int a), some (.int b)]) (st' := []) (σ' := σ) (pc2 := 19) (l2 := [some (.ref 0), some (.int a), some (.int b)]) (st2 := []) (σ2 := σ) (fun f => rfl) (by decide) ?_
    refine pi_ca 3 (m' := 94) (l' := [some (.int b), some (.int (nI 5))]) (σ' := σ) (pc2 := 16) (l2 := [some (.ref 0), some (.int a), some (.int b)]) (t := []) (fun f => rfl) (pi_C_belowB (a := b) (n := 5) (by omega)) ?_
    rintro _ _ (⟨b2, rfl, rfl⟩ | ⟨b2, rfl, rfl⟩)
    · refine pi_cf 1 (c := nI 1 = 0) (pc' := 22) (l' := [some (.ref 0), some (.int a), some (.int b)]) (st' := []) (σ' := σ) (pc2 := 19) (l2 := [some (.ref 0), some (.int a), some (.int b)]) (st2 := []) (σ2 := σ) (fun f => rfl) (by decide) ?_
      exact (hb ⟨b1, b2⟩).elim
    · refine pi_ct 1 (c := nI 0 = 0) (pc' := 19) (l' := [some (.ref 0), some (.int a), some (.int b)]) (st' := []) (σ' := σ) (pc2 := 22) (l2 := [some (.ref 0), some (.int a), some (.int b)]) (st2 := []) (σ2 := σ) (fun f => rfl) (by decide) ?_
      refine pi_rt 2 (v := some (.int (-2))) (σ' := σ) (fun f => rfl) ?_
      exact ⟨rfl, hR, pi_fr_rf⟩
  · refine pi_ct 1 (c := nI 0 = 0) (pc' := 19) (l' := [some (.ref 0), some (.int a), some (.int b)]) (st' := []) (σ' := σ) (pc2 := 11) (l2 := [some (.ref 0), some (.int a), some (.int b)]) (st2 := []) (σ2 := σ) (fun f => rfl) (by decide) ?_
    refine pi_rt 2 (v := some (.int (-2))) (σ' := σ) (fun f => rfl) ?_
    exact ⟨rfl, hR, pi_fr_rf⟩
set_option maxRecDepth 20000 in
theorem pi_X_origin {xs : Nat → Int32} {L d : Nat} {W : zW} {σ : pi_S} (hR : z_CR W σ) {dr : Nat} (hd : dr < W.nd) {kd : Nat} (hkd : kd < 5)  : pi_wp xs L (d + 9) 84 0 [some (.ref 0), some (.int (nI dr)), some (.int (nI kd))] [] σ (fun v s => v = some (.int ((z_A W).1.1.2 (5 * dr + kd))) ∧ z_CR W s ∧ pi_fr z_CJ s σ) := by
  have hk := hR.k.p.wk
  have hnd8 := hk.wd.nd8
  have hns12 := hk.wd.ns12
  have hn60 := hk.nine
  have hnf := hk.nf
  have hnw := hk.nw
  have hnc := hk.nc
  have hn08 := hk.wd.n0
  have hn140 := hk.wd.n1
  refine pi_ca 4 (m' := 48) (l' := [some (.ref 1), some (.int (nI dr))]) (σ' := σ) (pc2 := 8) (l2 := [some (.ref 0), some (.int (nI dr)), some (.int (nI kd))]) (t := []) (fun f => rfl) (pi_C_hasDoorT (hR.k.t.d) (by omega) (by omega)) ?_
  rintro _ _ ⟨rfl, rfl⟩
  refine pi_cf 1 (c := nI 1 = 0) (pc' := 11) (l' := [some (.ref 0), some (.int (nI dr)), some (.int (nI kd))]) (st' := []) (σ' := σ) (pc2 := 19) (l2 := [some (.ref 0), some (.int (nI dr)), some (.int (nI kd))]) (st2 := []) (σ2 := σ) (fun f => rfl) (by decide) ?_
  refine pi_ca 3 (m' := 94) (l' := [some (.int (nI kd)), some (.int (nI 5))]) (σ' := σ) (pc2 := 16) (l2 := [some (.ref 0), some (.int (nI dr)), some (.int (nI kd))]) (t := []) (fun f => rfl) (pi_below1 _ _ (z_BL (by omega) (by omega))) ?_
  rintro _ _ ⟨rfl, rfl⟩
  refine pi_cf 1 (c := nI 1 = 0) (pc' := 22) (l' := [some (.ref 0), some (.int (nI dr)), some (.int (nI kd))]) (st' := []) (σ' := σ) (pc2 := 19) (l2 := [some (.ref 0), some (.int (nI dr)), some (.int (nI kd))]) (st2 := []) (σ2 := σ) (fun f => rfl) (by decide) ?_
  refine pi_ca 6 (m' := 24) (l' := [some (.ref 34), some (.int (nI dr)), some (.int (nI kd))]) (σ' := σ) (pc2 := 34) (l2 := [some (.ref 0), some (.int (nI dr)), some (.int (nI kd))]) (t := []) (fun f => rfl) (pi_C_yardsAt_c (by omega) (by omega)) ?_
  rintro _ _ ⟨rfl, rfl⟩
  refine pi_tp (y := ((z_A W).1.1.2) (5 * dr + kd)) (congrFun (hR.y) _) ?_
  refine pi_rt 1 (v := some (.int (((z_A W).1.1.2) (5 * dr + kd)))) (σ' := σ) (fun f => rfl) ?_
  exact ⟨rfl, hR, pi_fr_rf⟩
theorem z_rw2 {xs : Nat → Int32} {L d m pc : Nat} {st : List Value} {σ : pi_S} {Q : Option Value → pi_S → Prop} {a a' b b' : Int32} (x0 x3 x4 : Option Value) (ha : a = a') (hb : b = b') (h : pi_wp xs L d m pc [x0, some (.int a'), some (.int b'), x3, x4] st σ Q) : pi_wp xs L d m pc [x0, some (.int a), some (.int b), x3, x4] st σ Q := by
  rw [ha, hb]
  exact h
set_option maxRecDepth 20000 in
theorem pi_X_best {xs : Nat → Int32} {L d : Nat} {W : zW} {σ : pi_S} (hR : z_CR W σ)   : pi_wp xs L (d + 9) 85 0 [some (.ref 0), none, none, none, none] [] σ (fun v s => v = some (.int (z_bv (z_fine W.rt (z_A W).1.1.1) W.nd)) ∧ z_CR W s ∧ pi_fr z_CJ s σ) := by
  have hk := hR.k.p.wk
  have hnd8 := hk.wd.nd8
  have hns12 := hk.wd.ns12
  have hn60 := hk.nine
  have hnf := hk.nf
  have hnw := hk.nw
  have hnc := hk.nc
  have hn08 := hk.wd.n0
  have hn140 := hk.wd.n1
  refine pi_go 6 (pc' := 6) (l' := [some (.ref 0), some (.int (-1)), some (.int (-1)), some (.int (nI 0)), none]) (st' := []) (σ' := σ) (fun f => rfl) ?_
  refine z_rw2 (a' := z_bv (z_fine W.rt (z_A W).1.1.1) 0) (b' := z_bm (z_fine W.rt (z_A W).1.1.1) 0) _ _ _ rfl rfl ?_
  suffices hl1 : ∀ i, i ≤ W.nd → ∀ (j4 : Option Value), pi_wp xs L (d + 9) 85 6 [some (.ref 0), some (.int (z_bv (z_fine W.rt (z_A W).1.1.1) i)), some (.int (z_bm (z_fine W.rt (z_A W).1.1.1) i)), some (.int (nI i)), j4] [] σ (fun v s => v = some (.int (z_bv (z_fine W.rt (z_A W).1.1.1) W.nd)) ∧ z_CR W s ∧ pi_fr z_CJ s σ) from hl1 0 (by omega) _ 
  refine pi_lp0 ?_ ?_
  · intro j4
    refine pi_go 4 (pc' := 14) (l' := [some (.ref 0), some (.int (z_bv (z_fine W.rt (z_A W).1.1.1) W.nd)), some (.int (z_bm (z_fine W.rt (z_A W).1.1.1) W.nd)), some (.int (nI W.nd)), j4]) (st' := [.int (σ 1 8), .int (nI W.nd)]) (σ' := σ) (fun f => rfl) ?_
    refine pi_tp (y := nI W.nd) (hR.k.t.d) ?_
    refine pi_ct 1 (c := nI W.nd ≤ nI W.nd) (pc' := 44) (l' := [some (.ref 0), some (.int (z_bv (z_fine W.rt (z_A W).1.1.1) W.nd)), some (.int (z_bm (z_fine W.rt (z_A W).1.1.1) W.nd)), some (.int (nI W.nd)), j4]) (st' := []) (σ' := σ) (pc2 := 17) (l2 := [some (.ref 0), some (.int (z_bv (z_fine W.rt (z_A W).1.1.1) W.nd)), some (.int (z_bm (z_fine W.rt (z_A W).1.1.1) W.nd)), some (.int (nI W.nd)), j4]) (st2 := []) (σ2 := σ) (fun f => rfl) ((show nI W.nd ≤ nI W.nd ↔ _ from nI_leI (by omega) (by omega)).mpr (by omega)) ?_
    refine pi_rt 2 (v := some (.int (z_bv (z_fine W.rt (z_A W).1.1.1) W.nd))) (σ' := σ) (fun f => rfl) ?_
    exact ⟨rfl, hR, pi_fr_rf⟩
  · intro i hi1 ih1 j4
    obtain ⟨fb, hfb, efb⟩ := z_fine_nn hk (z_A_nn hk) (d := i) (by omega)
    by_cases hi0 : i = 0
    · rw [show some (Value.int (z_bv (z_fine W.rt (z_A W).1.1.1) i)) = some (Value.int (-1)) from congrArg (fun z => some (Value.int z)) (z_bv_z hi0), show some (Value.int (z_bm (z_fine W.rt (z_A W).1.1.1) i)) = some (Value.int (-1)) from congrArg (fun z => some (Value.int z)) (z_bm_z hi0)]
      refine pi_go 4 (pc' := 14) (l' := [some (.ref 0), some (.int (-1)), some (.int (-1)), some (.int (nI i)), j4]) (st' := [.int (σ 1 8), .int (nI i)]) (σ' := σ) (fun f => rfl) ?_
      refine pi_tp (y := nI W.nd) (hR.k.t.d) ?_
      refine pi_cf 1 (c := nI W.nd ≤ nI i) (pc' := 17) (l' := [some (.ref 0), some (.int (-1)), some (.int (-1)), some (.int (nI i)), j4]) (st' := []) (σ' := σ) (pc2 := 44) (l2 := [some (.ref 0), some (.int (-1)), some (.int (-1)), some (.int (nI i)), j4]) (st2 := []) (σ2 := σ) (fun f => rfl) (fun zq => absurd ((show nI W.nd ≤ nI i ↔ _ from nI_leI (by omega) (by omega)).mp zq) (by omega)) ?_
      refine pi_ca 4 (m' := 16) (l' := [some (.ref 33), some (.int (nI i)), none, none]) (σ' := σ) (pc2 := 25) (l2 := [some (.ref 0), some (.int (-1)), some (.int (-1)), some (.int (nI i)), j4]) (t := []) (fun f => rfl) (pi_C_fineAt_c hR.k (by omega)) ?_
      rintro _ _ ⟨rfl, rfl⟩
      refine pi_tp (y := z_fine W.rt ((z_A W).1.1.1) i) (z_fine_c rfl (hR.b) _) ?_
      refine pi_cf 4 (c := z_fine W.rt ((z_A W).1.1.1) i ≤ (-1)) (pc' := 33) (l' := [some (.ref 0), some (.int (-1)), some (.int (-1)), some (.int (nI i)), some (.int (z_fine W.rt ((z_A W).1.1.1) i))]) (st' := []) (σ' := σ) (pc2 := 38) (l2 := [some (.ref 0), some (.int (-1)), some (.int (-1)), some (.int (nI i)), some (.int (z_fine W.rt ((z_A W).1.1.1) i))]) (st2 := []) (σ2 := σ) (fun f => rfl) (by rw [efb]; exact Int32.not_le.mpr (z_mlt (by omega))) ?_
      refine pi_go 5 (pc' := 41) (l' := [some (.ref 0), some (.int (nI i)), some (.int (z_fine W.rt ((z_A W).1.1.1) i)), some (.int (nI i + nI 1)), some (.int (z_fine W.rt ((z_A W).1.1.1) i))]) (st' := []) (σ' := σ) (fun f => rfl) ?_
      rw [show nI i + nI 1 = nI (i + 1) from nI_add _ 1]
      refine pi_go 1 (pc' := 6) (l' := [some (.ref 0), some (.int (nI i)), some (.int (z_fine W.rt ((z_A W).1.1.1) i)), some (.int (nI (i + 1))), some (.int (z_fine W.rt ((z_A W).1.1.1) i))]) (st' := []) (σ' := σ) (fun f => rfl) ?_
      have hst : i = z_bst (z_fine W.rt (z_A W).1.1.1) (i + 1) := by rw [z_bst_s, if_pos hi0]; exact hi0
      refine z_rw2 _ _ _ ((congrArg nI hst).trans (z_bv_n (Nat.succ_ne_zero i)).symm) ((congrArg (z_fine W.rt (z_A W).1.1.1) hst).trans (z_bm_n (Nat.succ_ne_zero i)).symm) ?_
      exact ih1 _ 
    · rw [show some (Value.int (z_bv (z_fine W.rt (z_A W).1.1.1) i)) = some (Value.int (nI (z_bst (z_fine W.rt (z_A W).1.1.1) i))) from congrArg (fun z => some (Value.int z)) (z_bv_n hi0)]
      rw [show some (Value.int (z_bm (z_fine W.rt (z_A W).1.1.1) i)) = some (Value.int ((z_fine W.rt (z_A W).1.1.1) (z_bst (z_fine W.rt (z_A W).1.1.1) i))) from congrArg (fun z => some (Value.int z)) (z_bm_n hi0)]
      have hbl := z_bst_lt (z_fine W.rt (z_A W).1.1.1) i (by omega)
      refine pi_go 4 (pc' := 14) (l' := [some (.ref 0), some (.int (nI (z_bst (z_fine W.rt (z_A W).1.1.1) i))), some (.int ((z_fine W.rt (z_A W).1.1.1) (z_bst (z_fine W.rt (z_A W).1.1.1) i))), some (.int (nI i)), j4]) (st' := [.int (σ 1 8), .int (nI i)]) (σ' := σ) (fun f => rfl) ?_
      refine pi_tp (y := nI W.nd) (hR.k.t.d) ?_
      refine pi_cf 1 (c := nI W.nd ≤ nI i) (pc' := 17) (l' := [some (.ref 0), some (.int (nI (z_bst (z_fine W.rt (z_A W).1.1.1) i))), some (.int ((z_fine W.rt (z_A W).1.1.1) (z_bst (z_fine W.rt (z_A W).1.1.1) i))), some (.int (nI i)), j4]) (st' := []) (σ' := σ) (pc2 := 44) (l2 := [some (.ref 0), some (.int (nI (z_bst (z_fine W.rt (z_A W).1.1.1) i))), some (.int ((z_fine W.rt (z_A W).1.1.1) (z_bst (z_fine W.rt (z_A W).1.1.1) i))), some (.int (nI i)), j4]) (st2 := []) (σ2 := σ) (fun f => rfl) (fun zq => absurd ((show nI W.nd ≤ nI i ↔ _ from nI_leI (by omega) (by omega)).mp zq) (by omega)) ?_
      refine pi_ca 4 (m' := 16) (l' := [some (.ref 33), some (.int (nI i)), none, none]) (σ' := σ) (pc2 := 25) (l2 := [some (.ref 0), some (.int (nI (z_bst (z_fine W.rt (z_A W).1.1.1) i))), some (.int ((z_fine W.rt (z_A W).1.1.1) (z_bst (z_fine W.rt (z_A W).1.1.1) i))), some (.int (nI i)), j4]) (t := []) (fun f => rfl) (pi_C_fineAt_c hR.k (by omega)) ?_
      rintro _ _ ⟨rfl, rfl⟩
      refine pi_tp (y := z_fine W.rt ((z_A W).1.1.1) i) (z_fine_c rfl (hR.b) _) ?_
      refine pi_if 4 (c := z_fine W.rt ((z_A W).1.1.1) i ≤ (z_fine W.rt (z_A W).1.1.1) (z_bst (z_fine W.rt (z_A W).1.1.1) i)) (pc' := 38) (l' := [some (.ref 0), some (.int (nI (z_bst (z_fine W.rt (z_A W).1.1.1) i))), some (.int ((z_fine W.rt (z_A W).1.1.1) (z_bst (z_fine W.rt (z_A W).1.1.1) i))), some (.int (nI i)), some (.int (z_fine W.rt ((z_A W).1.1.1) i))]) (st' := []) (σ' := σ) (pc2 := 33) (l2 := [some (.ref 0), some (.int (nI (z_bst (z_fine W.rt (z_A W).1.1.1) i))), some (.int ((z_fine W.rt (z_A W).1.1.1) (z_bst (z_fine W.rt (z_A W).1.1.1) i))), some (.int (nI i)), some (.int (z_fine W.rt ((z_A W).1.1.1) i))]) (st2 := []) (σ2 := σ) (fun f => rfl) (fun h1 => ?_) (fun h1 => ?_)
      · refine pi_go 1 (pc' := 41) (l' := [some (.ref 0), some (.int (nI (z_bst (z_fine W.rt (z_A W).1.1.1) i))), some (.int ((z_fine W.rt (z_A W).1.1.1) (z_bst (z_fine W.rt (z_A W).1.1.1) i))), some (.int (nI i + nI 1)), some (.int (z_fine W.rt ((z_A W).1.1.1) i))]) (st' := []) (σ' := σ) (fun f => rfl) ?_
        rw [show nI i + nI 1 = nI (i + 1) from nI_add _ 1]
        refine pi_go 1 (pc' := 6) (l' := [some (.ref 0), some (.int (nI (z_bst (z_fine W.rt (z_A W).1.1.1) i))), some (.int ((z_fine W.rt (z_A W).1.1.1) (z_bst (z_fine W.rt (z_A W).1.1.1) i))), some (.int (nI (i + 1))), some (.int (z_fine W.rt ((z_A W).1.1.1) i))]) (st' := []) (σ' := σ) (fun f => rfl) ?_
        have hst : z_bst (z_fine W.rt (z_A W).1.1.1) i = z_bst (z_fine W.rt (z_A W).1.1.1) (i + 1) := by rw [z_bst_s, if_neg hi0, if_neg (fun q => Int32.not_lt.mpr h1 q)]
        refine z_rw2 _ _ _ ((congrArg nI hst).trans (z_bv_n (Nat.succ_ne_zero i)).symm) ((congrArg (z_fine W.rt (z_A W).1.1.1) hst).trans (z_bm_n (Nat.succ_ne_zero i)).symm) ?_
        exact ih1 _ 
      · refine pi_go 5 (pc' := 41) (l' := [some (.ref 0), some (.int (nI i)), some (.int (z_fine W.rt ((z_A W).1.1.1) i)), some (.int (nI i + nI 1)), some (.int (z_fine W.rt ((z_A W).1.1.1) i))]) (st' := []) (σ' := σ) (fun f => rfl) ?_
        rw [show nI i + nI 1 = nI (i + 1) from nI_add _ 1]
        refine pi_go 1 (pc' := 6) (l' := [some (.ref 0), some (.int (nI i)), some (.int (z_fine W.rt ((z_A W).1.1.1) i)), some (.int (nI (i + 1))), some (.int (z_fine W.rt ((z_A W).1.1.1) i))]) (st' := []) (σ' := σ) (fun f => rfl) ?_
        have hst : i = z_bst (z_fine W.rt (z_A W).1.1.1) (i + 1) := by rw [z_bst_s, if_neg hi0, if_pos (Int32.not_le.mp h1)]
        refine z_rw2 _ _ _ ((congrArg nI hst).trans (z_bv_n (Nat.succ_ne_zero i)).symm) ((congrArg (z_fine W.rt (z_A W).1.1.1) hst).trans (z_bm_n (Nat.succ_ne_zero i)).symm) ?_
        exact ih1 _ 
set_option maxRecDepth 20000 in
theorem pi_X_count0 {xs : Nat → Int32} {L d : Nat} {W : zW} {σ : pi_S} (hR : z_CR W σ)   : pi_wp xs L (d + 9) 92 0 [some (.ref 0), some (.int (nI 0))] [] σ (fun v s => v = some (.int (nI W.nd)) ∧ z_CR W s ∧ pi_fr z_CJ s σ) := by
  have hk := hR.k.p.wk
  have hnd8 := hk.wd.nd8
  have hns12 := hk.wd.ns12
  have hn60 := hk.nine
  have hnf := hk.nf
  have hnw := hk.nw
  have hnc := hk.nc
  have hn08 := hk.wd.n0
  have hn140 := hk.wd.n1
  refine pi_go 2 (pc' := 52) (l' := [some (.ref 0), some (.int (nI 0))]) (st' := []) (σ' := σ) (fun f => rfl) ?_
  refine pi_go 3 (pc' := 59) (l' := [some (.ref 0), some (.int (nI 0))]) (st' := [.int (σ 1 8)]) (σ' := σ) (fun f => rfl) ?_
  refine pi_tp (y := nI W.nd) (hR.k.t.d) ?_
  refine pi_rt 1 (v := some (.int (nI W.nd))) (σ' := σ) (fun f => rfl) ?_
  exact ⟨rfl, hR, pi_fr_rf⟩
set_option maxRecDepth 20000 in
theorem pi_X_count1 {xs : Nat → Int32} {L d : Nat} {W : zW} {σ : pi_S} (hR : z_CR W σ)   : pi_wp xs L (d + 9) 92 0 [some (.ref 0), some (.int (nI 1))] [] σ (fun v s => v = some (.int (nI W.ns)) ∧ z_CR W s ∧ pi_fr z_CJ s σ) := by
  have hk := hR.k.p.wk
  have hnd8 := hk.wd.nd8
  have hns12 := hk.wd.ns12
  have hn60 := hk.nine
  have hnf := hk.nf
  have hnw := hk.nw
  have hnc := hk.nc
  have hn08 := hk.wd.n0
  have hn140 := hk.wd.n1
  refine pi_go 2 (pc' := 60) (l' := [some (.ref 0), some (.int (nI 1))]) (st' := []) (σ' := σ) (fun f => rfl) ?_
  refine pi_go 3 (pc' := 67) (l' := [some (.ref 0), some (.int (nI 1))]) (st' := [.int (σ 1 9)]) (σ' := σ) (fun f => rfl) ?_
  refine pi_tp (y := nI W.ns) (hR.k.t.st) ?_
  refine pi_rt 1 (v := some (.int (nI W.ns))) (σ' := σ) (fun f => rfl) ?_
  exact ⟨rfl, hR, pi_fr_rf⟩
set_option maxRecDepth 20000 in
theorem pi_X_count2 {xs : Nat → Int32} {L d : Nat} {W : zW} {σ : pi_S} (hR : z_CR W σ)   : pi_wp xs L (d + 9) 92 0 [some (.ref 0), some (.int (nI 2))] [] σ (fun v s => v = some (.int (nI W.n0)) ∧ z_CR W s ∧ pi_fr z_CJ s σ) := by
  have hk := hR.k.p.wk
  have hnd8 := hk.wd.nd8
  have hns12 := hk.wd.ns12
  have hn60 := hk.nine
  have hnf := hk.nf
  have hnw := hk.nw
  have hnc := hk.nc
  have hn08 := hk.wd.n0
  have hn140 := hk.wd.n1
  refine pi_go 2 (pc' := 68) (l' := [some (.ref 0), some (.int (nI 2))]) (st' := []) (σ' := σ) (fun f => rfl) ?_
  refine pi_go 4 (pc' := 78) (l' := [some (.ref 0), some (.int (nI 2))]) (st' := [.int (σ 2 2)]) (σ' := σ) (fun f => rfl) ?_
  refine pi_tp (y := nI W.n0) (hR.k.p.n0) ?_
  refine pi_rt 1 (v := some (.int (nI W.n0))) (σ' := σ) (fun f => rfl) ?_
  exact ⟨rfl, hR, pi_fr_rf⟩
set_option maxRecDepth 20000 in
theorem pi_X_count3 {xs : Nat → Int32} {L d : Nat} {W : zW} {σ : pi_S} (hR : z_CR W σ)   : pi_wp xs L (d + 9) 92 0 [some (.ref 0), some (.int (nI 3))] [] σ (fun v s => v = some (.int (nI W.n1)) ∧ z_CR W s ∧ pi_fr z_CJ s σ) := by
  have hk := hR.k.p.wk
  have hnd8 := hk.wd.nd8
  have hns12 := hk.wd.ns12
  have hn60 := hk.nine
  have hnf := hk.nf
  have hnw := hk.nw
  have hnc := hk.nc
  have hn08 := hk.wd.n0
  have hn140 := hk.wd.n1
  refine pi_go 2 (pc' := 79) (l' := [some (.ref 0), some (.int (nI 3))]) (st' := []) (σ' := σ) (fun f => rfl) ?_
  refine pi_go 4 (pc' := 89) (l' := [some (.ref 0), some (.int (nI 3))]) (st' := [.int (σ 4 2)]) (σ' := σ) (fun f => rfl) ?_
  refine pi_tp (y := nI W.n1) (hR.k.p.n1) ?_
  refine pi_rt 1 (v := some (.int (nI W.n1))) (σ' := σ) (fun f => rfl) ?_
  exact ⟨rfl, hR, pi_fr_rf⟩
set_option maxRecDepth 20000 in
theorem pi_X_count4 {xs : Nat → Int32} {L d : Nat} {W : zW} {σ : pi_S} (hR : z_CR W σ)   : pi_wp xs L (d + 9) 92 0 [some (.ref 0), some (.int (nI 4))] [] σ (fun v s => v = some (.int (nI W.nf)) ∧ z_CR W s ∧ pi_fr z_CJ s σ) := by
  have hk := hR.k.p.wk
  have hnd8 := hk.wd.nd8
  have hns12 := hk.wd.ns12
  have hn60 := hk.nine
  have hnf := hk.nf
  have hnw := hk.nw
  have hnc := hk.nc
  have hn08 := hk.wd.n0
  have hn140 := hk.wd.n1
  refine pi_go 2 (pc' := 90) (l' := [some (.ref 0), some (.int (nI 4))]) (st' := []) (σ' := σ) (fun f => rfl) ?_
  refine pi_go 4 (pc' := 100) (l' := [some (.ref 0), some (.int (nI 4))]) (st' := [.int (σ 17 5)]) (σ' := σ) (fun f => rfl) ?_
  refine pi_tp (y := nI W.nf) (hR.k.p.nf) ?_
  refine pi_rt 1 (v := some (.int (nI W.nf))) (σ' := σ) (fun f => rfl) ?_
  exact ⟨rfl, hR, pi_fr_rf⟩
set_option maxRecDepth 20000 in
theorem pi_X_count5 {xs : Nat → Int32} {L d : Nat} {W : zW} {σ : pi_S} (hR : z_CR W σ)   : pi_wp xs L (d + 9) 92 0 [some (.ref 0), some (.int (nI 5))] [] σ (fun v s => v = some (.int (nI W.nw)) ∧ z_CR W s ∧ pi_fr z_CJ s σ) := by
  have hk := hR.k.p.wk
  have hnd8 := hk.wd.nd8
  have hns12 := hk.wd.ns12
  have hn60 := hk.nine
  have hnf := hk.nf
  have hnw := hk.nw
  have hnc := hk.nc
  have hn08 := hk.wd.n0
  have hn140 := hk.wd.n1
  refine pi_go 2 (pc' := 101) (l' := [some (.ref 0), some (.int (nI 5))]) (st' := []) (σ' := σ) (fun f => rfl) ?_
  refine pi_go 4 (pc' := 111) (l' := [some (.ref 0), some (.int (nI 5))]) (st' := [.int (σ 22 5)]) (σ' := σ) (fun f => rfl) ?_
  refine pi_tp (y := nI W.nw) (hR.k.p.nw) ?_
  refine pi_rt 1 (v := some (.int (nI W.nw))) (σ' := σ) (fun f => rfl) ?_
  exact ⟨rfl, hR, pi_fr_rf⟩
set_option maxRecDepth 20000 in
theorem pi_X_count6 {xs : Nat → Int32} {L d : Nat} {W : zW} {σ : pi_S} (hR : z_CR W σ)   : pi_wp xs L (d + 9) 92 0 [some (.ref 0), some (.int (nI 6))] [] σ (fun v s => v = some (.int (nI W.nc)) ∧ z_CR W s ∧ pi_fr z_CJ s σ) := by
  have hk := hR.k.p.wk
  have hnd8 := hk.wd.nd8
  have hns12 := hk.wd.ns12
  have hn60 := hk.nine
  have hnf := hk.nf
  have hnw := hk.nw
  have hnc := hk.nc
  have hn08 := hk.wd.n0
  have hn140 := hk.wd.n1
  refine pi_go 2 (pc' := 112) (l' := [some (.ref 0), some (.int (nI 6))]) (st' := []) (σ' := σ) (fun f => rfl) ?_
  refine pi_go 4 (pc' := 122) (l' := [some (.ref 0), some (.int (nI 6))]) (st' := [.int (σ 27 5)]) (σ' := σ) (fun f => rfl) ?_
  refine pi_tp (y := nI W.nc) (hR.k.p.nc) ?_
  refine pi_rt 1 (v := some (.int (nI W.nc))) (σ' := σ) (fun f => rfl) ?_
  exact ⟨rfl, hR, pi_fr_rf⟩
set_option maxRecDepth 20000 in
theorem pi_X_count7 {xs : Nat → Int32} {L d : Nat} {W : zW} {σ : pi_S} (hR : z_CR W σ)   : pi_wp xs L (d + 9) 92 0 [some (.ref 0), some (.int (nI 7))] [] σ (fun v s => v = some (.int (nI W.nine)) ∧ z_CR W s ∧ pi_fr z_CJ s σ) := by
  have hk := hR.k.p.wk
  have hnd8 := hk.wd.nd8
  have hns12 := hk.wd.ns12
  have hn60 := hk.nine
  have hnf := hk.nf
  have hnw := hk.nw
  have hnc := hk.nc
  have hn08 := hk.wd.n0
  have hn140 := hk.wd.n1
  refine pi_go 2 (pc' := 123) (l' := [some (.ref 0), some (.int (nI 7))]) (st' := []) (σ' := σ) (fun f => rfl) ?_
  refine pi_go 3 (pc' := 130) (l' := [some (.ref 0), some (.int (nI 7))]) (st' := [.int (σ 12 3)]) (σ' := σ) (fun f => rfl) ?_
  refine pi_tp (y := nI W.nine) (hR.k.p.nine) ?_
  refine pi_rt 1 (v := some (.int (nI W.nine))) (σ' := σ) (fun f => rfl) ?_
  exact ⟨rfl, hR, pi_fr_rf⟩
set_option maxRecDepth 20000 in
theorem pi_X_count8 {xs : Nat → Int32} {L d : Nat} {W : zW} {σ : pi_S} (hR : z_CR W σ)   : pi_wp xs L (d + 9) 92 0 [some (.ref 0), some (.int (nI 8))] [] σ (fun v s => v = some (.int (W.fi)) ∧ z_CR W s ∧ pi_fr z_CJ s σ) := by
  have hk := hR.k.p.wk
  have hnd8 := hk.wd.nd8
  have hns12 := hk.wd.ns12
  have hn60 := hk.nine
  have hnf := hk.nf
  have hnw := hk.nw
  have hnc := hk.nc
  have hn08 := hk.wd.n0
  have hn140 := hk.wd.n1
  refine pi_go 2 (pc' := 131) (l' := [some (.ref 0), some (.int (nI 8))]) (st' := []) (σ' := σ) (fun f => rfl) ?_
  refine pi_go 2 (pc' := 135) (l' := [some (.ref 0), some (.int (nI 8))]) (st' := [.int (σ 0 7)]) (σ' := σ) (fun f => rfl) ?_
  refine pi_tp (y := W.fi) (hR.k.p.fi) ?_
  refine pi_rt 1 (v := some (.int W.fi)) (σ' := σ) (fun f => rfl) ?_
  exact ⟨rfl, hR, pi_fr_rf⟩
set_option maxRecDepth 20000 in
theorem pi_X_count_bad {xs : Nat → Int32} {L d : Nat} {W : zW} {σ : pi_S} (hR : z_CR W σ) {a : Int32} (hb : ¬ z_B 9 a)  : pi_wp xs L (d + 9) 92 0 [some (.ref 0), some (.int a)] [] σ (fun v s => v = some (.int (-2)) ∧ z_CR W s ∧ pi_fr z_CJ s σ) := by
  have hk := hR.k.p.wk
  have hnd8 := hk.wd.nd8
  have hns12 := hk.wd.ns12
  have hn60 := hk.nine
  have hnf := hk.nf
  have hnw := hk.nw
  have hnc := hk.nc
  have hn08 := hk.wd.n0
  have hn140 := hk.wd.n1
  refine pi_go 2 (pc' := 136) (l' := [some (.ref 0), some (.int a)]) (st' := []) (σ' := σ) (fun f => if_pos (z_sw9 hb)) ?_
  refine pi_rt 2 (v := some (.int (-2))) (σ' := σ) (fun f => rfl) ?_
  exact ⟨rfl, hR, pi_fr_rf⟩
