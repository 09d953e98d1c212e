set_option maxRecDepth 20000 in
theorem pi_C_byte0 {xs : Nat → Int32} {L d : Nat} {W : zW} {σ : pi_S} (hk : z_wk W) (hx : z_TX W σ) {k : Nat} (hkn : k < W.n0)  : pi_wp xs L (d + 1) 45 0 [some (.ref 2), some (.int (nI k))] [] σ (fun v s => v = some (.int (W.tx (0 + k))) ∧ σ = s) := by
  have hnd8 := hk.wd.nd8
  have hns12 := hk.wd.ns12
  have hn60 := hk.nine
  have hnf := hk.nf
  have hnw := hk.nw
  have hnc := hk.nc
  have hn08 := hk.wd.n0
  have hn140 := hk.wd.n1
  have hns3 := z_ns3 hk
  have hndn := z_dr_le hk.wd.dr
  refine pi_go 3 (pc' := 5) (l' := [some (.ref 2), some (.int (nI k))]) (st' := [.int (σ 2 2), .int (nI k)]) (σ' := σ) (fun f => rfl) ?_
  refine pi_tp (y := nI W.n0) (hx.n0) ?_
  refine pi_ca 1 (m' := 94) (l' := [some (.int (nI k)), some (.int (nI W.n0))]) (σ' := σ) (pc2 := 8) (l2 := [some (.ref 2), some (.int (nI k))]) (t := []) (fun f => rfl) (pi_below1 _ _ (z_BL (by omega) (by omega))) ?_
  rintro _ _ ⟨rfl, rfl⟩
  refine pi_cf 1 (c := nI 1 = 0) (pc' := 11) (l' := [some (.ref 2), some (.int (nI k))]) (st' := []) (σ' := σ) (pc2 := 20) (l2 := [some (.ref 2), some (.int (nI k))]) (st2 := []) (σ2 := σ) (fun f => rfl) (by decide) ?_
  refine pi_ai 4 (u := k) (n := 40) (g := σ 3) (pc' := 17) (l' := [some (.ref 2), some (.int (nI k))]) (t := []) (σ' := σ) (fun f => rfl) (by omega) (by omega) ?_
  refine pi_tp (y := W.tx (0 + k)) (hx.t0 k (by omega)) ?_
  refine pi_rt 2 (v := some (.int (W.tx (0 + k)))) (σ' := σ) (fun f => rfl) ?_
  exact ⟨rfl, rfl⟩
set_option maxRecDepth 20000 in
theorem pi_C_byte1 {xs : Nat → Int32} {L d : Nat} {W : zW} {σ : pi_S} (hk : z_wk W) (hx : z_TX W σ) {k : Nat} (hkn : k < W.n1)  : pi_wp xs L (d + 1) 45 0 [some (.ref 4), some (.int (nI k))] [] σ (fun v s => v = some (.int (W.tx (40 + k))) ∧ σ = s) := by
  have hnd8 := hk.wd.nd8
  have hns12 := hk.wd.ns12
  have hn60 := hk.nine
  have hnf := hk.nf
  have hnw := hk.nw
  have hnc := hk.nc
  have hn08 := hk.wd.n0
  have hn140 := hk.wd.n1
  have hns3 := z_ns3 hk
  have hndn := z_dr_le hk.wd.dr
  refine pi_go 3 (pc' := 5) (l' := [some (.ref 4), some (.int (nI k))]) (st' := [.int (σ 4 2), .int (nI k)]) (σ' := σ) (fun f => rfl) ?_
  refine pi_tp (y := nI W.n1) (hx.n1) ?_
  refine pi_ca 1 (m' := 94) (l' := [some (.int (nI k)), some (.int (nI W.n1))]) (σ' := σ) (pc2 := 8) (l2 := [some (.ref 4), some (.int (nI k))]) (t := []) (fun f => rfl) (pi_below1 _ _ (z_BL (by omega) (by omega))) ?_
  rintro _ _ ⟨rfl, rfl⟩
  refine pi_cf 1 (c := nI 1 = 0) (pc' := 11) (l' := [some (.ref 4), some (.int (nI k))]) (st' := []) (σ' := σ) (pc2 := 20) (l2 := [some (.ref 4), some (.int (nI k))]) (st2 := []) (σ2 := σ) (fun f => rfl) (by decide) ?_
  refine pi_ai 4 (u := k) (n := 40) (g := σ 5) (pc' := 17) (l' := [some (.ref 4), some (.int (nI k))]) (t := []) (σ' := σ) (fun f => rfl) (by omega) (by omega) ?_
  refine pi_tp (y := W.tx (40 + k)) (hx.t1 k (by omega)) ?_
  refine pi_rt 2 (v := some (.int (W.tx (40 + k)))) (σ' := σ) (fun f => rfl) ?_
  exact ⟨rfl, rfl⟩
set_option maxRecDepth 20000 in
theorem pi_C_fig0 {xs : Nat → Int32} {L d : Nat} {W : zW} {σ : pi_S} (hk : z_wk W) (hx : z_TX W σ) {k : Nat} (hkn : k < W.n0)  : pi_wp xs L (d + 2) 51 0 [some (.ref 2), some (.int (nI k)), none] [] σ (fun v s => v = some (.int (z_fg W.n0 (fun k => W.tx (0 + k)) k)) ∧ σ = s) := by
  have hnd8 := hk.wd.nd8
  have hns12 := hk.wd.ns12
  have hn60 := hk.nine
  have hnf := hk.nf
  have hnw := hk.nw
  have hnc := hk.nc
  have hn08 := hk.wd.n0
  have hn140 := hk.wd.n1
  have hns3 := z_ns3 hk
  have hndn := z_dr_le hk.wd.dr
  refine pi_ca 3 (m' := 45) (l' := [some (.ref 2), some (.int (nI k))]) (σ' := σ) (pc2 := 5) (l2 := [some (.ref 2), some (.int (nI k)), none]) (t := []) (fun f => rfl) (pi_C_byte0 hk hx (k := k) (by omega)) ?_
  rintro _ _ ⟨rfl, rfl⟩
  refine pi_ca 6 (m' := 94) (l' := [some (.int ((W.tx (0 + k)) - (nI 48))), some (.int (nI 10))]) (σ' := σ) (pc2 := 15) (l2 := [some (.ref 2), some (.int (nI k)), some (.int ((W.tx (0 + k)) - (nI 48)))]) (t := []) (fun f => rfl) (pi_C_belowB (a := (W.tx (0 + k)) - (nI 48)) (n := 10) (by omega)) ?_
  rintro _ _ (⟨b1, rfl, rfl⟩ | ⟨b1, rfl, rfl⟩)
  · refine pi_cf 1 (c := nI 1 = 0) (pc' := 18) (l' := [some (.ref 2), some (.int (nI k)), some (.int ((W.tx (0 + k)) - (nI 48)))]) (st' := []) (σ' := σ) (pc2 := 22) (l2 := [some (.ref 2), some (.int (nI k)), some (.int ((W.tx (0 + k)) - (nI 48)))]) (st2 := []) (σ2 := σ) (fun f => rfl) (by decide) ?_
    refine pi_rt 3 (v := some (.int ((W.tx (0 + k)) - (nI 48)))) (σ' := σ) (fun f => rfl) ?_
    exact ⟨congrArg (fun z => some (Value.int z)) (show _ = z_fg W.n0 _ k from by rw [z_fg, if_pos hkn, if_pos ((z_B_in (c := 9) (by omega)).mpr b1)]), rfl⟩
  · refine pi_ct 1 (c := nI 0 = 0) (pc' := 22) (l' := [some (.ref 2), some (.int (nI k)), some (.int ((W.tx (0 + k)) - (nI 48)))]) (st' := []) (σ' := σ) (pc2 := 18) (l2 := [some (.ref 2), some (.int (nI k)), some (.int ((W.tx (0 + k)) - (nI 48)))]) (st2 := []) (σ2 := σ) (fun f => rfl) (by decide) ?_
    refine pi_rt 2 (v := some (.int (-1))) (σ' := σ) (fun f => rfl) ?_
    exact ⟨congrArg (fun z => some (Value.int z)) (show _ = z_fg W.n0 _ k from by rw [z_fg, if_pos hkn, if_neg (fun q => b1 ((z_B_in (c := 9) (by omega)).mp q))]), rfl⟩
set_option maxRecDepth 20000 in
theorem pi_C_fig1 {xs : Nat → Int32} {L d : Nat} {W : zW} {σ : pi_S} (hk : z_wk W) (hx : z_TX W σ) {k : Nat} (hkn : k < W.n1)  : pi_wp xs L (d + 2) 51 0 [some (.ref 4), some (.int (nI k)), none] [] σ (fun v s => v = some (.int (z_fg W.n1 (fun k => W.tx (40 + k)) k)) ∧ σ = s) := by
  have hnd8 := hk.wd.nd8
  have hns12 := hk.wd.ns12
  have hn60 := hk.nine
  have hnf := hk.nf
  have hnw := hk.nw
  have hnc := hk.nc
  have hn08 := hk.wd.n0
  have hn140 := hk.wd.n1
  have hns3 := z_ns3 hk
  have hndn := z_dr_le hk.wd.dr
  refine pi_ca 3 (m' := 45) (l' := [some (.ref 4), some (.int (nI k))]) (σ' := σ) (pc2 := 5) (l2 := [some (.ref 4), some (.int (nI k)), none]) (t := []) (fun f => rfl) (pi_C_byte1 hk hx (k := k) (by omega)) ?_
  rintro _ _ ⟨rfl, rfl⟩
  refine pi_ca 6 (m' := 94) (l' := [some (.int ((W.tx (40 + k)) - (nI 48))), some (.int (nI 10))]) (σ' := σ) (pc2 := 15) (l2 := [some (.ref 4), some (.int (nI k)), some (.int ((W.tx (40 + k)) - (nI 48)))]) (t := []) (fun f => rfl) (pi_C_belowB (a := (W.tx (40 + k)) - (nI 48)) (n := 10) (by omega)) ?_
  rintro _ _ (⟨b1, rfl, rfl⟩ | ⟨b1, rfl, rfl⟩)
  · refine pi_cf 1 (c := nI 1 = 0) (pc' := 18) (l' := [some (.ref 4), some (.int (nI k)), some (.int ((W.tx (40 + k)) - (nI 48)))]) (st' := []) (σ' := σ) (pc2 := 22) (l2 := [some (.ref 4), some (.int (nI k)), some (.int ((W.tx (40 + k)) - (nI 48)))]) (st2 := []) (σ2 := σ) (fun f => rfl) (by decide) ?_
    refine pi_rt 3 (v := some (.int ((W.tx (40 + k)) - (nI 48)))) (σ' := σ) (fun f => rfl) ?_
    exact ⟨congrArg (fun z => some (Value.int z)) (show _ = z_fg W.n1 _ k from by rw [z_fg, if_pos hkn, if_pos ((z_B_in (c := 9) (by omega)).mpr b1)]), rfl⟩
  · refine pi_ct 1 (c := nI 0 = 0) (pc' := 22) (l' := [some (.ref 4), some (.int (nI k)), some (.int ((W.tx (40 + k)) - (nI 48)))]) (st' := []) (σ' := σ) (pc2 := 18) (l2 := [some (.ref 4), some (.int (nI k)), some (.int ((W.tx (40 + k)) - (nI 48)))]) (st2 := []) (σ2 := σ) (fun f => rfl) (by decide) ?_
    refine pi_rt 2 (v := some (.int (-1))) (σ' := σ) (fun f => rfl) ?_
    exact ⟨congrArg (fun z => some (Value.int z)) (show _ = z_fg W.n1 _ k from by rw [z_fg, if_pos hkn, if_neg (fun q => b1 ((z_B_in (c := 9) (by omega)).mp q))]), rfl⟩
set_option maxRecDepth 20000 in
theorem pi_C_fdoors {xs : Nat → Int32} {L d : Nat} {W : zW} {σ : pi_S} (hk : z_wk W) (hx : z_TX W σ)  : pi_wp xs L (d + 3) 52 0 [some (.ref 1), none] [] σ (fun v s => v = some (.int W.f0) ∧ σ = s) := by
  have hnd8 := hk.wd.nd8
  have hns12 := hk.wd.ns12
  have hn60 := hk.nine
  have hnf := hk.nf
  have hnw := hk.nw
  have hnc := hk.nc
  have hn08 := hk.wd.n0
  have hn140 := hk.wd.n1
  have hns3 := z_ns3 hk
  have hndn := z_dr_le hk.wd.dr
  refine pi_go 2 (pc' := 2) (l' := [some (.ref 1), some (.int (nI 0))]) (st' := []) (σ' := σ) (fun f => rfl) ?_
  suffices hl1 : ∀ i, i ≤ W.n0 → (∀ q, q < i → z_fg W.n0 (fun k => W.tx (0 + k)) q ≠ -1) → pi_wp xs L (d + 3) 52 2 [some (.ref 1), some (.int (nI i))] [] σ (fun v s => v = some (.int W.f0) ∧ σ = s) from hl1 0 (by omega)  (fun q hq => absurd hq (Nat.not_lt_zero q))
  refine pi_lp0 ?_ ?_
  · intro hx1
    refine pi_go 4 (pc' := 10) (l' := [some (.ref 1), some (.int (nI W.n0))]) (st' := [.int (σ 2 2), .int (nI W.n0)]) (σ' := σ) (fun f => rfl) ?_
    refine pi_tp (y := nI W.n0) (hx.n0) ?_
    refine pi_ct 1 (c := nI W.n0 ≤ nI W.n0) (pc' := 33) (l' := [some (.ref 1), some (.int (nI W.n0))]) (st' := []) (σ' := σ) (pc2 := 13) (l2 := [some (.ref 1), some (.int (nI W.n0))]) (st2 := []) (σ2 := σ) (fun f => rfl) ((show nI W.n0 ≤ nI W.n0 ↔ _ from nI_leI (by omega) (by omega)).mpr (by omega)) ?_
    refine pi_rt 2 (v := some (.int (-1))) (σ' := σ) (fun f => rfl) ?_
    exact ⟨congrArg (fun z => some (Value.int z)) (z_dr_all hk.wd.dr hx1).2.symm, rfl⟩
  · intro i hi1 ih1 hx1
    refine pi_go 4 (pc' := 10) (l' := [some (.ref 1), some (.int (nI i))]) (st' := [.int (σ 2 2), .int (nI i)]) (σ' := σ) (fun f => rfl) ?_
    refine pi_tp (y := nI W.n0) (hx.n0) ?_
    refine pi_cf 1 (c := nI W.n0 ≤ nI i) (pc' := 13) (l' := [some (.ref 1), some (.int (nI i))]) (st' := []) (σ' := σ) (pc2 := 33) (l2 := [some (.ref 1), some (.int (nI i))]) (st2 := []) (σ2 := σ) (fun f => rfl) (fun zq => absurd ((show nI W.n0 ≤ nI i ↔ _ from nI_leI (by omega) (by omega)).mp zq) (by omega)) ?_
    refine pi_ca 4 (m' := 51) (l' := [some (.ref 2), some (.int (nI i)), none]) (σ' := σ) (pc2 := 21) (l2 := [some (.ref 1), some (.int (nI i))]) (t := []) (fun f => rfl) (pi_C_fig0 hk hx (k := i) (by omega)) ?_
    rintro _ _ ⟨rfl, rfl⟩
    refine pi_if 2 (c := z_fg W.n0 (fun k => W.tx (0 + k)) i = (-1)) (pc' := 25) (l' := [some (.ref 1), some (.int (nI i))]) (st' := []) (σ' := σ) (pc2 := 27) (l2 := [some (.ref 1), some (.int (nI i))]) (st2 := []) (σ2 := σ) (fun f => rfl) (fun h1 => ?_) (fun h1 => ?_)
    · refine pi_rt 2 (v := some (.int (nI i))) (σ' := σ) (fun f => rfl) ?_
      exact ⟨congrArg (fun z => some (Value.int z)) (z_dr_at hk.wd.dr (by omega) hx1 h1).2.symm, rfl⟩
    · refine pi_go 1 (pc' := 30) (l' := [some (.ref 1), some (.int (nI i + nI 1))]) (st' := []) (σ' := σ) (fun f => rfl) ?_
      rw [show nI i + nI 1 = nI (i + 1) from nI_add _ 1]
      refine pi_go 1 (pc' := 2) (l' := [some (.ref 1), some (.int (nI (i + 1)))]) (st' := []) (σ' := σ) (fun f => rfl) ?_
      exact ih1  (lt_s hx1 h1)
set_option maxRecDepth 20000 in
theorem pi_C_goOn {xs : Nat → Int32} {L d : Nat} {W : zW} {σ : pi_S} (hk : z_wk W) (hx : z_TX W σ) (h8 : σ 1 8 = nI W.nd) (h6 : ∀ k, k < W.nd → σ 6 k = W.hh k) {p : Nat} (hp : p < W.n1)  : pi_wp xs L (d + 3) 54 0 [some (.ref 1), some (.int (nI p)), none, none] [] σ (fun v s => (z_go W p ∧ v = some (.int (nI 1)) ∧ σ = s) ∨ (¬ z_go W p ∧ v = some (.int (nI 0)) ∧ σ = s)) := by
  have hnd8 := hk.wd.nd8
  have hns12 := hk.wd.ns12
  have hn60 := hk.nine
  have hnf := hk.nf
  have hnw := hk.nw
  have hnc := hk.nc
  have hn08 := hk.wd.n0
  have hn140 := hk.wd.n1
  have hns3 := z_ns3 hk
  have hndn := z_dr_le hk.wd.dr
  refine pi_gn 3 (c := nI 3 = 0) (pc' := 3) (l' := [some (.ref 1), some (.int (nI p)), none, none]) (st' := [.int ((nI p) - (nI p) / (nI 3) * (nI 3))]) (σ' := σ) (fun f => rfl) (by decide) ?_
  refine pi_tp (y := nI (p % 3)) (pk_rem (by omega) (by omega) (by omega)) ?_
  refine pi_if 2 (c := nI (p % 3) = nI 2) (pc' := 7) (l' := [some (.ref 1), some (.int (nI p)), none, none]) (st' := []) (σ' := σ) (pc2 := 26) (l2 := [some (.ref 1), some (.int (nI p)), none, none]) (st2 := []) (σ2 := σ) (fun f => rfl) (fun h1 => ?_) (fun h1 => ?_)
  · replace h1 : (p % 3) = 2 := (nI_eq (by omega) (by omega)).mp h1
    refine pi_ca 4 (m' := 45) (l' := [some (.ref 4), some (.int (nI p))]) (σ' := σ) (pc2 := 15) (l2 := [some (.ref 1), some (.int (nI p)), none, none]) (t := []) (fun f => rfl) (pi_C_byte1 hk hx (k := p) (by omega)) ?_
    rintro _ _ ⟨rfl, rfl⟩
    refine pi_if 2 (c := W.tx (40 + p) = nI 59) (pc' := 20) (l' := [some (.ref 1), some (.int (nI p)), none, none]) (st' := []) (σ' := σ) (pc2 := 24) (l2 := [some (.ref 1), some (.int (nI p)), none, none]) (st2 := []) (σ2 := σ) (fun f => rfl) (fun h2 => ?_) (fun h2 => ?_)
    · refine pi_rb 3 (c := (nI 1) &&& 1 = nI 1) (v := some (.int (nI 1))) (σ' := σ) (fun f => rfl) (by decide) ?_
      exact Or.inl ⟨(z_go2 h1).mpr h2, rfl, rfl⟩
    · refine pi_rb 2 (c := (nI 0) &&& 1 = nI 0) (v := some (.int (nI 0))) (σ' := σ) (fun f => rfl) (by decide) ?_
      exact Or.inr ⟨fun q => h2 ((z_go2 h1).mp q), rfl, rfl⟩
  · replace h1 : ¬ ((p % 3) = 2) := fun zq => h1 ((nI_eq (by omega) (by omega)).mpr zq)
    refine pi_ca 4 (m' := 51) (l' := [some (.ref 4), some (.int (nI p)), none]) (σ' := σ) (pc2 := 34) (l2 := [some (.ref 1), some (.int (nI p)), none, none]) (t := []) (fun f => rfl) (pi_C_fig1 hk hx (k := p) (by omega)) ?_
    rintro _ _ ⟨rfl, rfl⟩
    refine pi_ca 4 (m' := 48) (l' := [some (.ref 1), some (.int (z_fg W.n1 (fun k => W.tx (40 + k)) p))]) (σ' := σ) (pc2 := 40) (l2 := [some (.ref 1), some (.int (nI p)), some (.int (z_fg W.n1 (fun k => W.tx (40 + k)) p)), none]) (t := []) (fun f => rfl) (pi_C_hasDoor (h8) (by omega)) ?_
    rintro _ _ (⟨b3, rfl, rfl⟩ | ⟨b3, rfl, rfl⟩)
    · refine pi_cf 1 (c := nI 1 = 0) (pc' := 45) (l' := [some (.ref 1), some (.int (nI p)), some (.int (z_fg W.n1 (fun k => W.tx (40 + k)) p)), none]) (st' := []) (σ' := σ) (pc2 := 43) (l2 := [some (.ref 1), some (.int (nI p)), some (.int (z_fg W.n1 (fun k => W.tx (40 + k)) p)), none]) (st2 := []) (σ2 := σ) (fun f => rfl) (by decide) ?_
      obtain ⟨aa, haa, hea⟩ := id b3
      rw [hea]
      refine pi_gn 3 (c := nI 3 = 0) (pc' := 48) (l' := [some (.ref 1), some (.int (nI p)), some (.int (nI aa)), none]) (st' := [.int ((nI p) - (nI p) / (nI 3) * (nI 3))]) (σ' := σ) (fun f => rfl) (by decide) ?_
      refine pi_tp (y := nI (p % 3)) (pk_rem (by omega) (by omega) (by omega)) ?_
      refine pi_if 1 (c := nI (p % 3) = 0) (pc' := 51) (l' := [some (.ref 1), some (.int (nI p)), some (.int (nI aa)), none]) (st' := []) (σ' := σ) (pc2 := 65) (l2 := [some (.ref 1), some (.int (nI p)), some (.int (nI aa)), none]) (st2 := []) (σ2 := σ) (fun f => rfl) (fun h4 => ?_) (fun h4 => ?_)
      · replace h4 : (p % 3) = 0 := (show nI (p % 3) = nI 0 ↔ _ from nI_eq (by omega) (by omega)).mp h4
        refine pi_gn 3 (c := nI 3 = 0) (pc' := 54) (l' := [some (.ref 1), some (.int (nI p)), some (.int (nI aa)), none]) (st' := [.int ((nI p) / (nI 3))]) (σ' := σ) (fun f => rfl) (by decide) ?_
        refine pi_tp (y := nI (p / 3)) (pk_div (by omega) (by omega) (by omega)) ?_
        refine pi_if 2 (c := nI 12 ≤ nI (p / 3)) (pc' := 63) (l' := [some (.ref 1), some (.int (nI p)), some (.int (nI aa)), none]) (st' := []) (σ' := σ) (pc2 := 59) (l2 := [some (.ref 1), some (.int (nI p)), some (.int (nI aa)), none]) (st2 := []) (σ2 := σ) (fun f => rfl) (fun h5 => ?_) (fun h5 => ?_)
        · replace h5 : 12 ≤ (p / 3) := (nI_leI (by omega) (by omega)).mp h5
          refine pi_rb 2 (c := (nI 0) &&& 1 = nI 0) (v := some (.int (nI 0))) (σ' := σ) (fun f => rfl) (by decide) ?_
          exact Or.inr ⟨fun q => absurd ((z_go0 h4).mp q).2 (by omega), rfl, rfl⟩
        · replace h5 : ¬ (12 ≤ (p / 3)) := fun zq => h5 ((nI_leI (by omega) (by omega)).mpr zq)
          refine pi_rb 3 (c := (nI 1) &&& 1 = nI 1) (v := some (.int (nI 1))) (σ' := σ) (fun f => rfl) (by decide) ?_
          exact Or.inl ⟨(z_go0 h4).mpr ⟨⟨aa, haa, hea⟩, by omega⟩, rfl, rfl⟩
      · replace h4 : ¬ ((p % 3) = 0) := fun zq => h4 ((show nI (p % 3) = nI 0 ↔ _ from nI_eq (by omega) (by omega)).mpr zq)
        refine pi_go 5 (pc' := 72) (l' := [some (.ref 1), some (.int (nI p)), some (.int (nI aa)), none]) (st' := [.int ((nI p) - (nI 1)), .ref 4]) (σ' := σ) (fun f => rfl) ?_
        refine pi_tp (y := nI (p - 1)) (z_sub1 (by omega)) ?_
        refine pi_ca 1 (m' := 51) (l' := [some (.ref 4), some (.int (nI (p - 1))), none]) (σ' := σ) (pc2 := 75) (l2 := [some (.ref 1), some (.int (nI p)), some (.int (nI aa)), none]) (t := []) (fun f => rfl) (pi_C_fig1 hk hx (k := p - 1) (by omega)) ?_
        rintro _ _ ⟨rfl, rfl⟩
        refine pi_ca 4 (m' := 48) (l' := [some (.ref 1), some (.int (z_fg W.n1 (fun k => W.tx (40 + k)) (p - 1)))]) (σ' := σ) (pc2 := 81) (l2 := [some (.ref 1), some (.int (nI p)), some (.int (nI aa)), some (.int (z_fg W.n1 (fun k => W.tx (40 + k)) (p - 1)))]) (t := []) (fun f => rfl) (pi_C_hasDoor (h8) (by omega)) ?_
        rintro _ _ (⟨b6, rfl, rfl⟩ | ⟨b6, rfl, rfl⟩)
        · refine pi_cf 1 (c := nI 1 = 0) (pc' := 84) (l' := [some (.ref 1), some (.int (nI p)), some (.int (nI aa)), some (.int (z_fg W.n1 (fun k => W.tx (40 + k)) (p - 1)))]) (st' := []) (σ' := σ) (pc2 := 103) (l2 := [some (.ref 1), some (.int (nI p)), some (.int (nI aa)), some (.int (z_fg W.n1 (fun k => W.tx (40 + k)) (p - 1)))]) (st2 := []) (σ2 := σ) (fun f => rfl) (by decide) ?_
          obtain ⟨bb, hbb, heb⟩ := id b6
          rw [heb]
          refine pi_ai 4 (u := aa) (n := 8) (g := σ 6) (pc' := 90) (l' := [some (.ref 1), some (.int (nI p)), some (.int (nI aa)), some (.int (nI bb))]) (t := []) (σ' := σ) (fun f => rfl) (by omega) (by omega) ?_
          refine pi_tp (y := W.hh aa) (h6 aa (by omega)) ?_
          refine pi_ai 4 (u := bb) (n := 8) (g := σ 6) (pc' := 96) (l' := [some (.ref 1), some (.int (nI p)), some (.int (nI aa)), some (.int (nI bb))]) (t := [.int (W.hh aa)]) (σ' := σ) (fun f => rfl) (by omega) (by omega) ?_
          refine pi_tp (y := W.hh bb) (h6 bb (by omega)) ?_
          refine pi_if 1 (c := W.hh bb ≤ W.hh aa) (pc' := 103) (l' := [some (.ref 1), some (.int (nI p)), some (.int (nI aa)), some (.int (nI bb))]) (st' := []) (σ' := σ) (pc2 := 99) (l2 := [some (.ref 1), some (.int (nI p)), some (.int (nI aa)), some (.int (nI bb))]) (st2 := []) (σ2 := σ) (fun f => rfl) (fun h7 => ?_) (fun h7 => ?_)
          · refine pi_rb 2 (c := (nI 0) &&& 1 = nI 0) (v := some (.int (nI 0))) (σ' := σ) (fun f => rfl) (by decide) ?_
            exact Or.inr ⟨fun q => match (z_go1 h1 h4).mp q with | ⟨a, b, q1, q2, q3, q4, q5⟩ => Int32.not_lt.mpr h7 (by rw [(nI_eq (by omega) (by omega)).mp (hea.symm.trans q4), (nI_eq (by omega) (by omega)).mp (heb.symm.trans q3)]; exact q5), rfl, rfl⟩
          · refine pi_rb 3 (c := (nI 1) &&& 1 = nI 1) (v := some (.int (nI 1))) (σ' := σ) (fun f => rfl) (by decide) ?_
            exact Or.inl ⟨(z_go1 h1 h4).mpr ⟨bb, aa, hbb, haa, heb, hea, Int32.not_le.mp h7⟩, rfl, rfl⟩
        · refine pi_ct 1 (c := nI 0 = 0) (pc' := 103) (l' := [some (.ref 1), some (.int (nI p)), some (.int (nI aa)), some (.int (z_fg W.n1 (fun k => W.tx (40 + k)) (p - 1)))]) (st' := []) (σ' := σ) (pc2 := 84) (l2 := [some (.ref 1), some (.int (nI p)), some (.int (nI aa)), some (.int (z_fg W.n1 (fun k => W.tx (40 + k)) (p - 1)))]) (st2 := []) (σ2 := σ) (fun f => rfl) (by decide) ?_
          refine pi_rb 2 (c := (nI 0) &&& 1 = nI 0) (v := some (.int (nI 0))) (σ' := σ) (fun f => rfl) (by decide) ?_
          exact Or.inr ⟨fun q => b6 (match (z_go1 h1 h4).mp q with | ⟨a, b, q1, q2, q3, q4, q5⟩ => ⟨a, q1, q3⟩), rfl, rfl⟩
    · refine pi_ct 1 (c := nI 0 = 0) (pc' := 43) (l' := [some (.ref 1), some (.int (nI p)), some (.int (z_fg W.n1 (fun k => W.tx (40 + k)) p)), none]) (st' := []) (σ' := σ) (pc2 := 45) (l2 := [some (.ref 1), some (.int (nI p)), some (.int (z_fg W.n1 (fun k => W.tx (40 + k)) p)), none]) (st2 := []) (σ2 := σ) (fun f => rfl) (by decide) ?_
      refine pi_rb 2 (c := (nI 0) &&& 1 = nI 0) (v := some (.int (nI 0))) (σ' := σ) (fun f => rfl) (by decide) ?_
      exact Or.inr ⟨fun q => b3 (z_goA h1 q), rfl, rfl⟩
set_option maxRecDepth 20000 in
theorem pi_C_fstreets {xs : Nat → Int32} {L d : Nat} {W : zW} {σ : pi_S} (hk : z_wk W) (hx : z_TX W σ) (h8 : σ 1 8 = nI W.nd) (h6 : ∀ k, k < W.nd → σ 6 k = W.hh k)  : pi_wp xs L (d + 4) 53 0 [some (.ref 1), none, none] [] σ (fun v s => v = some (.int W.f1) ∧ σ = s) := by
  have hnd8 := hk.wd.nd8
  have hns12 := hk.wd.ns12
  have hn60 := hk.nine
  have hnf := hk.nf
  have hnw := hk.nw
  have hnc := hk.nc
  have hn08 := hk.wd.n0
  have hn140 := hk.wd.n1
  have hns3 := z_ns3 hk
  have hndn := z_dr_le hk.wd.dr
  refine pi_go 3 (pc' := 7) (l' := [some (.ref 1), none, none]) (st' := [.int (σ 4 2)]) (σ' := σ) (fun f => rfl) ?_
  refine pi_tp (y := nI W.n1) (hx.n1) ?_
  refine pi_go 3 (pc' := 10) (l' := [some (.ref 1), some (.int (nI W.n1)), some (.int (nI 0))]) (st' := []) (σ' := σ) (fun f => rfl) ?_
  suffices hl1 : ∀ i, i ≤ W.n1 → (∀ q, q < i → z_go W q) → pi_wp xs L (d + 4) 53 10 [some (.ref 1), some (.int (nI W.n1)), some (.int (nI i))] [] σ (fun v s => v = some (.int W.f1) ∧ σ = s) from hl1 0 (by omega)  (fun q hq => absurd hq (Nat.not_lt_zero q))
  refine pi_lp0 ?_ ?_
  · intro hx1
    refine pi_ct 3 (c := nI W.n1 ≤ nI W.n1) (pc' := 31) (l' := [some (.ref 1), some (.int (nI W.n1)), some (.int (nI W.n1))]) (st' := []) (σ' := σ) (pc2 := 15) (l2 := [some (.ref 1), some (.int (nI W.n1)), some (.int (nI W.n1))]) (st2 := []) (σ2 := σ) (fun f => rfl) ((show nI W.n1 ≤ nI W.n1 ↔ _ from nI_leI (by omega) (by omega)).mpr (by omega)) ?_
    refine pi_if 2 (c := nI W.n1 = 0) (pc' := 42) (l' := [some (.ref 1), some (.int (nI W.n1)), some (.int (nI W.n1))]) (st' := []) (σ' := σ) (pc2 := 35) (l2 := [some (.ref 1), some (.int (nI W.n1)), some (.int (nI W.n1))]) (st2 := []) (σ2 := σ) (fun f => rfl) (fun h1 => ?_) (fun h1 => ?_)
    · replace h1 : W.n1 = 0 := (show nI W.n1 = nI 0 ↔ _ from nI_eq (by omega) (by omega)).mp h1
      refine pi_rt 3 (v := some (.int (-1))) (σ' := σ) (fun f => rfl) ?_
      exact ⟨congrArg (fun z => some (Value.int z)) ((z_go_end hk hx1).trans (if_pos (Or.inl h1))).symm, rfl⟩
    · replace h1 : ¬ (W.n1 = 0) := fun zq => h1 ((show nI W.n1 = nI 0 ↔ _ from nI_eq (by omega) (by omega)).mpr zq)
      refine pi_gn 3 (c := nI 3 = 0) (pc' := 38) (l' := [some (.ref 1), some (.int (nI W.n1)), some (.int (nI W.n1))]) (st' := [.int ((nI W.n1) - (nI W.n1) / (nI 3) * (nI 3))]) (σ' := σ) (fun f => rfl) (by decide) ?_
      refine pi_tp (y := nI (W.n1 % 3)) (pk_rem (by omega) (by omega) (by omega)) ?_
      refine pi_if 2 (c := nI (W.n1 % 3) = nI 2) (pc' := 42) (l' := [some (.ref 1), some (.int (nI W.n1)), some (.int (nI W.n1))]) (st' := []) (σ' := σ) (pc2 := 46) (l2 := [some (.ref 1), some (.int (nI W.n1)), some (.int (nI W.n1))]) (st2 := []) (σ2 := σ) (fun f => rfl) (fun h2 => ?_) (fun h2 => ?_)
      · replace h2 : (W.n1 % 3) = 2 := (nI_eq (by omega) (by omega)).mp h2
        refine pi_rt 3 (v := some (.int (-1))) (σ' := σ) (fun f => rfl) ?_
        exact ⟨congrArg (fun z => some (Value.int z)) ((z_go_end hk hx1).trans (if_pos (Or.inr h2))).symm, rfl⟩
      · replace h2 : ¬ ((W.n1 % 3) = 2) := fun zq => h2 ((nI_eq (by omega) (by omega)).mpr zq)
        refine pi_rt 2 (v := some (.int (nI W.n1))) (σ' := σ) (fun f => rfl) ?_
        exact ⟨congrArg (fun z => some (Value.int z)) ((z_go_end hk hx1).trans (if_neg (fun q => q.elim h1 h2))).symm, rfl⟩
  · intro i hi1 ih1 hx1
    refine pi_cf 3 (c := nI W.n1 ≤ nI i) (pc' := 15) (l' := [some (.ref 1), some (.int (nI W.n1)), some (.int (nI i))]) (st' := []) (σ' := σ) (pc2 := 31) (l2 := [some (.ref 1), some (.int (nI W.n1)), some (.int (nI i))]) (st2 := []) (σ2 := σ) (fun f => rfl) (fun zq => absurd ((show nI W.n1 ≤ nI i ↔ _ from nI_leI (by omega) (by omega)).mp zq) (by omega)) ?_
    refine pi_ca 3 (m' := 54) (l' := [some (.ref 1), some (.int (nI i)), none, none]) (σ' := σ) (pc2 := 20) (l2 := [some (.ref 1), some (.int (nI W.n1)), some (.int (nI i))]) (t := []) (fun f => rfl) (pi_C_goOn hk hx h8 h6 (p := i) (by omega)) ?_
    rintro _ _ (⟨b3, rfl, rfl⟩ | ⟨b3, rfl, rfl⟩)
    · refine pi_cf 1 (c := nI 1 = 0) (pc' := 25) (l' := [some (.ref 1), some (.int (nI W.n1)), some (.int (nI i))]) (st' := []) (σ' := σ) (pc2 := 23) (l2 := [some (.ref 1), some (.int (nI W.n1)), some (.int (nI i))]) (st2 := []) (σ2 := σ) (fun f => rfl) (by decide) ?_
      refine pi_go 1 (pc' := 28) (l' := [some (.ref 1), some (.int (nI W.n1)), some (.int (nI i + nI 1))]) (st' := []) (σ' := σ) (fun f => rfl) ?_
      rw [show nI i + nI 1 = nI (i + 1) from nI_add _ 1]
      refine pi_go 1 (pc' := 10) (l' := [some (.ref 1), some (.int (nI W.n1)), some (.int (nI (i + 1)))]) (st' := []) (σ' := σ) (fun f => rfl) ?_
      exact ih1  (lt_s hx1 b3)
    · refine pi_ct 1 (c := nI 0 = 0) (pc' := 23) (l' := [some (.ref 1), some (.int (nI W.n1)), some (.int (nI i))]) (st' := []) (σ' := σ) (pc2 := 25) (l2 := [some (.ref 1), some (.int (nI W.n1)), some (.int (nI i))]) (st2 := []) (σ2 := σ) (fun f => rfl) (by decide) ?_
      refine pi_rt 2 (v := some (.int (nI i))) (σ' := σ) (fun f => rfl) ?_
      exact ⟨congrArg (fun z => some (Value.int z)) (z_go_stop hk (by omega) hx1 b3).symm, rfl⟩
set_option maxRecDepth 20000 in
theorem pi_C_orderD {xs : Nat → Int32} {L d : Nat} {W : zW} {σ : pi_S} (hk : z_wk W) (h8 : σ 1 8 = nI W.nd) (h6 : ∀ k, k < W.nd → σ 6 k = W.hh k)  : pi_wp xs L d 55 0 [some (.ref 1), none, none, none] [] σ (fun v s => v = none ∧ (∀ i, i < W.nd → s 9 i = nI (z_dd W i) ∧ z_dd W i < W.nd) ∧ pi_fr [9] s σ) := by
  have hnd8 := hk.wd.nd8
  have hns12 := hk.wd.ns12
  have hn60 := hk.nine
  have hnf := hk.nf
  have hnw := hk.nw
  have hnc := hk.nc
  have hn08 := hk.wd.n0
  have hn140 := hk.wd.n1
  refine pi_go 4 (pc' := 5) (l' := [some (.ref 1), some (.int (nI 0)), some (.int (nI 9)), none]) (st' := []) (σ' := σ) (fun f => rfl) ?_
  suffices hl1 : ∀ i, i ≤ 10 → ∀ (j3 : Option Value), ∀ (z1 : pi_S), pi_fr [9] z1 σ → (∀ q, q < (z_od W.hh W.nd i).2 → z1 9 q = nI ((z_od W.hh W.nd i).1 q) ∧ (z_od W.hh W.nd i).1 q < W.nd) → pi_wp xs L d 55 5 [some (.ref 1), some (.int (nI ((z_od W.hh W.nd i).2))), some (.int (nI (10 - i) - nI 1)), j3] [] z1 (fun v s => v = none ∧ (∀ i, i < W.nd → s 9 i = nI (z_dd W i) ∧ z_dd W i < W.nd) ∧ pi_fr [9] s σ) from hl1 0 (by omega) _ _ (pi_fr_rf) (fun q hq => absurd hq (Nat.not_lt_zero q))
  refine pi_lp0 ?_ ?_
  · intro j3 z1 hrz1 hx1
    have hw := z_dnN 10
    generalize nI (10 - 10) - nI 1 = w at hw ⊢
    refine pi_ct 2 (c := w < 0) (pc' := 57) (l' := [some (.ref 1), some (.int (nI ((z_od W.hh W.nd 10).2))), some (.int w), j3]) (st' := []) (σ' := z1) (pc2 := 9) (l2 := [some (.ref 1), some (.int (nI ((z_od W.hh W.nd 10).2))), some (.int w), j3]) (st2 := []) (σ2 := z1) (fun f => rfl) (hw) ?_
    refine pi_rt 1 (v := none) (σ' := z1) (fun f => rfl) ?_
    exact ⟨rfl, fun q hq => hx1 q (by rw [z_od_n hk]; exact hq), pi_fr_tr hrz1 (by decide) (pi_fr_rf)⟩
  · intro i hi1 ih1 j3 z1 hrz1 hx1
    rw [z_dn hi1]
    refine pi_cf 2 (c := nI (10 - (i + 1)) < 0) (pc' := 9) (l' := [some (.ref 1), some (.int (nI ((z_od W.hh W.nd i).2))), some (.int (nI (10 - (i + 1)))), j3]) (st' := []) (σ' := z1) (pc2 := 57) (l2 := [some (.ref 1), some (.int (nI ((z_od W.hh W.nd i).2))), some (.int (nI (10 - (i + 1)))), j3]) (st2 := []) (σ2 := z1) (fun f => rfl) (fun zq => absurd ((show nI (10 - (i + 1)) < nI 0 ↔ _ from nI_ltI (by omega) (by omega)).mp zq) (by omega)) ?_
    refine pi_go 2 (pc' := 11) (l' := [some (.ref 1), some (.int (nI ((z_od W.hh W.nd i).2))), some (.int (nI (10 - (i + 1)))), some (.int (nI 0))]) (st' := []) (σ' := z1) (fun f => rfl) ?_
    suffices hl2 : ∀ dd, dd ≤ W.nd → ∀ (z2 : pi_S), pi_fr [9] z2 σ → (∀ q, q < (pi_lp (z_od1 W.hh (10 - (i + 1))) dd (z_od W.hh W.nd i)).2 → z2 9 q = nI ((pi_lp (z_od1 W.hh (10 - (i + 1))) dd (z_od W.hh W.nd i)).1 q) ∧ (pi_lp (z_od1 W.hh (10 - (i + 1))) dd (z_od W.hh W.nd i)).1 q < W.nd) → pi_wp xs L d 55 11 [some (.ref 1), some (.int (nI ((pi_lp (z_od1 W.hh (10 - (i + 1))) dd (z_od W.hh W.nd i)).2))), some (.int (nI (10 - (i + 1)))), some (.int (nI dd))] [] z2 (fun v s => v = none ∧ (∀ i, i < W.nd → s 9 i = nI (z_dd W i) ∧ z_dd W i < W.nd) ∧ pi_fr [9] s σ) from hl2 0 (by omega) _ (pi_fr_tr hrz1 (by decide) (pi_fr_rf)) (hx1)
    refine pi_lp0 ?_ ?_
    · intro z2 hrz2 hx2
      refine pi_go 3 (pc' := 16) (l' := [some (.ref 1), some (.int (nI ((pi_lp (z_od1 W.hh (10 - (i + 1))) W.nd (z_od W.hh W.nd i)).2))), some (.int (nI (10 - (i + 1)))), some (.int (nI W.nd))]) (st' := [.int (z2 1 8), .int (nI W.nd)]) (σ' := z2) (fun f => rfl) ?_
      refine pi_tp (y := nI W.nd) ((congrFun (hrz2 1 (by decide)) 8).trans (h8)) ?_
      refine pi_ct 1 (c := nI W.nd ≤ nI W.nd) (pc' := 51) (l' := [some (.ref 1), some (.int (nI ((pi_lp (z_od1 W.hh (10 - (i + 1))) W.nd (z_od W.hh W.nd i)).2))), some (.int (nI (10 - (i + 1)))), some (.int (nI W.nd))]) (st' := []) (σ' := z2) (pc2 := 19) (l2 := [some (.ref 1), some (.int (nI ((pi_lp (z_od1 W.hh (10 - (i + 1))) W.nd (z_od W.hh W.nd i)).2))), some (.int (nI (10 - (i + 1)))), some (.int (nI W.nd))]) (st2 := []) (σ2 := z2) (fun f => rfl) ((show nI W.nd ≤ nI W.nd ↔ _ from nI_leI (by omega) (by omega)).mpr (by omega)) ?_
      refine pi_go 2 (pc' := 5) (l' := [some (.ref 1), some (.int (nI ((pi_lp (z_od1 W.hh (10 - (i + 1))) W.nd (z_od W.hh W.nd i)).2))), some (.int ((nI (10 - (i + 1))) - nI 1)), some (.int (nI W.nd))]) (st' := []) (σ' := z2) (fun f => rfl) ?_
      rw [show (pi_lp (z_od1 W.hh (10 - (i + 1))) W.nd (z_od W.hh W.nd i)).2 = (z_od W.hh W.nd (i + 1)).2 from rfl]
      exact ih1 _ _ (pi_fr_tr hrz2 (by decide) (pi_fr_rf)) (hx2)
    · intro dd hi2 ih2 z2 hrz2 hx2
      refine pi_go 3 (pc' := 16) (l' := [some (.ref 1), some (.int (nI ((pi_lp (z_od1 W.hh (10 - (i + 1))) dd (z_od W.hh W.nd i)).2))), some (.int (nI (10 - (i + 1)))), some (.int (nI dd))]) (st' := [.int (z2 1 8), .int (nI dd)]) (σ' := z2) (fun f => rfl) ?_
      refine pi_tp (y := nI W.nd) ((congrFun (hrz2 1 (by decide)) 8).trans (h8)) ?_
      refine pi_cf 1 (c := nI W.nd ≤ nI dd) (pc' := 19) (l' := [some (.ref 1), some (.int (nI ((pi_lp (z_od1 W.hh (10 - (i + 1))) dd (z_od W.hh W.nd i)).2))), some (.int (nI (10 - (i + 1)))), some (.int (nI dd))]) (st' := []) (σ' := z2) (pc2 := 51) (l2 := [some (.ref 1), some (.int (nI ((pi_lp (z_od1 W.hh (10 - (i + 1))) dd (z_od W.hh W.nd i)).2))), some (.int (nI (10 - (i + 1)))), some (.int (nI dd))]) (st2 := []) (σ2 := z2) (fun f => rfl) (fun zq => absurd ((show nI W.nd ≤ nI dd ↔ _ from nI_leI (by omega) (by omega)).mp zq) (by omega)) ?_
      refine pi_ai 4 (u := dd) (n := 8) (g := z2 6) (pc' := 25) (l' := [some (.ref 1), some (.int (nI ((pi_lp (z_od1 W.hh (10 - (i + 1))) dd (z_od W.hh W.nd i)).2))), some (.int (nI (10 - (i + 1)))), some (.int (nI dd))]) (t := []) (σ' := z2) (fun f => rfl) (by omega) (by omega) ?_
      refine pi_tp (y := W.hh dd) ((congrFun (hrz2 6 (by decide)) dd).trans (h6 dd (by omega))) ?_
      refine pi_if 2 (c := W.hh dd = nI (10 - (i + 1))) (pc' := 29) (l' := [some (.ref 1), some (.int (nI ((pi_lp (z_od1 W.hh (10 - (i + 1))) dd (z_od W.hh W.nd i)).2))), some (.int (nI (10 - (i + 1)))), some (.int (nI dd))]) (st' := []) (σ' := z2) (pc2 := 45) (l2 := [some (.ref 1), some (.int (nI ((pi_lp (z_od1 W.hh (10 - (i + 1))) dd (z_od W.hh W.nd i)).2))), some (.int (nI (10 - (i + 1)))), some (.int (nI dd))]) (st2 := []) (σ2 := z2) (fun f => rfl) (fun h1 => ?_) (fun h1 => ?_)
      · have hlt := z_od_lt hk (by omega) (by omega) h1
        refine pi_cf 3 (c := nI 8 ≤ nI ((pi_lp (z_od1 W.hh (10 - (i + 1))) dd (z_od W.hh W.nd i)).2)) (pc' := 35) (l' := [some (.ref 1), some (.int (nI ((pi_lp (z_od1 W.hh (10 - (i + 1))) dd (z_od W.hh W.nd i)).2))), some (.int (nI (10 - (i + 1)))), some (.int (nI dd))]) (st' := []) (σ' := z2) (pc2 := 45) (l2 := [some (.ref 1), some (.int (nI ((pi_lp (z_od1 W.hh (10 - (i + 1))) dd (z_od W.hh W.nd i)).2))), some (.int (nI (10 - (i + 1)))), some (.int (nI dd))]) (st2 := []) (σ2 := z2) (fun f => rfl) (fun q => absurd ((nI_leI (by omega) (by omega)).mp q) (by omega)) ?_
        refine pi_au 5 (u := (pi_lp (z_od1 W.hh (10 - (i + 1))) dd (z_od W.hh W.nd i)).2) (n := 8) (a := 9) (x := nI dd) (pc' := 42) (l' := [some (.ref 1), some (.int (nI ((pi_lp (z_od1 W.hh (10 - (i + 1))) dd (z_od W.hh W.nd i)).2))), some (.int (nI (10 - (i + 1)))), some (.int (nI dd))]) (t := []) (σ' := z2) (fun f => rfl) (by omega) (by omega) ?_
        generalize es3 : pi_up z2 9 ((pi_lp (z_od1 W.hh (10 - (i + 1))) dd (z_od W.hh W.nd i)).2) (nI dd) = s3
        refine pi_go 1 (pc' := 45) (l' := [some (.ref 1), some (.int (nI ((pi_lp (z_od1 W.hh (10 - (i + 1))) dd (z_od W.hh W.nd i)).2) + nI 1)), some (.int (nI (10 - (i + 1)))), some (.int (nI dd))]) (st' := []) (σ' := s3) (fun f => rfl) ?_
        rw [show nI ((pi_lp (z_od1 W.hh (10 - (i + 1))) dd (z_od W.hh W.nd i)).2) + nI 1 = nI ((pi_lp (z_od1 W.hh (10 - (i + 1))) dd (z_od W.hh W.nd i)).2 + 1) from nI_add _ 1]
        refine pi_go 1 (pc' := 48) (l' := [some (.ref 1), some (.int (nI ((pi_lp (z_od1 W.hh (10 - (i + 1))) dd (z_od W.hh W.nd i)).2 + 1))), some (.int (nI (10 - (i + 1)))), some (.int (nI dd + nI 1))]) (st' := []) (σ' := s3) (fun f => rfl) ?_
        rw [show nI dd + nI 1 = nI (dd + 1) from nI_add _ 1]
        refine pi_go 1 (pc' := 11) (l' := [some (.ref 1), some (.int (nI ((pi_lp (z_od1 W.hh (10 - (i + 1))) dd (z_od W.hh W.nd i)).2 + 1))), some (.int (nI (10 - (i + 1)))), some (.int (nI (dd + 1)))]) (st' := []) (σ' := s3) (fun f => rfl) ?_
        have hst := z_od1_p (s := z_od W.hh W.nd i) h1
        rw [show (pi_lp (z_od1 W.hh (10 - (i + 1))) dd (z_od W.hh W.nd i)).2 + 1 = (pi_lp (z_od1 W.hh (10 - (i + 1))) (dd + 1) (z_od W.hh W.nd i)).2 from (congrArg Prod.snd hst).symm]
        exact ih2 _ (pi_fr_of es3 (by decide) (pi_fr_tr hrz2 (by decide) (pi_fr_rf))) ((by rw [hst, (congrFun es3 9).symm.trans ((pi_up_self _ _ _ _))]; exact z_od_st hx2 (by omega)))
      · refine pi_go 1 (pc' := 48) (l' := [some (.ref 1), some (.int (nI ((pi_lp (z_od1 W.hh (10 - (i + 1))) dd (z_od W.hh W.nd i)).2))), some (.int (nI (10 - (i + 1)))), some (.int (nI dd + nI 1))]) (st' := []) (σ' := z2) (fun f => rfl) ?_
        rw [show nI dd + nI 1 = nI (dd + 1) from nI_add _ 1]
        refine pi_go 1 (pc' := 11) (l' := [some (.ref 1), some (.int (nI ((pi_lp (z_od1 W.hh (10 - (i + 1))) dd (z_od W.hh W.nd i)).2))), some (.int (nI (10 - (i + 1)))), some (.int (nI (dd + 1)))]) (st' := []) (σ' := z2) (fun f => rfl) ?_
        have hst := z_od1_n (s := z_od W.hh W.nd i) h1
        rw [show (pi_lp (z_od1 W.hh (10 - (i + 1))) dd (z_od W.hh W.nd i)).2 = (pi_lp (z_od1 W.hh (10 - (i + 1))) (dd + 1) (z_od W.hh W.nd i)).2 from (congrArg Prod.snd hst).symm]
        exact ih2 _ (pi_fr_tr hrz2 (by decide) (pi_fr_rf)) ((by rw [hst]; exact hx2))
theorem z_os_nx {W : zW} (hns12 : W.ns ≤ 12) {i : Nat} {f : Nat → Int32} (h1 : ∀ e, e < W.nd → e ≠ z_dd W i → (∃ j, j < i ∧ z_dd W j = e) → f e = z_nv W.ns (z_fi W.up e W.ns W.ns)) (h2 : f (z_dd W i) = z_ff W.up (z_dd W i) W.ns) : ∀ e, e < W.nd → (∃ j, j < i + 1 ∧ z_dd W j = e) → f e = z_nv W.ns (z_fi W.up e W.ns W.ns) := by
  intro e he ⟨j, hj, q⟩
  by_cases w : e = z_dd W i
  · rw [w, h2, z_ff_fi _ _ hns12]
  · refine h1 e he w ⟨j, ?_, q⟩
    rcases Nat.lt_or_eq_of_le (Nat.lt_succ_iff.mp hj) with z | z
    · exact z
    · rw [z] at q
      exact absurd q.symm w
set_option maxRecDepth 20000 in
theorem pi_C_orderS {xs : Nat → Int32} {L d : Nat} {W : zW} {σ : pi_S} (hk : z_wk W) (h8 : σ 1 8 = nI W.nd) (h6 : ∀ k, k < W.nd → σ 6 k = W.hh k) (h19 : σ 1 9 = nI W.ns) (h9 : ∀ i, i < W.nd → σ 9 i = nI (z_dd W i) ∧ z_dd W i < W.nd) (h7 : ∀ k, k < W.ns → σ 7 k = nI (W.up k))  : pi_wp xs L d 56 0 [some (.ref 1), none, none, none, none] [] σ (fun v s => v = none ∧ (∀ i, i < W.ns → s 10 i = nI (z_sd W i) ∧ z_sd W i < W.ns) ∧ (∀ i, i < W.nd → s 11 i = z_nv W.ns (z_fi W.up i W.ns W.ns)) ∧ pi_fr [10, 11] s σ) := by
  have hnd8 := hk.wd.nd8
  have hns12 := hk.wd.ns12
  have hn60 := hk.nine
  have hnf := hk.nf
  have hnw := hk.nw
  have hnc := hk.nc
  have hn08 := hk.wd.n0
  have hn140 := hk.wd.n1
  refine pi_go 4 (pc' := 4) (l' := [some (.ref 1), some (.int (nI 0)), some (.int (nI 0)), none, none]) (st' := []) (σ' := σ) (fun f => rfl) ?_
  suffices hl1 : ∀ i, i ≤ W.nd → ∀ (j3 j4 : Option Value), ∀ (z1 : pi_S), pi_fr [10, 11] z1 σ → ((∀ q, q < (z_os W.up W.ns (z_dd W) i).2 → z1 10 q = nI ((z_os W.up W.ns (z_dd W) i).1 q) ∧ (z_os W.up W.ns (z_dd W) i).1 q < W.ns) ∧ ∀ e, e < W.nd → (∃ j, j < i ∧ z_dd W j = e) → z1 11 e = z_nv W.ns (z_fi W.up e W.ns W.ns)) → pi_wp xs L d 56 4 [some (.ref 1), some (.int (nI ((z_os W.up W.ns (z_dd W) i).2))), some (.int (nI i)), j3, j4] [] z1 (fun v s => v = none ∧ (∀ i, i < W.ns → s 10 i = nI (z_sd W i) ∧ z_sd W i < W.ns) ∧ (∀ i, i < W.nd → s 11 i = z_nv W.ns (z_fi W.up i W.ns W.ns)) ∧ pi_fr [10, 11] s σ) from hl1 0 (by omega) _ _ _ (pi_fr_rf) (⟨fun q hq => absurd hq (Nat.not_lt_zero q), fun e he ⟨j, hj, _⟩ => absurd hj (Nat.not_lt_zero j)⟩)
  refine pi_lp0 ?_ ?_
  · intro j3 j4 z1 hrz1 hx1
    refine pi_go 3 (pc' := 9) (l' := [some (.ref 1), some (.int (nI ((z_os W.up W.ns (z_dd W) W.nd).2))), some (.int (nI W.nd)), j3, j4]) (st' := [.int (z1 1 8), .int (nI W.nd)]) (σ' := z1) (fun f => rfl) ?_
    refine pi_tp (y := nI W.nd) ((congrFun (hrz1 1 (by decide)) 8).trans (h8)) ?_
    refine pi_ct 1 (c := nI W.nd ≤ nI W.nd) (pc' := 96) (l' := [some (.ref 1), some (.int (nI ((z_os W.up W.ns (z_dd W) W.nd).2))), some (.int (nI W.nd)), j3, j4]) (st' := []) (σ' := z1) (pc2 := 12) (l2 := [some (.ref 1), some (.int (nI ((z_os W.up W.ns (z_dd W) W.nd).2))), some (.int (nI W.nd)), j3, j4]) (st2 := []) (σ2 := z1) (fun f => rfl) ((show nI W.nd ≤ nI W.nd ↔ _ from nI_leI (by omega) (by omega)).mpr (by omega)) ?_
    refine pi_rt 1 (v := none) (σ' := z1) (fun f => rfl) ?_
    exact ⟨rfl, fun q hq => hx1.1 q (by rw [z_os_n hk]; exact hq), fun e he => hx1.2 e he (z_od_has hk he), pi_fr_tr hrz1 (by decide) (pi_fr_rf)⟩
  · intro i hi1 ih1 j3 j4 z1 hrz1 hx1
    have hddi := (h9 i (by omega)).2
    refine pi_go 3 (pc' := 9) (l' := [some (.ref 1), some (.int (nI ((z_os W.up W.ns (z_dd W) i).2))), some (.int (nI i)), j3, j4]) (st' := [.int (z1 1 8), .int (nI i)]) (σ' := z1) (fun f => rfl) ?_
    refine pi_tp (y := nI W.nd) ((congrFun (hrz1 1 (by decide)) 8).trans (h8)) ?_
    refine pi_cf 1 (c := nI W.nd ≤ nI i) (pc' := 12) (l' := [some (.ref 1), some (.int (nI ((z_os W.up W.ns (z_dd W) i).2))), some (.int (nI i)), j3, j4]) (st' := []) (σ' := z1) (pc2 := 96) (l2 := [some (.ref 1), some (.int (nI ((z_os W.up W.ns (z_dd W) i).2))), some (.int (nI i)), j3, j4]) (st2 := []) (σ2 := z1) (fun f => rfl) (fun zq => absurd ((show nI W.nd ≤ nI i ↔ _ from nI_leI (by omega) (by omega)).mp zq) (by omega)) ?_
    refine pi_ai 4 (u := i) (n := 8) (g := z1 9) (pc' := 18) (l' := [some (.ref 1), some (.int (nI ((z_os W.up W.ns (z_dd W) i).2))), some (.int (nI i)), j3, j4]) (t := []) (σ' := z1) (fun f => rfl) (by omega) (by omega) ?_
    refine pi_tp (y := nI (z_dd W i)) ((congrFun (hrz1 9 (by decide)) i).trans ((h9 i (by omega)).1)) ?_
    refine pi_au 6 (u := z_dd W i) (n := 8) (a := 11) (x := (-1)) (pc' := 26) (l' := [some (.ref 1), some (.int (nI ((z_os W.up W.ns (z_dd W) i).2))), some (.int (nI i)), some (.int (nI (z_dd W i))), j4]) (t := []) (σ' := z1) (fun f => rfl) (by omega) (by omega) ?_
    generalize es2 : pi_up z1 11 (z_dd W i) (-1) = s2
    refine pi_go 2 (pc' := 29) (l' := [some (.ref 1), some (.int (nI ((z_os W.up W.ns (z_dd W) i).2))), some (.int (nI i)), some (.int (nI (z_dd W i))), some (.int (nI 0))]) (st' := []) (σ' := s2) (fun f => rfl) ?_
    suffices hl3 : ∀ k, k ≤ W.ns → ∀ (z3 : pi_S), pi_fr [10, 11] z3 σ → ((∀ q, q < (pi_lp (z_os1 W.up (z_dd W i)) k (z_os W.up W.ns (z_dd W) i)).2 → z3 10 q = nI ((pi_lp (z_os1 W.up (z_dd W i)) k (z_os W.up W.ns (z_dd W) i)).1 q) ∧ (pi_lp (z_os1 W.up (z_dd W i)) k (z_os W.up W.ns (z_dd W) i)).1 q < W.ns) ∧ (∀ e, e < W.nd → e ≠ z_dd W i → (∃ j, j < i ∧ z_dd W j = e) → z3 11 e = z_nv W.ns (z_fi W.up e W.ns W.ns)) ∧ z3 11 (z_dd W i) = z_ff W.up (z_dd W i) k) → pi_wp xs L d 56 29 [some (.ref 1), some (.int (nI ((pi_lp (z_os1 W.up (z_dd W i)) k (z_os W.up W.ns (z_dd W) i)).2))), some (.int (nI i)), some (.int (nI (z_dd W i))), some (.int (nI k))] [] z3 (fun v s => v = none ∧ (∀ i, i < W.ns → s 10 i = nI (z_sd W i) ∧ z_sd W i < W.ns) ∧ (∀ i, i < W.nd → s 11 i = z_nv W.ns (z_fi W.up i W.ns W.ns)) ∧ pi_fr [10, 11] s σ) from hl3 0 (by omega) _ (pi_fr_of es2 (by decide) (pi_fr_tr hrz1 (by decide) (pi_fr_rf))) (⟨by rw [(congrFun es2 10).symm.trans ((pi_up_ne _ _ _ (by decide)))]; exact hx1.1, fun e he hne hj => (congrFun ((congrFun es2 11).symm.trans ((pi_up_self _ _ _ _))) e).trans ((if_neg hne).trans (hx1.2 e he hj)), (congrFun ((congrFun es2 11).symm.trans ((pi_up_self _ _ _ _))) _).trans (if_pos rfl)⟩)
    refine pi_lp0 ?_ ?_
    · intro z3 hrz3 hx3
      refine pi_go 3 (pc' := 35) (l' := [some (.ref 1), some (.int (nI ((pi_lp (z_os1 W.up (z_dd W i)) W.ns (z_os W.up W.ns (z_dd W) i)).2))), some (.int (nI i)), some (.int (nI (z_dd W i))), some (.int (nI W.ns))]) (st' := [.int (z3 1 9), .int (nI W.ns)]) (σ' := z3) (fun f => rfl) ?_
      refine pi_tp (y := nI W.ns) ((congrFun (hrz3 1 (by decide)) 9).trans (h19)) ?_
      refine pi_ct 1 (c := nI W.ns ≤ nI W.ns) (pc' := 90) (l' := [some (.ref 1), some (.int (nI ((pi_lp (z_os1 W.up (z_dd W i)) W.ns (z_os W.up W.ns (z_dd W) i)).2))), some (.int (nI i)), some (.int (nI (z_dd W i))), some (.int (nI W.ns))]) (st' := []) (σ' := z3) (pc2 := 38) (l2 := [some (.ref 1), some (.int (nI ((pi_lp (z_os1 W.up (z_dd W i)) W.ns (z_os W.up W.ns (z_dd W) i)).2))), some (.int (nI i)), some (.int (nI (z_dd W i))), some (.int (nI W.ns))]) (st2 := []) (σ2 := z3) (fun f => rfl) ((show nI W.ns ≤ nI W.ns ↔ _ from nI_leI (by omega) (by omega)).mpr (by omega)) ?_
      refine pi_go 1 (pc' := 93) (l' := [some (.ref 1), some (.int (nI ((pi_lp (z_os1 W.up (z_dd W i)) W.ns (z_os W.up W.ns (z_dd W) i)).2))), some (.int (nI i + nI 1)), some (.int (nI (z_dd W i))), some (.int (nI W.ns))]) (st' := []) (σ' := z3) (fun f => rfl) ?_
      rw [show nI i + nI 1 = nI (i + 1) from nI_add _ 1]
      refine pi_go 1 (pc' := 4) (l' := [some (.ref 1), some (.int (nI ((pi_lp (z_os1 W.up (z_dd W i)) W.ns (z_os W.up W.ns (z_dd W) i)).2))), some (.int (nI (i + 1))), some (.int (nI (z_dd W i))), some (.int (nI W.ns))]) (st' := []) (σ' := z3) (fun f => rfl) ?_
      rw [show (pi_lp (z_os1 W.up (z_dd W i)) W.ns (z_os W.up W.ns (z_dd W) i)).2 = (z_os W.up W.ns (z_dd W) (i + 1)).2 from rfl]
      exact ih1 _ _ _ (pi_fr_tr hrz3 (by decide) (pi_fr_rf)) (⟨hx3.1, z_os_nx hns12 hx3.2.1 hx3.2.2⟩)
    · intro k hi3 ih3 z3 hrz3 hx3
      have hup := (hk.wd.us k (by omega)).2.2.1
      refine pi_go 3 (pc' := 35) (l' := [some (.ref 1), some (.int (nI ((pi_lp (z_os1 W.up (z_dd W i)) k (z_os W.up W.ns (z_dd W) i)).2))), some (.int (nI i)), some (.int (nI (z_dd W i))), some (.int (nI k))]) (st' := [.int (z3 1 9), .int (nI k)]) (σ' := z3) (fun f => rfl) ?_
      refine pi_tp (y := nI W.ns) ((congrFun (hrz3 1 (by decide)) 9).trans (h19)) ?_
      refine pi_cf 1 (c := nI W.ns ≤ nI k) (pc' := 38) (l' := [some (.ref 1), some (.int (nI ((pi_lp (z_os1 W.up (z_dd W i)) k (z_os W.up W.ns (z_dd W) i)).2))), some (.int (nI i)), some (.int (nI (z_dd W i))), some (.int (nI k))]) (st' := []) (σ' := z3) (pc2 := 90) (l2 := [some (.ref 1), some (.int (nI ((pi_lp (z_os1 W.up (z_dd W i)) k (z_os W.up W.ns (z_dd W) i)).2))), some (.int (nI i)), some (.int (nI (z_dd W i))), some (.int (nI k))]) (st2 := []) (σ2 := z3) (fun f => rfl) (fun zq => absurd ((show nI W.ns ≤ nI k ↔ _ from nI_leI (by omega) (by omega)).mp zq) (by omega)) ?_
      refine pi_ai 4 (u := k) (n := 12) (g := z3 7) (pc' := 45) (l' := [some (.ref 1), some (.int (nI ((pi_lp (z_os1 W.up (z_dd W i)) k (z_os W.up W.ns (z_dd W) i)).2))), some (.int (nI i)), some (.int (nI (z_dd W i))), some (.int (nI k))]) (t := []) (σ' := z3) (fun f => rfl) (by omega) (by omega) ?_
      refine pi_tp (y := nI (W.up k)) ((congrFun (hrz3 7 (by decide)) k).trans (h7 k (by omega))) ?_
      refine pi_if 2 (c := nI (W.up k) = nI (z_dd W i)) (pc' := 49) (l' := [some (.ref 1), some (.int (nI ((pi_lp (z_os1 W.up (z_dd W i)) k (z_os W.up W.ns (z_dd W) i)).2))), some (.int (nI i)), some (.int (nI (z_dd W i))), some (.int (nI k))]) (st' := []) (σ' := z3) (pc2 := 84) (l2 := [some (.ref 1), some (.int (nI ((pi_lp (z_os1 W.up (z_dd W i)) k (z_os W.up W.ns (z_dd W) i)).2))), some (.int (nI i)), some (.int (nI (z_dd W i))), some (.int (nI k))]) (st2 := []) (σ2 := z3) (fun f => rfl) (fun h1 => ?_) (fun h1 => ?_)
      · replace h1 : (W.up k) = (z_dd W i) := (nI_eq (by omega) (by omega)).mp h1
        have hlt := z_os_lt hk (by omega) (by omega) h1
        refine pi_cf 3 (c := nI 12 ≤ nI ((pi_lp (z_os1 W.up (z_dd W i)) k (z_os W.up W.ns (z_dd W) i)).2)) (pc' := 55) (l' := [some (.ref 1), some (.int (nI ((pi_lp (z_os1 W.up (z_dd W i)) k (z_os W.up W.ns (z_dd W) i)).2))), some (.int (nI i)), some (.int (nI (z_dd W i))), some (.int (nI k))]) (st' := []) (σ' := z3) (pc2 := 84) (l2 := [some (.ref 1), some (.int (nI ((pi_lp (z_os1 W.up (z_dd W i)) k (z_os W.up W.ns (z_dd W) i)).2))), some (.int (nI i)), some (.int (nI (z_dd W i))), some (.int (nI k))]) (st2 := []) (σ2 := z3) (fun f => rfl) (fun q => absurd ((nI_leI (by omega) (by omega)).mp q) (by omega)) ?_
        refine pi_au 5 (u := (pi_lp (z_os1 W.up (z_dd W i)) k (z_os W.up W.ns (z_dd W) i)).2) (n := 12) (a := 10) (x := nI k) (pc' := 63) (l' := [some (.ref 1), some (.int (nI ((pi_lp (z_os1 W.up (z_dd W i)) k (z_os W.up W.ns (z_dd W) i)).2))), some (.int (nI i)), some (.int (nI (z_dd W i))), some (.int (nI k))]) (t := []) (σ' := z3) (fun f => rfl) (by omega) (by omega) ?_
        generalize es4 : pi_up z3 10 ((pi_lp (z_os1 W.up (z_dd W i)) k (z_os W.up W.ns (z_dd W) i)).2) (nI k) = s4
        refine pi_go 1 (pc' := 66) (l' := [some (.ref 1), some (.int (nI ((pi_lp (z_os1 W.up (z_dd W i)) k (z_os W.up W.ns (z_dd W) i)).2) + nI 1)), some (.int (nI i)), some (.int (nI (z_dd W i))), some (.int (nI k))]) (st' := []) (σ' := s4) (fun f => rfl) ?_
        rw [show nI ((pi_lp (z_os1 W.up (z_dd W i)) k (z_os W.up W.ns (z_dd W) i)).2) + nI 1 = nI ((pi_lp (z_os1 W.up (z_dd W i)) k (z_os W.up W.ns (z_dd W) i)).2 + 1) from nI_add _ 1]
        refine pi_ai 4 (u := z_dd W i) (n := 8) (g := s4 11) (pc' := 72) (l' := [some (.ref 1), some (.int (nI ((pi_lp (z_os1 W.up (z_dd W i)) k (z_os W.up W.ns (z_dd W) i)).2 + 1))), some (.int (nI i)), some (.int (nI (z_dd W i))), some (.int (nI k))]) (t := []) (σ' := s4) (fun f => rfl) (by omega) (by omega) ?_
        refine pi_tp (y := z_ff W.up (z_dd W i) k) ((congrFun ((congrFun es4 11).symm.trans (pi_up_ne _ _ _ (by decide))) (z_dd W i)).trans (hx3.2.2)) ?_
        refine pi_if 2 (c := z_ff W.up (z_dd W i) k = (-1)) (pc' := 76) (l' := [some (.ref 1), some (.int (nI ((pi_lp (z_os1 W.up (z_dd W i)) k (z_os W.up W.ns (z_dd W) i)).2 + 1))), some (.int (nI i)), some (.int (nI (z_dd W i))), some (.int (nI k))]) (st' := []) (σ' := s4) (pc2 := 84) (l2 := [some (.ref 1), some (.int (nI ((pi_lp (z_os1 W.up (z_dd W i)) k (z_os W.up W.ns (z_dd W) i)).2 + 1))), some (.int (nI i)), some (.int (nI (z_dd W i))), some (.int (nI k))]) (st2 := []) (σ2 := s4) (fun f => rfl) (fun h2 => ?_) (fun h2 => ?_)
        · refine pi_au 5 (u := z_dd W i) (n := 8) (a := 11) (x := nI k) (pc' := 84) (l' := [some (.ref 1), some (.int (nI ((pi_lp (z_os1 W.up (z_dd W i)) k (z_os W.up W.ns (z_dd W) i)).2 + 1))), some (.int (nI i)), some (.int (nI (z_dd W i))), some (.int (nI k))]) (t := []) (σ' := s4) (fun f => rfl) (by omega) (by omega) ?_
          generalize es5 : pi_up s4 11 (z_dd W i) (nI k) = s5
          refine pi_go 1 (pc' := 87) (l' := [some (.ref 1), some (.int (nI ((pi_lp (z_os1 W.up (z_dd W i)) k (z_os W.up W.ns (z_dd W) i)).2 + 1))), some (.int (nI i)), some (.int (nI (z_dd W i))), some (.int (nI k + nI 1))]) (st' := []) (σ' := s5) (fun f => rfl) ?_
          rw [show nI k + nI 1 = nI (k + 1) from nI_add _ 1]
          refine pi_go 1 (pc' := 29) (l' := [some (.ref 1), some (.int (nI ((pi_lp (z_os1 W.up (z_dd W i)) k (z_os W.up W.ns (z_dd W) i)).2 + 1))), some (.int (nI i)), some (.int (nI (z_dd W i))), some (.int (nI (k + 1)))]) (st' := []) (σ' := s5) (fun f => rfl) ?_
          have hst := z_os1_p (s := z_os W.up W.ns (z_dd W) i) h1
          rw [show (pi_lp (z_os1 W.up (z_dd W i)) k (z_os W.up W.ns (z_dd W) i)).2 + 1 = (pi_lp (z_os1 W.up (z_dd W i)) (k + 1) (z_os W.up W.ns (z_dd W) i)).2 from (congrArg Prod.snd hst).symm]
          exact ih3 _ (pi_fr_of es5 (by decide) (pi_fr_of es4 (by decide) (pi_fr_tr hrz3 (by decide) (pi_fr_rf)))) (⟨by rw [hst, (congrFun es5 10).symm.trans ((pi_up_ne _ _ _ (by decide)).trans ((congrFun es4 10).symm.trans ((pi_up_self _ _ _ _))))]; exact z_od_st hx3.1 (by omega), fun e he hne hj => (congrFun ((congrFun es5 11).symm.trans ((pi_up_self _ _ _ _).trans (congrArg (fun z => upd z (z_dd W i) (nI k)) ((congrFun es4 11).symm.trans ((pi_up_ne _ _ _ (by decide))))))) e).trans ((if_neg hne).trans (hx3.2.1 e he hne hj)), (congrFun ((congrFun es5 11).symm.trans ((pi_up_self _ _ _ _).trans (congrArg (fun z => upd z (z_dd W i) (nI k)) ((congrFun es4 11).symm.trans ((pi_up_ne _ _ _ (by decide))))))) _).trans ((if_pos rfl).trans (z_ff_t h1 h2).symm)⟩)
        · refine pi_go 1 (pc' := 87) (l' := [some (.ref 1), some (.int (nI ((pi_lp (z_os1 W.up (z_dd W i)) k (z_os W.up W.ns (z_dd W) i)).2 + 1))), some (.int (nI i)), some (.int (nI (z_dd W i))), some (.int (nI k + nI 1))]) (st' := []) (σ' := s4) (fun f => rfl) ?_
          rw [show nI k + nI 1 = nI (k + 1) from nI_add _ 1]
          refine pi_go 1 (pc' := 29) (l' := [some (.ref 1), some (.int (nI ((pi_lp (z_os1 W.up (z_dd W i)) k (z_os W.up W.ns (z_dd W) i)).2 + 1))), some (.int (nI i)), some (.int (nI (z_dd W i))), some (.int (nI (k + 1)))]) (st' := []) (σ' := s4) (fun f => rfl) ?_
          have hst := z_os1_p (s := z_os W.up W.ns (z_dd W) i) h1
          rw [show (pi_lp (z_os1 W.up (z_dd W i)) k (z_os W.up W.ns (z_dd W) i)).2 + 1 = (pi_lp (z_os1 W.up (z_dd W i)) (k + 1) (z_os W.up W.ns (z_dd W) i)).2 from (congrArg Prod.snd hst).symm]
          exact ih3 _ (pi_fr_of es4 (by decide) (pi_fr_tr hrz3 (by decide) (pi_fr_rf))) (⟨by rw [hst, (congrFun es4 10).symm.trans ((pi_up_self _ _ _ _))]; exact z_od_st hx3.1 (by omega), fun e he hne hj => (congrFun ((congrFun es4 11).symm.trans ((pi_up_ne _ _ _ (by decide)))) e).trans (hx3.2.1 e he hne hj), (congrFun ((congrFun es4 11).symm.trans ((pi_up_ne _ _ _ (by decide)))) _).trans (hx3.2.2.trans (z_ff_m h2).symm)⟩)
      · replace h1 : ¬ ((W.up k) = (z_dd W i)) := fun zq => h1 ((nI_eq (by omega) (by omega)).mpr zq)
        refine pi_go 1 (pc' := 87) (l' := [some (.ref 1), some (.int (nI ((pi_lp (z_os1 W.up (z_dd W i)) k (z_os W.up W.ns (z_dd W) i)).2))), some (.int (nI i)), some (.int (nI (z_dd W i))), some (.int (nI k + nI 1))]) (st' := []) (σ' := z3) (fun f => rfl) ?_
        rw [show nI k + nI 1 = nI (k + 1) from nI_add _ 1]
        refine pi_go 1 (pc' := 29) (l' := [some (.ref 1), some (.int (nI ((pi_lp (z_os1 W.up (z_dd W i)) k (z_os W.up W.ns (z_dd W) i)).2))), some (.int (nI i)), some (.int (nI (z_dd W i))), some (.int (nI (k + 1)))]) (st' := []) (σ' := z3) (fun f => rfl) ?_
        have hst := z_os1_n (s := z_os W.up W.ns (z_dd W) i) h1
        rw [show (pi_lp (z_os1 W.up (z_dd W i)) k (z_os W.up W.ns (z_dd W) i)).2 = (pi_lp (z_os1 W.up (z_dd W i)) (k + 1) (z_os W.up W.ns (z_dd W) i)).2 from (congrArg Prod.snd hst).symm]
        exact ih3 _ (pi_fr_tr hrz3 (by decide) (pi_fr_rf)) (⟨by rw [hst]; exact hx3.1, hx3.2.1, hx3.2.2.trans (z_ff_n h1).symm⟩)
set_option maxRecDepth 20000 in
theorem pi_C_survey {xs : Nat → Int32} {L d : Nat} {W : zW} {σ : pi_S} (hk : z_wk W) (hx : z_TX W σ)  : pi_wp xs L (d + 5) 50 0 [some (.ref 1), none] [] σ (fun v s => v = none ∧ z_CT W s ∧ pi_fr [1, 6, 7, 8, 9, 10, 11] s σ) := by
  have hnd8 := hk.wd.nd8
  have hns12 := hk.wd.ns12
  have hn60 := hk.nine
  have hnf := hk.nf
  have hnw := hk.nw
  have hnc := hk.nc
  have hn08 := hk.wd.n0
  have hn140 := hk.wd.n1
  have hns3 := z_ns3 hk
  have hndn := z_dr_le hk.wd.dr
  refine pi_ca 3 (m' := 52) (l' := [some (.ref 1), none]) (σ' := σ) (pc2 := 5) (l2 := [some (.ref 1), none]) (t := [.ref 1]) (fun f => rfl) (pi_C_fdoors hk hx) ?_
  rintro _ _ ⟨rfl, rfl⟩
  refine pi_go 1 (pc' := 8) (l' := [some (.ref 1), none]) (st' := []) (σ' := (pi_up σ 1 10 W.f0)) (fun f => rfl) ?_
  generalize es1 : pi_up σ 1 10 W.f0 = s1
  refine pi_go 3 (pc' := 13) (l' := [some (.ref 1), none]) (st' := [.int (s1 1 10), .ref 1]) (σ' := s1) (fun f => rfl) ?_
  refine pi_tp (y := W.f0) ((congrFun (congrFun es1 1) 10).symm.trans (pi_up_ss _ _ _ _)) ?_
  refine pi_if 2 (c := W.f0 = (-1)) (pc' := 17) (l' := [some (.ref 1), none]) (st' := [.ref 1]) (σ' := s1) (pc2 := 32) (l2 := [some (.ref 1), none]) (st2 := [.ref 1]) (σ2 := s1) (fun f => rfl) (fun h1 => ?_) (fun h1 => ?_)
  · refine pi_go 3 (pc' := 24) (l' := [some (.ref 1), none]) (st' := [.int (s1 2 2), .ref 1]) (σ' := s1) (fun f => rfl) ?_
    refine pi_tp (y := nI W.n0) ((congrFun ((congrFun es1 2).symm.trans (pi_up_ne _ _ _ (by decide))) 2).trans (hx.n0)) ?_
    refine pi_go 2 (pc' := 29) (l' := [some (.ref 1), none]) (st' := [.int (if nI 8 < nI W.n0 then nI 8 else nI W.n0), .ref 1]) (σ' := s1) (fun f => rfl) ?_
    have hq0 := (z_dr_c hk.wd.dr hn08).1 h1
    refine pi_tp (y := nI W.nd) ((if_neg (fun q => absurd ((nI_ltI (by omega) (by omega)).mp q) (by omega))).trans (congrArg nI hq0.symm)) ?_
    refine pi_go 1 (pc' := 33) (l' := [some (.ref 1), none]) (st' := [.int (nI W.nd), .ref 1]) (σ' := s1) (fun f => rfl) ?_
    refine pi_go 1 (pc' := 36) (l' := [some (.ref 1), none]) (st' := []) (σ' := (pi_up s1 1 8 (nI W.nd))) (fun f => rfl) ?_
    generalize es2 : pi_up s1 1 8 (nI W.nd) = s2
    refine pi_go 2 (pc' := 38) (l' := [some (.ref 1), some (.int (nI 0))]) (st' := []) (σ' := s2) (fun f => rfl) ?_
    suffices hl3 : ∀ i, i ≤ W.nd → ∀ (z3 : pi_S), pi_fr [1, 6] z3 σ → (z3 1 8 = nI W.nd ∧ z3 1 10 = W.f0 ∧ ∀ q, q < i → z3 6 q = W.hh q) → pi_wp xs L (d + 5) 50 38 [some (.ref 1), some (.int (nI i))] [] z3 (fun v s => v = none ∧ z_CT W s ∧ pi_fr [1, 6, 7, 8, 9, 10, 11] s σ) from hl3 0 (by omega) _ (pi_fr_of es2 (by decide) (pi_fr_of es1 (by decide) (pi_fr_rf))) (⟨(congrFun (congrFun es2 1) 8).symm.trans (pi_up_ss _ _ _ _), (congrFun (congrFun es2 1) 10).symm.trans ((pi_up_sn _ _ _ (by decide)).trans ((congrFun (congrFun es1 1) 10).symm.trans (pi_up_ss _ _ _ _))), fun q hq => absurd hq (Nat.not_lt_zero q)⟩)
    refine pi_lp0 ?_ ?_
    · intro z3 hrz3 hx3
      refine pi_go 3 (pc' := 43) (l' := [some (.ref 1), some (.int (nI W.nd))]) (st' := [.int (z3 1 8), .int (nI W.nd)]) (σ' := z3) (fun f => rfl) ?_
      refine pi_tp (y := nI W.nd) (hx3.1) ?_
      refine pi_ct 1 (c := nI W.nd ≤ nI W.nd) (pc' := 66) (l' := [some (.ref 1), some (.int (nI W.nd))]) (st' := []) (σ' := z3) (pc2 := 46) (l2 := [some (.ref 1), some (.int (nI W.nd))]) (st2 := []) (σ2 := z3) (fun f => rfl) ((show nI W.nd ≤ nI W.nd ↔ _ from nI_leI (by omega) (by omega)).mpr (by omega)) ?_
      refine pi_ca 3 (m' := 53) (l' := [some (.ref 1), none, none]) (σ' := z3) (pc2 := 71) (l2 := [some (.ref 1), some (.int (nI W.nd))]) (t := [.ref 1]) (fun f => rfl) (pi_C_fstreets hk (z_TX.of hx (pi_fr_tr hrz3 (by decide) (pi_fr_rf))) hx3.1 hx3.2.2) ?_
      rintro _ _ ⟨rfl, rfl⟩
      refine pi_go 1 (pc' := 74) (l' := [some (.ref 1), some (.int (nI W.nd))]) (st' := []) (σ' := (pi_up z3 1 11 W.f1)) (fun f => rfl) ?_
      generalize es4 : pi_up z3 1 11 W.f1 = s4
      refine pi_go 3 (pc' := 79) (l' := [some (.ref 1), some (.int (nI W.nd))]) (st' := [.int (s4 1 11), .ref 1]) (σ' := s4) (fun f => rfl) ?_
      refine pi_tp (y := W.f1) ((congrFun (congrFun es4 1) 11).symm.trans (pi_up_ss _ _ _ _)) ?_
      refine pi_if 2 (c := W.f1 = (-1)) (pc' := 83) (l' := [some (.ref 1), some (.int (nI W.nd))]) (st' := [.ref 1]) (σ' := s4) (pc2 := 102) (l2 := [some (.ref 1), some (.int (nI W.nd))]) (st2 := [.ref 1]) (σ2 := s4) (fun f => rfl) (fun h2 => ?_) (fun h2 => ?_)
      · refine pi_go 3 (pc' := 90) (l' := [some (.ref 1), some (.int (nI W.nd))]) (st' := [.int (s4 4 2), .ref 1]) (σ' := s4) (fun f => rfl) ?_
        refine pi_tp (y := nI W.n1) ((congrFun ((congrFun es4 4).symm.trans (pi_up_ne _ _ _ (by decide))) 2).trans ((congrFun (hrz3 4 (by decide)) 2).trans (hx.n1))) ?_
        refine pi_go 2 (pc' := 92) (l' := [some (.ref 1), some (.int (nI W.nd))]) (st' := [.int (nI W.n1 + nI 1), .ref 1]) (σ' := s4) (fun f => rfl) ?_
        refine pi_tp (y := nI (W.n1 + 1)) (nI_add _ _) ?_
        refine pi_gn 2 (c := nI 3 = 0) (pc' := 94) (l' := [some (.ref 1), some (.int (nI W.nd))]) (st' := [.int ((nI (W.n1 + 1)) / (nI 3)), .ref 1]) (σ' := s4) (fun f => rfl) (by decide) ?_
        refine pi_tp (y := nI ((W.n1 + 1) / 3)) (pk_div (by omega) (by omega) (by omega)) ?_
        refine pi_go 2 (pc' := 99) (l' := [some (.ref 1), some (.int (nI W.nd))]) (st' := [.int (if nI 12 < nI ((W.n1 + 1) / 3) then nI 12 else nI ((W.n1 + 1) / 3)), .ref 1]) (σ' := s4) (fun f => rfl) ?_
        have hq1 := (z_sr_n hk.wd.sr hn140).1 h2
        refine pi_tp (y := nI W.ns) ((if_neg (fun q => absurd ((nI_ltI (by omega) (by omega)).mp q) (by omega))).trans (congrArg nI hq1.symm)) ?_
        refine pi_go 1 (pc' := 103) (l' := [some (.ref 1), some (.int (nI W.nd))]) (st' := [.int (nI W.ns), .ref 1]) (σ' := s4) (fun f => rfl) ?_
        refine pi_go 1 (pc' := 106) (l' := [some (.ref 1), some (.int (nI W.nd))]) (st' := []) (σ' := (pi_up s4 1 9 (nI W.ns))) (fun f => rfl) ?_
        generalize es5 : pi_up s4 1 9 (nI W.ns) = s5
        refine pi_go 2 (pc' := 108) (l' := [some (.ref 1), some (.int (nI 0))]) (st' := []) (σ' := s5) (fun f => rfl) ?_
        suffices hl6 : ∀ i, i ≤ W.ns → ∀ (z6 : pi_S), pi_fr [1, 6, 7, 8] z6 σ → (z6 1 8 = nI W.nd ∧ z6 1 9 = nI W.ns ∧ z6 1 10 = W.f0 ∧ z6 1 11 = W.f1 ∧ (∀ q, q < W.nd → z6 6 q = W.hh q) ∧ ∀ q, q < i → z6 7 q = nI (W.up q) ∧ z6 8 q = nI (W.lo q)) → pi_wp xs L (d + 5) 50 108 [some (.ref 1), some (.int (nI i))] [] z6 (fun v s => v = none ∧ z_CT W s ∧ pi_fr [1, 6, 7, 8, 9, 10, 11] s σ) from hl6 0 (by omega) _ (pi_fr_of es5 (by decide) (pi_fr_of es4 (by decide) (pi_fr_tr hrz3 (by decide) (pi_fr_rf)))) (⟨(congrFun (congrFun es5 1) 8).symm.trans ((pi_up_sn _ _ _ (by decide)).trans ((congrFun (congrFun es4 1) 8).symm.trans ((pi_up_sn _ _ _ (by decide)).trans (hx3.1)))), (congrFun (congrFun es5 1) 9).symm.trans (pi_up_ss _ _ _ _), (congrFun (congrFun es5 1) 10).symm.trans ((pi_up_sn _ _ _ (by decide)).trans ((congrFun (congrFun es4 1) 10).symm.trans ((pi_up_sn _ _ _ (by decide)).trans (hx3.2.1)))), (congrFun (congrFun es5 1) 11).symm.trans ((pi_up_sn _ _ _ (by decide)).trans ((congrFun (congrFun es4 1) 11).symm.trans (pi_up_ss _ _ _ _))), fun q hq => (congrFun ((congrFun es5 6).symm.trans ((pi_up_ne _ _ _ (by decide)).trans ((congrFun es4 6).symm.trans ((pi_up_ne _ _ _ (by decide)))))) q).trans (hx3.2.2 q hq), fun q hq => absurd hq (Nat.not_lt_zero q)⟩)
        refine pi_lp0 ?_ ?_
        · intro z6 hrz6 hx6
          refine pi_go 3 (pc' := 113) (l' := [some (.ref 1), some (.int (nI W.ns))]) (st' := [.int (z6 1 9), .int (nI W.ns)]) (σ' := z6) (fun f => rfl) ?_
          refine pi_tp (y := nI W.ns) (hx6.2.1) ?_
          refine pi_ct 1 (c := nI W.ns ≤ nI W.ns) (pc' := 156) (l' := [some (.ref 1), some (.int (nI W.ns))]) (st' := []) (σ' := z6) (pc2 := 116) (l2 := [some (.ref 1), some (.int (nI W.ns))]) (st2 := []) (σ2 := z6) (fun f => rfl) ((show nI W.ns ≤ nI W.ns ↔ _ from nI_leI (by omega) (by omega)).mpr (by omega)) ?_
          refine pi_ca 2 (m' := 55) (l' := [some (.ref 1), none, none, none]) (σ' := z6) (pc2 := 160) (l2 := [some (.ref 1), some (.int (nI W.ns))]) (t := []) (fun f => rfl) (pi_C_orderD hk hx6.1 hx6.2.2.2.2.1) ?_
          rintro _ t7 ⟨rfl, et7, rt7⟩
          refine pi_ca 2 (m' := 56) (l' := [some (.ref 1), none, none, none, none]) (σ' := t7) (pc2 := 164) (l2 := [some (.ref 1), some (.int (nI W.ns))]) (t := []) (fun f => rfl) (pi_C_orderS hk ((congrFun (rt7 1 (by decide)) 8).trans hx6.1) (fun k hk1 => (congrFun (rt7 6 (by decide)) k).trans (hx6.2.2.2.2.1 k hk1)) ((congrFun (rt7 1 (by decide)) 9).trans hx6.2.1) et7 (fun k hk1 => (congrFun (rt7 7 (by decide)) k).trans (hx6.2.2.2.2.2 k hk1).1)) ?_
          rintro _ t8 ⟨rfl, et8, ft8, rt8⟩
          refine pi_rt 1 (v := none) (σ' := t8) (fun f => rfl) ?_
          exact ⟨rfl, z_CT.mk ((congrFun (rt8 1 (by decide)) 8).trans ((congrFun (rt7 1 (by decide)) 8).trans hx6.1)) ((congrFun (rt8 1 (by decide)) 9).trans ((congrFun (rt7 1 (by decide)) 9).trans hx6.2.1)) ((congrFun (rt8 1 (by decide)) 10).trans ((congrFun (rt7 1 (by decide)) 10).trans hx6.2.2.1)) ((congrFun (rt8 1 (by decide)) 11).trans ((congrFun (rt7 1 (by decide)) 11).trans hx6.2.2.2.1)) (fun k hk1 => (congrFun (rt8 6 (by decide)) k).trans ((congrFun (rt7 6 (by decide)) k).trans (hx6.2.2.2.2.1 k hk1))) (fun k hk1 => ⟨(congrFun (rt8 7 (by decide)) k).trans ((congrFun (rt7 7 (by decide)) k).trans (hx6.2.2.2.2.2 k hk1).1), (congrFun (rt8 8 (by decide)) k).trans ((congrFun (rt7 8 (by decide)) k).trans (hx6.2.2.2.2.2 k hk1).2)⟩) (fun k hk1 => ⟨(congrFun (rt8 9 (by decide)) k).trans (et7 k hk1).1, (et7 k hk1).2⟩) et8 ft8, pi_fr_tr rt8 (by decide) (pi_fr_tr rt7 (by decide) (pi_fr_tr hrz6 (by decide) (pi_fr_rf)))⟩
        · intro i hi6 ih6 z6 hrz6 hx6
          refine pi_go 3 (pc' := 113) (l' := [some (.ref 1), some (.int (nI i))]) (st' := [.int (z6 1 9), .int (nI i)]) (σ' := z6) (fun f => rfl) ?_
          refine pi_tp (y := nI W.ns) (hx6.2.1) ?_
          refine pi_cf 1 (c := nI W.ns ≤ nI i) (pc' := 116) (l' := [some (.ref 1), some (.int (nI i))]) (st' := []) (σ' := z6) (pc2 := 156) (l2 := [some (.ref 1), some (.int (nI i))]) (st2 := []) (σ2 := z6) (fun f => rfl) (fun zq => absurd ((show nI W.ns ≤ nI i ↔ _ from nI_leI (by omega) (by omega)).mp zq) (by omega)) ?_
          refine pi_go 8 (pc' := 128) (l' := [some (.ref 1), some (.int (nI i))]) (st' := [.int (nI 3 * nI i), .ref 4, .int (nI i), .ref 7]) (σ' := z6) (fun f => rfl) ?_
          refine pi_tp (y := nI (3 * i)) (pk_mul _ _) ?_
          refine pi_ca 1 (m' := 51) (l' := [some (.ref 4), some (.int (nI (3 * i))), none]) (σ' := z6) (pc2 := 131) (l2 := [some (.ref 1), some (.int (nI i))]) (t := [.int (nI i), .ref 7]) (fun f => rfl) (pi_C_fig1 hk (z_TX.of hx (pi_fr_tr hrz6 (by decide) (pi_fr_rf))) (k := 3 * i) (by omega)) ?_
          rintro _ _ ⟨rfl, rfl⟩
          refine pi_au 1 (u := i) (n := 12) (a := 7) (x := z_fg W.n1 (fun k => W.tx (40 + k)) (3 * i)) (pc' := 132) (l' := [some (.ref 1), some (.int (nI i))]) (t := []) (σ' := z6) (fun f => rfl) (by omega) (by omega) ?_
          generalize es9 : pi_up z6 7 i (z_fg W.n1 (fun k => W.tx (40 + k)) (3 * i)) = s9
          refine pi_go 8 (pc' := 144) (l' := [some (.ref 1), some (.int (nI i))]) (st' := [.int (nI 3 * nI i), .ref 4, .int (nI i), .ref 8]) (σ' := s9) (fun f => rfl) ?_
          refine pi_tp (y := nI (3 * i)) (pk_mul _ _) ?_
          refine pi_go 2 (pc' := 146) (l' := [some (.ref 1), some (.int (nI i))]) (st' := [.int (nI (3 * i) + nI 1), .ref 4, .int (nI i), .ref 8]) (σ' := s9) (fun f => rfl) ?_
          refine pi_tp (y := nI (3 * i + 1)) (nI_add _ _) ?_
          refine pi_ca 1 (m' := 51) (l' := [some (.ref 4), some (.int (nI (3 * i + 1))), none]) (σ' := s9) (pc2 := 149) (l2 := [some (.ref 1), some (.int (nI i))]) (t := [.int (nI i), .ref 8]) (fun f => rfl) (pi_C_fig1 hk (z_TX.of hx (pi_fr_of es9 (by decide) (pi_fr_tr hrz6 (by decide) (pi_fr_rf)))) (k := 3 * i + 1) (by omega)) ?_
          rintro _ _ ⟨rfl, rfl⟩
          refine pi_au 1 (u := i) (n := 12) (a := 8) (x := z_fg W.n1 (fun k => W.tx (40 + k)) (3 * i + 1)) (pc' := 150) (l' := [some (.ref 1), some (.int (nI i))]) (t := []) (σ' := s9) (fun f => rfl) (by omega) (by omega) ?_
          generalize es10 : pi_up s9 8 i (z_fg W.n1 (fun k => W.tx (40 + k)) (3 * i + 1)) = s10
          refine pi_go 1 (pc' := 153) (l' := [some (.ref 1), some (.int (nI i + nI 1))]) (st' := []) (σ' := s10) (fun f => rfl) ?_
          rw [show nI i + nI 1 = nI (i + 1) from nI_add _ 1]
          refine pi_go 1 (pc' := 108) (l' := [some (.ref 1), some (.int (nI (i + 1)))]) (st' := []) (σ' := s10) (fun f => rfl) ?_
          exact ih6 _ (pi_fr_of es10 (by decide) (pi_fr_of es9 (by decide) (pi_fr_tr hrz6 (by decide) (pi_fr_rf)))) (⟨(congrFun ((congrFun es10 1).symm.trans (pi_up_ne _ _ _ (by decide))) 8).trans ((congrFun ((congrFun es9 1).symm.trans (pi_up_ne _ _ _ (by decide))) 8).trans (hx6.1)), (congrFun ((congrFun es10 1).symm.trans (pi_up_ne _ _ _ (by decide))) 9).trans ((congrFun ((congrFun es9 1).symm.trans (pi_up_ne _ _ _ (by decide))) 9).trans (hx6.2.1)), (congrFun ((congrFun es10 1).symm.trans (pi_up_ne _ _ _ (by decide))) 10).trans ((congrFun ((congrFun es9 1).symm.trans (pi_up_ne _ _ _ (by decide))) 10).trans (hx6.2.2.1)), (congrFun ((congrFun es10 1).symm.trans (pi_up_ne _ _ _ (by decide))) 11).trans ((congrFun ((congrFun es9 1).symm.trans (pi_up_ne _ _ _ (by decide))) 11).trans (hx6.2.2.2.1)), fun q hq => (congrFun ((congrFun es10 6).symm.trans ((pi_up_ne _ _ _ (by decide)).trans ((congrFun es9 6).symm.trans ((pi_up_ne _ _ _ (by decide)))))) q).trans (hx6.2.2.2.2.1 q hq), lt_s (fun q hq => ⟨(congrFun ((congrFun es10 7).symm.trans ((pi_up_ne _ _ _ (by decide)).trans ((congrFun es9 7).symm.trans ((pi_up_self _ _ _ _))))) q).trans ((if_neg (by omega)).trans (hx6.2.2.2.2.2 q hq).1), (congrFun ((congrFun es10 8).symm.trans ((pi_up_self _ _ _ _).trans (congrArg (fun z => upd z i (z_fg W.n1 (fun k => W.tx (40 + k)) (3 * i + 1))) ((congrFun es9 8).symm.trans ((pi_up_ne _ _ _ (by decide))))))) q).trans ((if_neg (by omega)).trans (hx6.2.2.2.2.2 q hq).2)⟩) ⟨(congrFun ((congrFun es10 7).symm.trans ((pi_up_ne _ _ _ (by decide)).trans ((congrFun es9 7).symm.trans ((pi_up_self _ _ _ _))))) i).trans ((if_pos rfl).trans (hk.wd.us i (by omega)).1), (congrFun ((congrFun es10 8).symm.trans ((pi_up_self _ _ _ _).trans (congrArg (fun z => upd z i (z_fg W.n1 (fun k => W.tx (40 + k)) (3 * i + 1))) ((congrFun es9 8).symm.trans ((pi_up_ne _ _ _ (by decide))))))) i).trans ((if_pos rfl).trans (hk.wd.us i (by omega)).2.1)⟩⟩)
      · refine pi_go 1 (pc' := 103) (l' := [some (.ref 1), some (.int (nI W.nd))]) (st' := [.int (nI 0), .ref 1]) (σ' := s4) (fun f => rfl) ?_
        refine pi_tp (y := nI W.ns) (congrArg nI ((z_sr_n hk.wd.sr hn140).2 h2).symm) ?_
        refine pi_go 1 (pc' := 106) (l' := [some (.ref 1), some (.int (nI W.nd))]) (st' := []) (σ' := (pi_up s4 1 9 (nI W.ns))) (fun f => rfl) ?_
        generalize es11 : pi_up s4 1 9 (nI W.ns) = s11
        refine pi_go 2 (pc' := 108) (l' := [some (.ref 1), some (.int (nI 0))]) (st' := []) (σ' := s11) (fun f => rfl) ?_
        suffices hl12 : ∀ i, i ≤ W.ns → ∀ (z12 : pi_S), pi_fr [1, 6, 7, 8] z12 σ → (z12 1 8 = nI W.nd ∧ z12 1 9 = nI W.ns ∧ z12 1 10 = W.f0 ∧ z12 1 11 = W.f1 ∧ (∀ q, q < W.nd → z12 6 q = W.hh q) ∧ ∀ q, q < i → z12 7 q = nI (W.up q) ∧ z12 8 q = nI (W.lo q)) → pi_wp xs L (d + 5) 50 108 [some (.ref 1), some (.int (nI i))] [] z12 (fun v s => v = none ∧ z_CT W s ∧ pi_fr [1, 6, 7, 8, 9, 10, 11] s σ) from hl12 0 (by omega) _ (pi_fr_of es11 (by decide) (pi_fr_of es4 (by decide) (pi_fr_tr hrz3 (by decide) (pi_fr_rf)))) (⟨(congrFun (congrFun es11 1) 8).symm.trans ((pi_up_sn _ _ _ (by decide)).trans ((congrFun (congrFun es4 1) 8).symm.trans ((pi_up_sn _ _ _ (by decide)).trans (hx3.1)))), (congrFun (congrFun es11 1) 9).symm.trans (pi_up_ss _ _ _ _), (congrFun (congrFun es11 1) 10).symm.trans ((pi_up_sn _ _ _ (by decide)).trans ((congrFun (congrFun es4 1) 10).symm.trans ((pi_up_sn _ _ _ (by decide)).trans (hx3.2.1)))), (congrFun (congrFun es11 1) 11).symm.trans ((pi_up_sn _ _ _ (by decide)).trans ((congrFun (congrFun es4 1) 11).symm.trans (pi_up_ss _ _ _ _))), fun q hq => (congrFun ((congrFun es11 6).symm.trans ((pi_up_ne _ _ _ (by decide)).trans ((congrFun es4 6).symm.trans ((pi_up_ne _ _ _ (by decide)))))) q).trans (hx3.2.2 q hq), fun q hq => absurd hq (Nat.not_lt_zero q)⟩)
        refine pi_lp0 ?_ ?_
        · intro z12 hrz12 hx12
          refine pi_go 3 (pc' := 113) (l' := [some (.ref 1), some (.int (nI W.ns))]) (st' := [.int (z12 1 9), .int (nI W.ns)]) (σ' := z12) (fun f => rfl) ?_
          refine pi_tp (y := nI W.ns) (hx12.2.1) ?_
          refine pi_ct 1 (c := nI W.ns ≤ nI W.ns) (pc' := 156) (l' := [some (.ref 1), some (.int (nI W.ns))]) (st' := []) (σ' := z12) (pc2 := 116) (l2 := [some (.ref 1), some (.int (nI W.ns))]) (st2 := []) (σ2 := z12) (fun f => rfl) ((show nI W.ns ≤ nI W.ns ↔ _ from nI_leI (by omega) (by omega)).mpr (by omega)) ?_
          refine pi_ca 2 (m' := 55) (l' := [some (.ref 1), none, none, none]) (σ' := z12) (pc2 := 160) (l2 := [some (.ref 1), some (.int (nI W.ns))]) (t := []) (fun f => rfl) (pi_C_orderD hk hx12.1 hx12.2.2.2.2.1) ?_
          rintro _ t13 ⟨rfl, et13, rt13⟩
          refine pi_ca 2 (m' := 56) (l' := [some (.ref 1), none, none, none, none]) (σ' := t13) (pc2 := 164) (l2 := [some (.ref 1), some (.int (nI W.ns))]) (t := []) (fun f => rfl) (pi_C_orderS hk ((congrFun (rt13 1 (by decide)) 8).trans hx12.1) (fun k hk1 => (congrFun (rt13 6 (by decide)) k).trans (hx12.2.2.2.2.1 k hk1)) ((congrFun (rt13 1 (by decide)) 9).trans hx12.2.1) et13 (fun k hk1 => (congrFun (rt13 7 (by decide)) k).trans (hx12.2.2.2.2.2 k hk1).1)) ?_
          rintro _ t14 ⟨rfl, et14, ft14, rt14⟩
          refine pi_rt 1 (v := none) (σ' := t14) (fun f => rfl) ?_
          exact ⟨rfl, z_CT.mk ((congrFun (rt14 1 (by decide)) 8).trans ((congrFun (rt13 1 (by decide)) 8).trans hx12.1)) ((congrFun (rt14 1 (by decide)) 9).trans ((congrFun (rt13 1 (by decide)) 9).trans hx12.2.1)) ((congrFun (rt14 1 (by decide)) 10).trans ((congrFun (rt13 1 (by decide)) 10).trans hx12.2.2.1)) ((congrFun (rt14 1 (by decide)) 11).trans ((congrFun (rt13 1 (by decide)) 11).trans hx12.2.2.2.1)) (fun k hk1 => (congrFun (rt14 6 (by decide)) k).trans ((congrFun (rt13 6 (by decide)) k).trans (hx12.2.2.2.2.1 k hk1))) (fun k hk1 => ⟨(congrFun (rt14 7 (by decide)) k).trans ((congrFun (rt13 7 (by decide)) k).trans (hx12.2.2.2.2.2 k hk1).1), (congrFun (rt14 8 (by decide)) k).trans ((congrFun (rt13 8 (by decide)) k).trans (hx12.2.2.2.2.2 k hk1).2)⟩) (fun k hk1 => ⟨(congrFun (rt14 9 (by decide)) k).trans (et13 k hk1).1, (et13 k hk1).2⟩) et14 ft14, pi_fr_tr rt14 (by decide) (pi_fr_tr rt13 (by decide) (pi_fr_tr hrz12 (by decide) (pi_fr_rf)))⟩
        · intro i hi12 ih12 z12 hrz12 hx12
          refine pi_go 3 (pc' := 113) (l' := [some (.ref 1), some (.int (nI i))]) (st' := [.int (z12 1 9), .int (nI i)]) (σ' := z12) (fun f => rfl) ?_
          refine pi_tp (y := nI W.ns) (hx12.2.1) ?_
          refine pi_cf 1 (c := nI W.ns ≤ nI i) (pc' := 116) (l' := [some (.ref 1), some (.int (nI i))]) (st' := []) (σ' := z12) (pc2 := 156) (l2 := [some (.ref 1), some (.int (nI i))]) (st2 := []) (σ2 := z12) (fun f => rfl) (fun zq => absurd ((show nI W.ns ≤ nI i ↔ _ from nI_leI (by omega) (by omega)).mp zq) (by omega)) ?_
          refine pi_go 8 (pc' := 128) (l' := [some (.ref 1), some (.int (nI i))]) (st' := [.int (nI 3 * nI i), .ref 4, .int (nI i), .ref 7]) (σ' := z12) (fun f => rfl) ?_
          refine pi_tp (y := nI (3 * i)) (pk_mul _ _) ?_
          refine pi_ca 1 (m' := 51) (l' := [some (.ref 4), some (.int (nI (3 * i))), none]) (σ' := z12) (pc2 := 131) (l2 := [some (.ref 1), some (.int (nI i))]) (t := [.int (nI i), .ref 7]) (fun f => rfl) (pi_C_fig1 hk (z_TX.of hx (pi_fr_tr hrz12 (by decide) (pi_fr_rf))) (k := 3 * i) (by omega)) ?_
          rintro _ _ ⟨rfl, rfl⟩
          refine pi_au 1 (u := i) (n := 12) (a := 7) (x := z_fg W.n1 (fun k => W.tx (40 + k)) (3 * i)) (pc' := 132) (l' := [some (.ref 1), some (.int (nI i))]) (t := []) (σ' := z12) (fun f => rfl) (by omega) (by omega) ?_
          generalize es15 : pi_up z12 7 i (z_fg W.n1 (fun k => W.tx (40 + k)) (3 * i)) = s15
          refine pi_go 8 (pc' := 144) (l' := [some (.ref 1), some (.int (nI i))]) (st' := [.int (nI 3 * nI i), .ref 4, .int (nI i), .ref 8]) (σ' := s15) (fun f => rfl) ?_
          refine pi_tp (y := nI (3 * i)) (pk_mul _ _) ?_
          refine pi_go 2 (pc' := 146) (l' := [some (.ref 1), some (.int (nI i))]) (st' := [.int (nI (3 * i) + nI 1), .ref 4, .int (nI i), .ref 8]) (σ' := s15) (fun f => rfl) ?_
          refine pi_tp (y := nI (3 * i + 1)) (nI_add _ _) ?_
          refine pi_ca 1 (m' := 51) (l' := [some (.ref 4), some (.int (nI (3 * i + 1))), none]) (σ' := s15) (pc2 := 149) (l2 := [some (.ref 1), some (.int (nI i))]) (t := [.int (nI i), .ref 8]) (fun f => rfl) (pi_C_fig1 hk (z_TX.of hx (pi_fr_of es15 (by decide) (pi_fr_tr hrz12 (by decide) (pi_fr_rf)))) (k := 3 * i + 1) (by omega)) ?_
          rintro _ _ ⟨rfl, rfl⟩
          refine pi_au 1 (u := i) (n := 12) (a := 8) (x := z_fg W.n1 (fun k => W.tx (40 + k)) (3 * i + 1)) (pc' := 150) (l' := [some (.ref 1), some (.int (nI i))]) (t := []) (σ' := s15) (fun f => rfl) (by omega) (by omega) ?_
          generalize es16 : pi_up s15 8 i (z_fg W.n1 (fun k => W.tx (40 + k)) (3 * i + 1)) = s16
          refine pi_go 1 (pc' := 153) (l' := [some (.ref 1), some (.int (nI i + nI 1))]) (st' := []) (σ' := s16) (fun f => rfl) ?_
          rw [show nI i + nI 1 = nI (i + 1) from nI_add _ 1]
          refine pi_go 1 (pc' := 108) (l' := [some (.ref 1), some (.int (nI (i + 1)))]) (st' := []) (σ' := s16) (fun f => rfl) ?_
          exact ih12 _ (pi_fr_of es16 (by decide) (pi_fr_of es15 (by decide) (pi_fr_tr hrz12 (by decide) (pi_fr_rf)))) (⟨(congrFun ((congrFun es16 1).symm.trans (pi_up_ne _ _ _ (by decide))) 8).trans ((congrFun ((congrFun es15 1).symm.trans (pi_up_ne _ _ _ (by decide))) 8).trans (hx12.1)), (congrFun ((congrFun es16 1).symm.trans (pi_up_ne _ _ _ (by decide))) 9).trans ((congrFun ((congrFun es15 1).symm.trans (pi_up_ne _ _ _ (by decide))) 9).trans (hx12.2.1)), (congrFun ((congrFun es16 1).symm.trans (pi_up_ne _ _ _ (by decide))) 10).trans ((congrFun ((congrFun es15 1).symm.trans (pi_up_ne _ _ _ (by decide))) 10).trans (hx12.2.2.1)), (congrFun ((congrFun es16 1).symm.trans (pi_up_ne _ _ _ (by decide))) 11).trans ((congrFun ((congrFun es15 1).symm.trans (pi_up_ne _ _ _ (by decide))) 11).trans (hx12.2.2.2.1)), fun q hq => (congrFun ((congrFun es16 6).symm.trans ((pi_up_ne _ _ _ (by decide)).trans ((congrFun es15 6).symm.trans ((pi_up_ne _ _ _ (by decide)))))) q).trans (hx12.2.2.2.2.1 q hq), lt_s (fun q hq => ⟨(congrFun ((congrFun es16 7).symm.trans ((pi_up_ne _ _ _ (by decide)).trans ((congrFun es15 7).symm.trans ((pi_up_self _ _ _ _))))) q).trans ((if_neg (by omega)).trans (hx12.2.2.2.2.2 q hq).1), (congrFun ((congrFun es16 8).symm.trans ((pi_up_self _ _ _ _).trans (congrArg (fun z => upd z i (z_fg W.n1 (fun k => W.tx (40 + k)) (3 * i + 1))) ((congrFun es15 8).symm.trans ((pi_up_ne _ _ _ (by decide))))))) q).trans ((if_neg (by omega)).trans (hx12.2.2.2.2.2 q hq).2)⟩) ⟨(congrFun ((congrFun es16 7).symm.trans ((pi_up_ne _ _ _ (by decide)).trans ((congrFun es15 7).symm.trans ((pi_up_self _ _ _ _))))) i).trans ((if_pos rfl).trans (hk.wd.us i (by omega)).1), (congrFun ((congrFun es16 8).symm.trans ((pi_up_self _ _ _ _).trans (congrArg (fun z => upd z i (z_fg W.n1 (fun k => W.tx (40 + k)) (3 * i + 1))) ((congrFun es15 8).symm.trans ((pi_up_ne _ _ _ (by decide))))))) i).trans ((if_pos rfl).trans (hk.wd.us i (by omega)).2.1)⟩⟩)
    · intro i hi3 ih3 z3 hrz3 hx3
      refine pi_go 3 (pc' := 43) (l' := [some (.ref 1), some (.int (nI i))]) (st' := [.int (z3 1 8), .int (nI i)]) (σ' := z3) (fun f => rfl) ?_
      refine pi_tp (y := nI W.nd) (hx3.1) ?_
      refine pi_cf 1 (c := nI W.nd ≤ nI i) (pc' := 46) (l' := [some (.ref 1), some (.int (nI i))]) (st' := []) (σ' := z3) (pc2 := 66) (l2 := [some (.ref 1), some (.int (nI i))]) (st2 := []) (σ2 := z3) (fun f => rfl) (fun zq => absurd ((show nI W.nd ≤ nI i ↔ _ from nI_leI (by omega) (by omega)).mp zq) (by omega)) ?_
      refine pi_ca 7 (m' := 51) (l' := [some (.ref 2), some (.int (nI i)), none]) (σ' := z3) (pc2 := 59) (l2 := [some (.ref 1), some (.int (nI i))]) (t := [.int (nI i), .ref 6]) (fun f => rfl) (pi_C_fig0 hk (z_TX.of hx (pi_fr_tr hrz3 (by decide) (pi_fr_rf))) (k := i) (by omega)) ?_
      rintro _ _ ⟨rfl, rfl⟩
      refine pi_au 1 (u := i) (n := 8) (a := 6) (x := z_fg W.n0 (fun k => W.tx (0 + k)) i) (pc' := 60) (l' := [some (.ref 1), some (.int (nI i))]) (t := []) (σ' := z3) (fun f => rfl) (by omega) (by omega) ?_
      generalize es17 : pi_up z3 6 i (z_fg W.n0 (fun k => W.tx (0 + k)) i) = s17
      refine pi_go 1 (pc' := 63) (l' := [some (.ref 1), some (.int (nI i + nI 1))]) (st' := []) (σ' := s17) (fun f => rfl) ?_
      rw [show nI i + nI 1 = nI (i + 1) from nI_add _ 1]
      refine pi_go 1 (pc' := 38) (l' := [some (.ref 1), some (.int (nI (i + 1)))]) (st' := []) (σ' := s17) (fun f => rfl) ?_
      exact ih3 _ (pi_fr_of es17 (by decide) (pi_fr_tr hrz3 (by decide) (pi_fr_rf))) (⟨(congrFun ((congrFun es17 1).symm.trans (pi_up_ne _ _ _ (by decide))) 8).trans (hx3.1), (congrFun ((congrFun es17 1).symm.trans (pi_up_ne _ _ _ (by decide))) 10).trans (hx3.2.1), lt_s (fun q hq => (congrFun ((congrFun es17 6).symm.trans ((pi_up_self _ _ _ _))) q).trans ((if_neg (by omega)).trans (hx3.2.2 q hq))) ((congrFun ((congrFun es17 6).symm.trans ((pi_up_self _ _ _ _))) i).trans ((if_pos rfl).trans (hk.wd.hh i).symm))⟩)
  · refine pi_go 1 (pc' := 33) (l' := [some (.ref 1), none]) (st' := [.int (nI 0), .ref 1]) (σ' := s1) (fun f => rfl) ?_
    refine pi_tp (y := nI W.nd) (congrArg nI ((z_dr_c hk.wd.dr hn08).2 h1).symm) ?_
    refine pi_go 1 (pc' := 36) (l' := [some (.ref 1), none]) (st' := []) (σ' := (pi_up s1 1 8 (nI W.nd))) (fun f => rfl) ?_
    generalize es18 : pi_up s1 1 8 (nI W.nd) = s18
    refine pi_go 2 (pc' := 38) (l' := [some (.ref 1), some (.int (nI 0))]) (st' := []) (σ' := s18) (fun f => rfl) ?_
    suffices hl19 : ∀ i, i ≤ W.nd → ∀ (z19 : pi_S), pi_fr [1, 6] z19 σ → (z19 1 8 = nI W.nd ∧ z19 1 10 = W.f0 ∧ ∀ q, q < i → z19 6 q = W.hh q) → pi_wp xs L (d + 5) 50 38 [some (.ref 1), some (.int (nI i))] [] z19 (fun v s => v = none ∧ z_CT W s ∧ pi_fr [1, 6, 7, 8, 9, 10, 11] s σ) from hl19 0 (by omega) _ (pi_fr_of es18 (by decide) (pi_fr_of es1 (by decide) (pi_fr_rf))) (⟨(congrFun (congrFun es18 1) 8).symm.trans (pi_up_ss _ _ _ _), (congrFun (congrFun es18 1) 10).symm.trans ((pi_up_sn _ _ _ (by decide)).trans ((congrFun (congrFun es1 1) 10).symm.trans (pi_up_ss _ _ _ _))), fun q hq => absurd hq (Nat.not_lt_zero q)⟩)
    refine pi_lp0 ?_ ?_
    · intro z19 hrz19 hx19
      refine pi_go 3 (pc' := 43) (l' := [some (.ref 1), some (.int (nI W.nd))]) (st' := [.int (z19 1 8), .int (nI W.nd)]) (σ' := z19) (fun f => rfl) ?_
      refine pi_tp (y := nI W.nd) (hx19.1) ?_
      refine pi_ct 1 (c := nI W.nd ≤ nI W.nd) (pc' := 66) (l' := [some (.ref 1), some (.int (nI W.nd))]) (st' := []) (σ' := z19) (pc2 := 46) (l2 := [some (.ref 1), some (.int (nI W.nd))]) (st2 := []) (σ2 := z19) (fun f => rfl) ((show nI W.nd ≤ nI W.nd ↔ _ from nI_leI (by omega) (by omega)).mpr (by omega)) ?_
      refine pi_ca 3 (m' := 53) (l' := [some (.ref 1), none, none]) (σ' := z19) (pc2 := 71) (l2 := [some (.ref 1), some (.int (nI W.nd))]) (t := [.ref 1]) (fun f => rfl) (pi_C_fstreets hk (z_TX.of hx (pi_fr_tr hrz19 (by decide) (pi_fr_rf))) hx19.1 hx19.2.2) ?_
      rintro _ _ ⟨rfl, rfl⟩
      refine pi_go 1 (pc' := 74) (l' := [some (.ref 1), some (.int (nI W.nd))]) (st' := []) (σ' := (pi_up z19 1 11 W.f1)) (fun f => rfl) ?_
      generalize es20 : pi_up z19 1 11 W.f1 = s20
      refine pi_go 3 (pc' := 79) (l' := [some (.ref 1), some (.int (nI W.nd))]) (st' := [.int (s20 1 11), .ref 1]) (σ' := s20) (fun f => rfl) ?_
      refine pi_tp (y := W.f1) ((congrFun (congrFun es20 1) 11).symm.trans (pi_up_ss _ _ _ _)) ?_
      refine pi_if 2 (c := W.f1 = (-1)) (pc' := 83) (l' := [some (.ref 1), some (.int (nI W.nd))]) (st' := [.ref 1]) (σ' := s20) (pc2 := 102) (l2 := [some (.ref 1), some (.int (nI W.nd))]) (st2 := [.ref 1]) (σ2 := s20) (fun f => rfl) (fun h3 => ?_) (fun h3 => ?_)
      · refine pi_go 3 (pc' := 90) (l' := [some (.ref 1), some (.int (nI W.nd))]) (st' := [.int (s20 4 2), .ref 1]) (σ' := s20) (fun f => rfl) ?_
        refine pi_tp (y := nI W.n1) ((congrFun ((congrFun es20 4).symm.trans (pi_up_ne _ _ _ (by decide))) 2).trans ((congrFun (hrz19 4 (by decide)) 2).trans (hx.n1))) ?_
        refine pi_go 2 (pc' := 92) (l' := [some (.ref 1), some (.int (nI W.nd))]) (st' := [.int (nI W.n1 + nI 1), .ref 1]) (σ' := s20) (fun f => rfl) ?_
        refine pi_tp (y := nI (W.n1 + 1)) (nI_add _ _) ?_
        refine pi_gn 2 (c := nI 3 = 0) (pc' := 94) (l' := [some (.ref 1), some (.int (nI W.nd))]) (st' := [.int ((nI (W.n1 + 1)) / (nI 3)), .ref 1]) (σ' := s20) (fun f => rfl) (by decide) ?_
        refine pi_tp (y := nI ((W.n1 + 1) / 3)) (pk_div (by omega) (by omega) (by omega)) ?_
        refine pi_go 2 (pc' := 99) (l' := [some (.ref 1), some (.int (nI W.nd))]) (st' := [.int (if nI 12 < nI ((W.n1 + 1) / 3) then nI 12 else nI ((W.n1 + 1) / 3)), .ref 1]) (σ' := s20) (fun f => rfl) ?_
        have hq1 := (z_sr_n hk.wd.sr hn140).1 h3
        refine pi_tp (y := nI W.ns) ((if_neg (fun q => absurd ((nI_ltI (by omega) (by omega)).mp q) (by omega))).trans (congrArg nI hq1.symm)) ?_
        refine pi_go 1 (pc' := 103) (l' := [some (.ref 1), some (.int (nI W.nd))]) (st' := [.int (nI W.ns), .ref 1]) (σ' := s20) (fun f => rfl) ?_
        refine pi_go 1 (pc' := 106) (l' := [some (.ref 1), some (.int (nI W.nd))]) (st' := []) (σ' := (pi_up s20 1 9 (nI W.ns))) (fun f => rfl) ?_
        generalize es21 : pi_up s20 1 9 (nI W.ns) = s21
        refine pi_go 2 (pc' := 108) (l' := [some (.ref 1), some (.int (nI 0))]) (st' := []) (σ' := s21) (fun f => rfl) ?_
        suffices hl22 : ∀ i, i ≤ W.ns → ∀ (z22 : pi_S), pi_fr [1, 6, 7, 8] z22 σ → (z22 1 8 = nI W.nd ∧ z22 1 9 = nI W.ns ∧ z22 1 10 = W.f0 ∧ z22 1 11 = W.f1 ∧ (∀ q, q < W.nd → z22 6 q = W.hh q) ∧ ∀ q, q < i → z22 7 q = nI (W.up q) ∧ z22 8 q = nI (W.lo q)) → pi_wp xs L (d + 5) 50 108 [some (.ref 1), some (.int (nI i))] [] z22 (fun v s => v = none ∧ z_CT W s ∧ pi_fr [1, 6, 7, 8, 9, 10, 11] s σ) from hl22 0 (by omega) _ (pi_fr_of es21 (by decide) (pi_fr_of es20 (by decide) (pi_fr_tr hrz19 (by decide) (pi_fr_rf)))) (⟨(congrFun (congrFun es21 1) 8).symm.trans ((pi_up_sn _ _ _ (by decide)).trans ((congrFun (congrFun es20 1) 8).symm.trans ((pi_up_sn _ _ _ (by decide)).trans (hx19.1)))), (congrFun (congrFun es21 1) 9).symm.trans (pi_up_ss _ _ _ _), (congrFun (congrFun es21 1) 10).symm.trans ((pi_up_sn _ _ _ (by decide)).trans ((congrFun (congrFun es20 1) 10).symm.trans ((pi_up_sn _ _ _ (by decide)).trans (hx19.2.1)))), (congrFun (congrFun es21 1) 11).symm.trans ((pi_up_sn _ _ _ (by decide)).trans ((congrFun (congrFun es20 1) 11).symm.trans (pi_up_ss _ _ _ _))), fun q hq => (congrFun ((congrFun es21 6).symm.trans ((pi_up_ne _ _ _ (by decide)).trans ((congrFun es20 6).symm.trans ((pi_up_ne _ _ _ (by decide)))))) q).trans (hx19.2.2 q hq), fun q hq => absurd hq (Nat.not_lt_zero q)⟩)
        refine pi_lp0 ?_ ?_
        · intro z22 hrz22 hx22
          refine pi_go 3 (pc' := 113) (l' := [some (.ref 1), some (.int (nI W.ns))]) (st' := [.int (z22 1 9), .int (nI W.ns)]) (σ' := z22) (fun f => rfl) ?_
          refine pi_tp (y := nI W.ns) (hx22.2.1) ?_
          refine pi_ct 1 (c := nI W.ns ≤ nI W.ns) (pc' := 156) (l' := [some (.ref 1), some (.int (nI W.ns))]) (st' := []) (σ' := z22) (pc2 := 116) (l2 := [some (.ref 1), some (.int (nI W.ns))]) (st2 := []) (σ2 := z22) (fun f => rfl) ((show nI W.ns ≤ nI W.ns ↔ _ from nI_leI (by omega) (by omega)).mpr (by omega)) ?_
          refine pi_ca 2 (m' := 55) (l' := [some (.ref 1), none, none, none]) (σ' := z22) (pc2 := 160) (l2 := [some (.ref 1), some (.int (nI W.ns))]) (t := []) (fun f => rfl) (pi_C_orderD hk hx22.1 hx22.2.2.2.2.1) ?_
          rintro _ t23 ⟨rfl, et23, rt23⟩
          refine pi_ca 2 (m' := 56) (l' := [some (.ref 1), none, none, none, none]) (σ' := t23) (pc2 := 164) (l2 := [some (.ref 1), some (.int (nI W.ns))]) (t := []) (fun f => rfl) (pi_C_orderS hk ((congrFun (rt23 1 (by decide)) 8).trans hx22.1) (fun k hk1 => (congrFun (rt23 6 (by decide)) k).trans (hx22.2.2.2.2.1 k hk1)) ((congrFun (rt23 1 (by decide)) 9).trans hx22.2.1) et23 (fun k hk1 => (congrFun (rt23 7 (by decide)) k).trans (hx22.2.2.2.2.2 k hk1).1)) ?_
          rintro _ t24 ⟨rfl, et24, ft24, rt24⟩
          refine pi_rt 1 (v := none) (σ' := t24) (fun f => rfl) ?_
          exact ⟨rfl, z_CT.mk ((congrFun (rt24 1 (by decide)) 8).trans ((congrFun (rt23 1 (by decide)) 8).trans hx22.1)) ((congrFun (rt24 1 (by decide)) 9).trans ((congrFun (rt23 1 (by decide)) 9).trans hx22.2.1)) ((congrFun (rt24 1 (by decide)) 10).trans ((congrFun (rt23 1 (by decide)) 10).trans hx22.2.2.1)) ((congrFun (rt24 1 (by decide)) 11).trans ((congrFun (rt23 1 (by decide)) 11).trans hx22.2.2.2.1)) (fun k hk1 => (congrFun (rt24 6 (by decide)) k).trans ((congrFun (rt23 6 (by decide)) k).trans (hx22.2.2.2.2.1 k hk1))) (fun k hk1 => ⟨(congrFun (rt24 7 (by decide)) k).trans ((congrFun (rt23 7 (by decide)) k).trans (hx22.2.2.2.2.2 k hk1).1), (congrFun (rt24 8 (by decide)) k).trans ((congrFun (rt23 8 (by decide)) k).trans (hx22.2.2.2.2.2 k hk1).2)⟩) (fun k hk1 => ⟨(congrFun (rt24 9 (by decide)) k).trans (et23 k hk1).1, (et23 k hk1).2⟩) et24 ft24, pi_fr_tr rt24 (by decide) (pi_fr_tr rt23 (by decide) (pi_fr_tr hrz22 (by decide) (pi_fr_rf)))⟩
        · intro i hi22 ih22 z22 hrz22 hx22
          refine pi_go 3 (pc' := 113) (l' := [some (.ref 1), some (.int (nI i))]) (st' := [.int (z22 1 9), .int (nI i)]) (σ' := z22) (fun f => rfl) ?_
          refine pi_tp (y := nI W.ns) (hx22.2.1) ?_
          refine pi_cf 1 (c := nI W.ns ≤ nI i) (pc' := 116) (l' := [some (.ref 1), some (.int (nI i))]) (st' := []) (σ' := z22) (pc2 := 156) (l2 := [some (.ref 1), some (.int (nI i))]) (st2 := []) (σ2 := z22) (fun f => rfl) (fun zq => absurd ((show nI W.ns ≤ nI i ↔ _ from nI_leI (by omega) (by omega)).mp zq) (by omega)) ?_
          refine pi_go 8 (pc' := 128) (l' := [some (.ref 1), some (.int (nI i))]) (st' := [.int (nI 3 * nI i), .ref 4, .int (nI i), .ref 7]) (σ' := z22) (fun f => rfl) ?_
          refine pi_tp (y := nI (3 * i)) (pk_mul _ _) ?_
          refine pi_ca 1 (m' := 51) (l' := [some (.ref 4), some (.int (nI (3 * i))), none]) (σ' := z22) (pc2 := 131) (l2 := [some (.ref 1), some (.int (nI i))]) (t := [.int (nI i), .ref 7]) (fun f => rfl) (pi_C_fig1 hk (z_TX.of hx (pi_fr_tr hrz22 (by decide) (pi_fr_rf))) (k := 3 * i) (by omega)) ?_
          rintro _ _ ⟨rfl, rfl⟩
          refine pi_au 1 (u := i) (n := 12) (a := 7) (x := z_fg W.n1 (fun k => W.tx (40 + k)) (3 * i)) (pc' := 132) (l' := [some (.ref 1), some (.int (nI i))]) (t := []) (σ' := z22) (fun f => rfl) (by omega) (by omega) ?_
          generalize es25 : pi_up z22 7 i (z_fg W.n1 (fun k => W.tx (40 + k)) (3 * i)) = s25
          refine pi_go 8 (pc' := 144) (l' := [some (.ref 1), some (.int (nI i))]) (st' := [.int (nI 3 * nI i), .ref 4, .int (nI i), .ref 8]) (σ' := s25) (fun f => rfl) ?_
          refine pi_tp (y := nI (3 * i)) (pk_mul _ _) ?_
          refine pi_go 2 (pc' := 146) (l' := [some (.ref 1), some (.int (nI i))]) (st' := [.int (nI (3 * i) + nI 1), .ref 4, .int (nI i), .ref 8]) (σ' := s25) (fun f => rfl) ?_
          refine pi_tp (y := nI (3 * i + 1)) (nI_add _ _) ?_
          refine pi_ca 1 (m' := 51) (l' := [some (.ref 4), some (.int (nI (3 * i + 1))), none]) (σ' := s25) (pc2 := 149) (l2 := [some (.ref 1), some (.int (nI i))]) (t := [.int (nI i), .ref 8]) (fun f => rfl) (pi_C_fig1 hk (z_TX.of hx (pi_fr_of es25 (by decide) (pi_fr_tr hrz22 (by decide) (pi_fr_rf)))) (k := 3 * i + 1) (by omega)) ?_
          rintro _ _ ⟨rfl, rfl⟩
          refine pi_au 1 (u := i) (n := 12) (a := 8) (x := z_fg W.n1 (fun k => W.tx (40 + k)) (3 * i + 1)) (pc' := 150) (l' := [some (.ref 1), some (.int (nI i))]) (t := []) (σ' := s25) (fun f => rfl) (by omega) (by omega) ?_
          generalize es26 : pi_up s25 8 i (z_fg W.n1 (fun k => W.tx (40 + k)) (3 * i + 1)) = s26
          refine pi_go 1 (pc' := 153) (l' := [some (.ref 1), some (.int (nI i + nI 1))]) (st' := []) (σ' := s26) (fun f => rfl) ?_
          rw [show nI i + nI 1 = nI (i + 1) from nI_add _ 1]
          refine pi_go 1 (pc' := 108) (l' := [some (.ref 1), some (.int (nI (i + 1)))]) (st' := []) (σ' := s26) (fun f => rfl) ?_
          exact ih22 _ (pi_fr_of es26 (by decide) (pi_fr_of es25 (by decide) (pi_fr_tr hrz22 (by decide) (pi_fr_rf)))) (⟨(congrFun ((congrFun es26 1).symm.trans (pi_up_ne _ _ _ (by decide))) 8).trans ((congrFun ((congrFun es25 1).symm.trans (pi_up_ne _ _ _ (by decide))) 8).trans (hx22.1)), (congrFun ((congrFun es26 1).symm.trans (pi_up_ne _ _ _ (by decide))) 9).trans ((congrFun ((congrFun es25 1).symm.trans (pi_up_ne _ _ _ (by decide))) 9).trans (hx22.2.1)), (congrFun ((congrFun es26 1).symm.trans (pi_up_ne _ _ _ (by decide))) 10).trans ((congrFun ((congrFun es25 1).symm.trans (pi_up_ne _ _ _ (by decide))) 10).trans (hx22.2.2.1)), (congrFun ((congrFun es26 1).symm.trans (pi_up_ne _ _ _ (by decide))) 11).trans ((congrFun ((congrFun es25 1).symm.trans (pi_up_ne _ _ _ (by decide))) 11).trans (hx22.2.2.2.1)), fun q hq => (congrFun ((congrFun es26 6).symm.trans ((pi_up_ne _ _ _ (by decide)).trans ((congrFun es25 6).symm.trans ((pi_up_ne _ _ _ (by decide)))))) q).trans (hx22.2.2.2.2.1 q hq), lt_s (fun q hq => ⟨(congrFun ((congrFun es26 7).symm.trans ((pi_up_ne _ _ _ (by decide)).trans ((congrFun es25 7).symm.trans ((pi_up_self _ _ _ _))))) q).trans ((if_neg (by omega)).trans (hx22.2.2.2.2.2 q hq).1), (congrFun ((congrFun es26 8).symm.trans ((pi_up_self _ _ _ _).trans (congrArg (fun z => upd z i (z_fg W.n1 (fun k => W.tx (40 + k)) (3 * i + 1))) ((congrFun es25 8).symm.trans ((pi_up_ne _ _ _ (by decide))))))) q).trans ((if_neg (by omega)).trans (hx22.2.2.2.2.2 q hq).2)⟩) ⟨(congrFun ((congrFun es26 7).symm.trans ((pi_up_ne _ _ _ (by decide)).trans ((congrFun es25 7).symm.trans ((pi_up_self _ _ _ _))))) i).trans ((if_pos rfl).trans (hk.wd.us i (by omega)).1), (congrFun ((congrFun es26 8).symm.trans ((pi_up_self _ _ _ _).trans (congrArg (fun z => upd z i (z_fg W.n1 (fun k => W.tx (40 + k)) (3 * i + 1))) ((congrFun es25 8).symm.trans ((pi_up_ne _ _ _ (by decide))))))) i).trans ((if_pos rfl).trans (hk.wd.us i (by omega)).2.1)⟩⟩)
      · refine pi_go 1 (pc' := 103) (l' := [some (.ref 1), some (.int (nI W.nd))]) (st' := [.int (nI 0), .ref 1]) (σ' := s20) (fun f => rfl) ?_
        refine pi_tp (y := nI W.ns) (congrArg nI ((z_sr_n hk.wd.sr hn140).2 h3).symm) ?_
        refine pi_go 1 (pc' := 106) (l' := [some (.ref 1), some (.int (nI W.nd))]) (st' := []) (σ' := (pi_up s20 1 9 (nI W.ns))) (fun f => rfl) ?_
        generalize es27 : pi_up s20 1 9 (nI W.ns) = s27
        refine pi_go 2 (pc' := 108) (l' := [some (.ref 1), some (.int (nI 0))]) (st' := []) (σ' := s27) (fun f => rfl) ?_
        suffices hl28 : ∀ i, i ≤ W.ns → ∀ (z28 : pi_S), pi_fr [1, 6, 7, 8] z28 σ → (z28 1 8 = nI W.nd ∧ z28 1 9 = nI W.ns ∧ z28 1 10 = W.f0 ∧ z28 1 11 = W.f1 ∧ (∀ q, q < W.nd → z28 6 q = W.hh q) ∧ ∀ q, q < i → z28 7 q = nI (W.up q) ∧ z28 8 q = nI (W.lo q)) → pi_wp xs L (d + 5) 50 108 [some (.ref 1), some (.int (nI i))] [] z28 (fun v s => v = none ∧ z_CT W s ∧ pi_fr [1, 6, 7, 8, 9, 10, 11] s σ) from hl28 0 (by omega) _ (pi_fr_of es27 (by decide) (pi_fr_of es20 (by decide) (pi_fr_tr hrz19 (by decide) (pi_fr_rf)))) (⟨(congrFun (congrFun es27 1) 8).symm.trans ((pi_up_sn _ _ _ (by decide)).trans ((congrFun (congrFun es20 1) 8).symm.trans ((pi_up_sn _ _ _ (by decide)).trans (hx19.1)))), (congrFun (congrFun es27 1) 9).symm.trans (pi_up_ss _ _ _ _), (congrFun (congrFun es27 1) 10).symm.trans ((pi_up_sn _ _ _ (by decide)).trans ((congrFun (congrFun es20 1) 10).symm.trans ((pi_up_sn _ _ _ (by decide)).trans (hx19.2.1)))), (congrFun (congrFun es27 1) 11).symm.trans ((pi_up_sn _ _ _ (by decide)).trans ((congrFun (congrFun es20 1) 11).symm.trans (pi_up_ss _ _ _ _))), fun q hq => (congrFun ((congrFun es27 6).symm.trans ((pi_up_ne _ _ _ (by decide)).trans ((congrFun es20 6).symm.trans ((pi_up_ne _ _ _ (by decide)))))) q).trans (hx19.2.2 q hq), fun q hq => absurd hq (Nat.not_lt_zero q)⟩)
        refine pi_lp0 ?_ ?_
        · intro z28 hrz28 hx28
          refine pi_go 3 (pc' := 113) (l' := [some (.ref 1), some (.int (nI W.ns))]) (st' := [.int (z28 1 9), .int (nI W.ns)]) (σ' := z28) (fun f => rfl) ?_
          refine pi_tp (y := nI W.ns) (hx28.2.1) ?_
          refine pi_ct 1 (c := nI W.ns ≤ nI W.ns) (pc' := 156) (l' := [some (.ref 1), some (.int (nI W.ns))]) (st' := []) (σ' := z28) (pc2 := 116) (l2 := [some (.ref 1), some (.int (nI W.ns))]) (st2 := []) (σ2 := z28) (fun f => rfl) ((show nI W.ns ≤ nI W.ns ↔ _ from nI_leI (by omega) (by omega)).mpr (by omega)) ?_
          refine pi_ca 2 (m' := 55) (l' := [some (.ref 1), none, none, none]) (σ' := z28) (pc2 := 160) (l2 := [some (.ref 1), some (.int (nI W.ns))]) (t := []) (fun f => rfl) (pi_C_orderD hk hx28.1 hx28.2.2.2.2.1) ?_
          rintro _ t29 ⟨rfl, et29, rt29⟩
          refine pi_ca 2 (m' := 56) (l' := [some (.ref 1), none, none, none, none]) (σ' := t29) (pc2 := 164) (l2 := [some (.ref 1), some (.int (nI W.ns))]) (t := []) (fun f => rfl) (pi_C_orderS hk ((congrFun (rt29 1 (by decide)) 8).trans hx28.1) (fun k hk1 => (congrFun (rt29 6 (by decide)) k).trans (hx28.2.2.2.2.1 k hk1)) ((congrFun (rt29 1 (by decide)) 9).trans hx28.2.1) et29 (fun k hk1 => (congrFun (rt29 7 (by decide)) k).trans (hx28.2.2.2.2.2 k hk1).1)) ?_
          rintro _ t30 ⟨rfl, et30, ft30, rt30⟩
          refine pi_rt 1 (v := none) (σ' := t30) (fun f => rfl) ?_
          exact ⟨rfl, z_CT.mk ((congrFun (rt30 1 (by decide)) 8).trans ((congrFun (rt29 1 (by decide)) 8).trans hx28.1)) ((congrFun (rt30 1 (by decide)) 9).trans ((congrFun (rt29 1 (by decide)) 9).trans hx28.2.1)) ((congrFun (rt30 1 (by decide)) 10).trans ((congrFun (rt29 1 (by decide)) 10).trans hx28.2.2.1)) ((congrFun (rt30 1 (by decide)) 11).trans ((congrFun (rt29 1 (by decide)) 11).trans hx28.2.2.2.1)) (fun k hk1 => (congrFun (rt30 6 (by decide)) k).trans ((congrFun (rt29 6 (by decide)) k).trans (hx28.2.2.2.2.1 k hk1))) (fun k hk1 => ⟨(congrFun (rt30 7 (by decide)) k).trans ((congrFun (rt29 7 (by decide)) k).trans (hx28.2.2.2.2.2 k hk1).1), (congrFun (rt30 8 (by decide)) k).trans ((congrFun (rt29 8 (by decide)) k).trans (hx28.2.2.2.2.2 k hk1).2)⟩) (fun k hk1 => ⟨(congrFun (rt30 9 (by decide)) k).trans (et29 k hk1).1, (et29 k hk1).2⟩) et30 ft30, pi_fr_tr rt30 (by decide) (pi_fr_tr rt29 (by decide) (pi_fr_tr hrz28 (by decide) (pi_fr_rf)))⟩
        · intro i hi28 ih28 z28 hrz28 hx28
          refine pi_go 3 (pc' := 113) (l' := [some (.ref 1), some (.int (nI i))]) (st' := [.int (z28 1 9), .int (nI i)]) (σ' := z28) (fun f => rfl) ?_
          refine pi_tp (y := nI W.ns) (hx28.2.1) ?_
          refine pi_cf 1 (c := nI W.ns ≤ nI i) (pc' := 116) (l' := [some (.ref 1), some (.int (nI i))]) (st' := []) (σ' := z28) (pc2 := 156) (l2 := [some (.ref 1), some (.int (nI i))]) (st2 := []) (σ2 := z28) (fun f => rfl) (fun zq => absurd ((show nI W.ns ≤ nI i ↔ _ from nI_leI (by omega) (by omega)).mp zq) (by omega)) ?_
          refine pi_go 8 (pc' := 128) (l' := [some (.ref 1), some (.int (nI i))]) (st' := [.int (nI 3 * nI i), .ref 4, .int (nI i), .ref 7]) (σ' := z28) (fun f => rfl) ?_
          refine pi_tp (y := nI (3 * i)) (pk_mul _ _) ?_
          refine pi_ca 1 (m' := 51) (l' := [some (.ref 4), some (.int (nI (3 * i))), none]) (σ' := z28) (pc2 := 131) (l2 := [some (.ref 1), some (.int (nI i))]) (t := [.int (nI i), .ref 7]) (fun f => rfl) (pi_C_fig1 hk (z_TX.of hx (pi_fr_tr hrz28 (by decide) (pi_fr_rf))) (k := 3 * i) (by omega)) ?_
          rintro _ _ ⟨rfl, rfl⟩
          refine pi_au 1 (u := i) (n := 12) (a := 7) (x := z_fg W.n1 (fun k => W.tx (40 + k)) (3 * i)) (pc' := 132) (l' := [some (.ref 1), some (.int (nI i))]) (t := []) (σ' := z28) (fun f => rfl) (by omega) (by omega) ?_
          generalize es31 : pi_up z28 7 i (z_fg W.n1 (fun k => W.tx (40 + k)) (3 * i)) = s31
          refine pi_go 8 (pc' := 144) (l' := [some (.ref 1), some (.int (nI i))]) (st' := [.int (nI 3 * nI i), .ref 4, .int (nI i), .ref 8]) (σ' := s31) (fun f => rfl) ?_
          refine pi_tp (y := nI (3 * i)) (pk_mul _ _) ?_
          refine pi_go 2 (pc' := 146) (l' := [some (.ref 1), some (.int (nI i))]) (st' := [.int (nI (3 * i) + nI 1), .ref 4, .int (nI i), .ref 8]) (σ' := s31) (fun f => rfl) ?_
          refine pi_tp (y := nI (3 * i + 1)) (nI_add _ _) ?_
          refine pi_ca 1 (m' := 51) (l' := [some (.ref 4), some (.int (nI (3 * i + 1))), none]) (σ' := s31) (pc2 := 149) (l2 := [some (.ref 1), some (.int (nI i))]) (t := [.int (nI i), .ref 8]) (fun f => rfl) (pi_C_fig1 hk (z_TX.of hx (pi_fr_of es31 (by decide) (pi_fr_tr hrz28 (by decide) (pi_fr_rf)))) (k := 3 * i + 1) (by omega)) ?_
          rintro _ _ ⟨rfl, rfl⟩
          refine pi_au 1 (u := i) (n := 12) (a := 8) (x := z_fg W.n1 (fun k => W.tx (40 + k)) (3 * i + 1)) (pc' := 150) (l' := [some (.ref 1), some (.int (nI i))]) (t := []) (σ' := s31) (fun f => rfl) (by omega) (by omega) ?_
          generalize es32 : pi_up s31 8 i (z_fg W.n1 (fun k => W.tx (40 + k)) (3 * i + 1)) = s32
          refine pi_go 1 (pc' := 153) (l' := [some (.ref 1), some (.int (nI i + nI 1))]) (st' := []) (σ' := s32) (fun f => rfl) ?_
          rw [show nI i + nI 1 = nI (i + 1) from nI_add _ 1]
          refine pi_go 1 (pc' := 108) (l' := [some (.ref 1), some (.int (nI (i + 1)))]) (st' := []) (σ' := s32) (fun f => rfl) ?_
          exact ih28 _ (pi_fr_of es32 (by decide) (pi_fr_of es31 (by decide) (pi_fr_tr hrz28 (by decide) (pi_fr_rf)))) (⟨(congrFun ((congrFun es32 1).symm.trans (pi_up_ne _ _ _ (by decide))) 8).trans ((congrFun ((congrFun es31 1).symm.trans (pi_up_ne _ _ _ (by decide))) 8).trans (hx28.1)), (congrFun ((congrFun es32 1).symm.trans (pi_up_ne _ _ _ (by decide))) 9).trans ((congrFun ((congrFun es31 1).symm.trans (pi_up_ne _ _ _ (by decide))) 9).trans (hx28.2.1)), (congrFun ((congrFun es32 1).symm.trans (pi_up_ne _ _ _ (by decide))) 10).trans ((congrFun ((congrFun es31 1).symm.trans (pi_up_ne _ _ _ (by decide))) 10).trans (hx28.2.2.1)), (congrFun ((congrFun es32 1).symm.trans (pi_up_ne _ _ _ (by decide))) 11).trans ((congrFun ((congrFun es31 1).symm.trans (pi_up_ne _ _ _ (by decide))) 11).trans (hx28.2.2.2.1)), fun q hq => (congrFun ((congrFun es32 6).symm.trans ((pi_up_ne _ _ _ (by decide)).trans ((congrFun es31 6).symm.trans ((pi_up_ne _ _ _ (by decide)))))) q).trans (hx28.2.2.2.2.1 q hq), lt_s (fun q hq => ⟨(congrFun ((congrFun es32 7).symm.trans ((pi_up_ne _ _ _ (by decide)).trans ((congrFun es31 7).symm.trans ((pi_up_self _ _ _ _))))) q).trans ((if_neg (by omega)).trans (hx28.2.2.2.2.2 q hq).1), (congrFun ((congrFun es32 8).symm.trans ((pi_up_self _ _ _ _).trans (congrArg (fun z => upd z i (z_fg W.n1 (fun k => W.tx (40 + k)) (3 * i + 1))) ((congrFun es31 8).symm.trans ((pi_up_ne _ _ _ (by decide))))))) q).trans ((if_neg (by omega)).trans (hx28.2.2.2.2.2 q hq).2)⟩) ⟨(congrFun ((congrFun es32 7).symm.trans ((pi_up_ne _ _ _ (by decide)).trans ((congrFun es31 7).symm.trans ((pi_up_self _ _ _ _))))) i).trans ((if_pos rfl).trans (hk.wd.us i (by omega)).1), (congrFun ((congrFun es32 8).symm.trans ((pi_up_self _ _ _ _).trans (congrArg (fun z => upd z i (z_fg W.n1 (fun k => W.tx (40 + k)) (3 * i + 1))) ((congrFun es31 8).symm.trans ((pi_up_ne _ _ _ (by decide))))))) i).trans ((if_pos rfl).trans (hk.wd.us i (by omega)).2.1)⟩⟩)
    · intro i hi19 ih19 z19 hrz19 hx19
      refine pi_go 3 (pc' := 43) (l' := [some (.ref 1), some (.int (nI i))]) (st' := [.int (z19 1 8), .int (nI i)]) (σ' := z19) (fun f => rfl) ?_
      refine pi_tp (y := nI W.nd) (hx19.1) ?_
      refine pi_cf 1 (c := nI W.nd ≤ nI i) (pc' := 46) (l' := [some (.ref 1), some (.int (nI i))]) (st' := []) (σ' := z19) (pc2 := 66) (l2 := [some (.ref 1), some (.int (nI i))]) (st2 := []) (σ2 := z19) (fun f => rfl) (fun zq => absurd ((show nI W.nd ≤ nI i ↔ _ from nI_leI (by omega) (by omega)).mp zq) (by omega)) ?_
      refine pi_ca 7 (m' := 51) (l' := [some (.ref 2), some (.int (nI i)), none]) (σ' := z19) (pc2 := 59) (l2 := [some (.ref 1), some (.int (nI i))]) (t := [.int (nI i), .ref 6]) (fun f => rfl) (pi_C_fig0 hk (z_TX.of hx (pi_fr_tr hrz19 (by decide) (pi_fr_rf))) (k := i) (by omega)) ?_
      rintro _ _ ⟨rfl, rfl⟩
      refine pi_au 1 (u := i) (n := 8) (a := 6) (x := z_fg W.n0 (fun k => W.tx (0 + k)) i) (pc' := 60) (l' := [some (.ref 1), some (.int (nI i))]) (t := []) (σ' := z19) (fun f => rfl) (by omega) (by omega) ?_
      generalize es33 : pi_up z19 6 i (z_fg W.n0 (fun k => W.tx (0 + k)) i) = s33
      refine pi_go 1 (pc' := 63) (l' := [some (.ref 1), some (.int (nI i + nI 1))]) (st' := []) (σ' := s33) (fun f => rfl) ?_
      rw [show nI i + nI 1 = nI (i + 1) from nI_add _ 1]
      refine pi_go 1 (pc' := 38) (l' := [some (.ref 1), some (.int (nI (i + 1)))]) (st' := []) (σ' := s33) (fun f => rfl) ?_
      exact ih19 _ (pi_fr_of es33 (by decide) (pi_fr_tr hrz19 (by decide) (pi_fr_rf))) (⟨(congrFun ((congrFun es33 1).symm.trans (pi_up_ne _ _ _ (by decide))) 8).trans (hx19.1), (congrFun ((congrFun es33 1).symm.trans (pi_up_ne _ _ _ (by decide))) 10).trans (hx19.2.1), lt_s (fun q hq => (congrFun ((congrFun es33 6).symm.trans ((pi_up_self _ _ _ _))) q).trans ((if_neg (by omega)).trans (hx19.2.2 q hq))) ((congrFun ((congrFun es33 6).symm.trans ((pi_up_self _ _ _ _))) i).trans ((if_pos rfl).trans (hk.wd.hh i).symm))⟩)
