theorem pi_X_countN {xs : Nat → Int32} {L d : Nat} {W : zW} {σ : pi_S} (hR : z_CR W σ) {i : Nat} (hi : i < 8) : pi_wp xs L (d + 9) 92 0 [some (.ref 0), some (.int (nI i))] [] σ (fun v s => v = some (.int (z_cnt W i)) ∧ z_CR W s ∧ pi_fr z_CJ s σ) :=
  match i, hi with
  | 0, _ => pi_X_count0 hR
  | 1, _ => pi_X_count1 hR
  | 2, _ => pi_X_count2 hR
  | 3, _ => pi_X_count3 hR
  | 4, _ => pi_X_count4 hR
  | 5, _ => pi_X_count5 hR
  | 6, _ => pi_X_count6 hR
  | 7, _ => pi_X_count7 hR
  | n + 8, h => absurd h (by omega)
theorem pi_X_bribeN {xs : Nat → Int32} {L d : Nat} {W : zW} {σ : pi_S} (hR : z_CR W σ) {st w : Nat} (hs : st < W.ns) (hw : w < 3) : pi_wp xs L (d + 9) 79 0 [some (.ref 0), some (.int (nI st)), some (.int (nI w)), none, none, none, none] [] σ (fun v s => v = some (.int (z_brw W st w)) ∧ z_CR W s ∧ pi_fr z_CJ s σ) :=
  match w, hw with
  | 0, _ => pi_X_bribe0 hR hs
  | 1, _ => pi_X_bribe1 hR hs
  | 2, _ => pi_X_bribe2 hR hs
  | n + 3, h => absurd h (by omega)
theorem pi_X_lies0 {xs : Nat → Int32} {L d : Nat} {W : zW} {σ : pi_S} (hR : z_CR W σ) {dr mi : Nat} (hd : dr < W.nd) (hi : mi < W.nine + 1) : pi_wp xs L (d + 9) 73 0 [some (.ref 0), some (.int (nI dr)), some (.int (nI mi)), some (.int (-1)), none] [] σ (fun v s => v = some (.int (z_all (z_R W (-1) (-1) 0 (fun _ => 0) (mi + 1)).1.1.1 dr)) ∧ z_CR W s ∧ pi_fr z_CJ s σ) := by
  rcases Nat.lt_or_eq_of_le (Nat.lt_succ_iff.mp hi) with q | q
  · exact pi_X_lies0t hR hd q
  · rw [q]
    exact pi_X_lies0c hR hd
theorem pi_X_lies1 {xs : Nat → Int32} {L d : Nat} {W : zW} {σ : pi_S} (hR : z_CR W σ) {dr mi kd : Nat} (hd : dr < W.nd) (hi : mi < W.nine + 1) (hkd : kd < 5) : pi_wp xs L (d + 9) 73 0 [some (.ref 0), some (.int (nI dr)), some (.int (nI mi)), some (.int (nI kd)), none] [] σ (fun v s => v = some (.int ((z_R W (-1) (-1) 0 (fun _ => 0) (mi + 1)).1.1.1 (5 * dr + kd))) ∧ z_CR W s ∧ pi_fr z_CJ s σ) := by
  rcases Nat.lt_or_eq_of_le (Nat.lt_succ_iff.mp hi) with q | q
  · exact pi_X_lies1t hR hd q hkd
  · rw [q]
    exact pi_X_lies1c hR hd hkd
theorem pi_X_dcut0 {xs : Nat → Int32} {L d : Nat} {W : zW} {σ : pi_S} (hR : z_CR W σ) : pi_wp xs L (d + 9) 78 0 [some (.ref 0), some (.int (nI 0)), some (.int (nI 1)), some (.int (nI 0)), none] [] σ (fun v s => v = some (.int (z_dcut W 0)) ∧ z_CR W s ∧ pi_fr z_CJ s σ) := by
  have h8 := hR.k.p.wk.wd.nd8
  unfold z_dcut
  by_cases h : 1 < W.nd
  · rw [if_pos h, if_pos rfl]
    exact pi_X_cut0 hR (by omega) h (by omega)
  · rw [if_neg h]
    exact pi_X_cut_bad hR (fun q => h (z_nB q.2.1 (by omega) (by omega)))
theorem pi_X_dcut1 {xs : Nat → Int32} {L d : Nat} {W : zW} {σ : pi_S} (hR : z_CR W σ) : pi_wp xs L (d + 9) 78 0 [some (.ref 0), some (.int (nI 0)), some (.int (nI 1)), some (.int (nI 1)), none] [] σ (fun v s => v = some (.int (z_dcut W 1)) ∧ z_CR W s ∧ pi_fr z_CJ s σ) := by
  have h8 := hR.k.p.wk.wd.nd8
  unfold z_dcut
  by_cases h : 1 < W.nd
  · rw [if_pos h, if_neg (by omega)]
    exact pi_X_cut1 hR (by omega) h (by omega)
  · rw [if_neg h]
    exact pi_X_cut_bad hR (fun q => h (z_nB q.2.1 (by omega) (by omega)))
theorem pi_X_dwho {xs : Nat → Int32} {L d : Nat} {W : zW} {σ : pi_S} (hR : z_CR W σ) : pi_wp xs L (d + 9) 83 0 [some (.ref 0), some (.int (nI 0)), some (.int (nI 0)), some (.int (nI 0)), none, none, none] [] σ (fun v s => v = some (.int (z_dwho W)) ∧ z_CR W s ∧ pi_fr z_CJ s σ) := by
  have h8 := hR.k.p.wk.wd.nd8
  unfold z_dwho
  by_cases h : 0 < W.nd
  · rw [if_pos h]
    exact pi_X_who hR (by omega) (by omega) h
  · rw [if_neg h]
    exact pi_X_who_bad hR (fun q => h (z_nB q.2.2 (by omega) (by omega)))
set_option maxRecDepth 20000 in
theorem pi_X_digest {xs : Nat → Int32} {L d : Nat} {W : zW} {σ : pi_S} (hR : z_CR W σ) {t : Nat} (hmean : z_mean W (nI 4) (-1) = nI t) (ht30 : t < 2 ^ 30)  : pi_wp xs L (d + 11) 93 0 [some (.ref 0), none, none, none, none] [] σ (fun v s => v = some (.long (z_dig W t)) ∧ z_CR W s ∧ pi_fr z_CJ s σ) := by
  have hk := hR.k.p.wk
  have hnd8 := hk.wd.nd8
  have hns12 := hk.wd.ns12
  have hn60 := hk.nine
  have hnf := hk.nf
  have hnw := hk.nw
  have hnc := hk.nc
  have hn08 := hk.wd.n0
  have hn140 := hk.wd.n1
  refine pi_go 4 (pc' := 6) (l' := [some (.ref 0), some (.long (Int64.ofNat 17)), none, some (.int (nI 0)), none]) (st' := []) (σ' := σ) (fun f => rfl) ?_
  rw [show some (Value.long (Int64.ofNat 17)) = some (Value.long (z_h1 W 0)) from congrArg (fun z => some (Value.long z)) (z_h1_0 W)]
  suffices hl1 : ∀ i, i ≤ 8 → ∀ (j4 : Option Value), ∀ (z1 : pi_S), pi_fr z_CJ z1 σ → z_CR W z1 → pi_wp xs L (d + 11) 93 6 [some (.ref 0), some (.long (z_h1 W i)), none, some (.int (nI i)), j4] [] z1 (fun v s => v = some (.long (z_dig W t)) ∧ z_CR W s ∧ pi_fr z_CJ s σ) from hl1 0 (by omega) _ _ (pi_fr_rf) (hR)
  refine pi_lp0 ?_ ?_
  · intro j4 z1 hrz1 hx1
    refine pi_ct 3 (c := nI 7 < nI 8) (pc' := 31) (l' := [some (.ref 0), some (.long (z_h1 W 8)), none, some (.int (nI 8)), j4]) (st' := []) (σ' := z1) (pc2 := 12) (l2 := [some (.ref 0), some (.long (z_h1 W 8)), none, some (.int (nI 8)), j4]) (st2 := []) (σ2 := z1) (fun f => rfl) (by decide) ?_
    refine pi_ca 6 (m' := 63) (l' := [some (.ref 0), some (.int (nI 0))]) (σ' := z1) (pc2 := 41) (l2 := [some (.ref 0), some (.long (z_h1 W 8)), none, some (.int (nI 8)), j4]) (t := [.long ((Int64.ofNat 31) * (z_h1 W 8))]) (fun f => rfl) (pi_X_fault0 hx1 ) ?_
    rintro _ t2 ⟨rfl, gt2, rt2⟩
    refine pi_ca 9 (m' := 63) (l' := [some (.ref 0), some (.int (nI 1))]) (σ' := t2) (pc2 := 54) (l2 := [some (.ref 0), some (.long (z_h (z_h1 W 8) (Int32.toInt64 W.f0))), none, some (.int (nI 8)), j4]) (t := [.long ((Int64.ofNat 31) * (z_h (z_h1 W 8) (Int32.toInt64 W.f0)))]) (fun f => rfl) (pi_X_fault1 gt2 ) ?_
    rintro _ t3 ⟨rfl, gt3, rt3⟩
    refine pi_go 5 (pc' := 59) (l' := [some (.ref 0), some (.long (z_h (z_h (z_h1 W 8) (Int32.toInt64 W.f0)) (Int32.toInt64 W.f1))), none, some (.int (nI 0)), j4]) (st' := []) (σ' := t3) (fun f => rfl) ?_
    rw [show some (Value.long (z_h (z_h (z_h1 W 8) (Int32.toInt64 W.f0)) (Int32.toInt64 W.f1))) = some (Value.long (z_h3 W 0)) from congrArg (fun z => some (Value.long z)) (z_h3_0 W)]
    suffices hl4 : ∀ dd, dd ≤ W.nd → ∀ (j4 : Option Value), ∀ (z4 : pi_S), pi_fr z_CJ z4 σ → z_CR W z4 → pi_wp xs L (d + 11) 93 59 [some (.ref 0), some (.long (z_h3 W dd)), none, some (.int (nI dd)), j4] [] z4 (fun v s => v = some (.long (z_dig W t)) ∧ z_CR W s ∧ pi_fr z_CJ s σ) from hl4 0 (by omega) _ _ (pi_fr_tr rt3 (by decide) (pi_fr_tr rt2 (by decide) (pi_fr_tr hrz1 (by decide) (pi_fr_rf)))) (gt3)
    refine pi_lp0 ?_ ?_
    · intro j4 z4 hrz4 hx4
      refine pi_go 4 (pc' := 67) (l' := [some (.ref 0), some (.long (z_h3 W W.nd)), none, some (.int (nI W.nd)), j4]) (st' := [.int (z4 1 8), .int (nI W.nd)]) (σ' := z4) (fun f => rfl) ?_
      refine pi_tp (y := nI W.nd) ((congrFun (hrz4 1 (by decide)) 8).trans (hR.k.t.d)) ?_
      refine pi_ct 1 (c := nI W.nd ≤ nI W.nd) (pc' := 175) (l' := [some (.ref 0), some (.long (z_h3 W W.nd)), none, some (.int (nI W.nd)), j4]) (st' := []) (σ' := z4) (pc2 := 70) (l2 := [some (.ref 0), some (.long (z_h3 W W.nd)), none, some (.int (nI W.nd)), j4]) (st2 := []) (σ2 := z4) (fun f => rfl) ((show nI W.nd ≤ nI W.nd ↔ _ from nI_leI (by omega) (by omega)).mpr (by omega)) ?_
      refine pi_go 2 (pc' := 177) (l' := [some (.ref 0), some (.long (z_h3 W W.nd)), none, some (.int (nI 0)), j4]) (st' := []) (σ' := z4) (fun f => rfl) ?_
      rw [show some (Value.long (z_h3 W W.nd)) = some (Value.long (z_h4 W 0)) from congrArg (fun z => some (Value.long z)) (z_h4_0 W)]
      suffices hl5 : ∀ k, k ≤ W.ns → ∀ (j4 : Option Value), ∀ (z5 : pi_S), pi_fr z_CJ z5 σ → z_CR W z5 → pi_wp xs L (d + 11) 93 177 [some (.ref 0), some (.long (z_h4 W k)), none, some (.int (nI k)), j4] [] z5 (fun v s => v = some (.long (z_dig W t)) ∧ z_CR W s ∧ pi_fr z_CJ s σ) from hl5 0 (by omega) _ _ (pi_fr_tr hrz4 (by decide) (pi_fr_rf)) (hx4)
      refine pi_lp0 ?_ ?_
      · intro j4 z5 hrz5 hx5
        refine pi_go 4 (pc' := 185) (l' := [some (.ref 0), some (.long (z_h4 W W.ns)), none, some (.int (nI W.ns)), j4]) (st' := [.int (z5 1 9), .int (nI W.ns)]) (σ' := z5) (fun f => rfl) ?_
        refine pi_tp (y := nI W.ns) ((congrFun (hrz5 1 (by decide)) 9).trans (hR.k.t.st)) ?_
        refine pi_ct 1 (c := nI W.ns ≤ nI W.ns) (pc' := 252) (l' := [some (.ref 0), some (.long (z_h4 W W.ns)), none, some (.int (nI W.ns)), j4]) (st' := []) (σ' := z5) (pc2 := 188) (l2 := [some (.ref 0), some (.long (z_h4 W W.ns)), none, some (.int (nI W.ns)), j4]) (st2 := []) (σ2 := z5) (fun f => rfl) ((show nI W.ns ≤ nI W.ns ↔ _ from nI_leI (by omega) (by omega)).mpr (by omega)) ?_
        refine pi_ca 6 (m' := 74) (l' := [some (.ref 0), some (.int (-1))]) (σ' := z5) (pc2 := 262) (l2 := [some (.ref 0), some (.long (z_h4 W W.ns)), none, some (.int (nI W.ns)), j4]) (t := [.long ((Int64.ofNat 31) * (z_h4 W W.ns))]) (fun f => rfl) (pi_X_fine0 hx5 ) ?_
        rintro _ t6 ⟨rfl, gt6, rt6⟩
        refine pi_ca 8 (m' := 75) (l' := [some (.ref 0)]) (σ' := t6) (pc2 := 274) (l2 := [some (.ref 0), some (.long (z_h (z_h4 W W.ns) (Int32.toInt64 (z_fines W.rt (z_A W).1.1.1 W.nd)))), none, some (.int (nI W.ns)), j4]) (t := [.long ((Int64.ofNat 31) * (z_h (z_h4 W W.ns) (Int32.toInt64 (z_fines W.rt (z_A W).1.1.1 W.nd))))]) (fun f => rfl) (pi_X_judged gt6 ) ?_
        rintro _ t7 ⟨rfl, gt7, rt7⟩
        refine pi_ca 10 (m' := 76) (l' := [some (.ref 0), some (.int (nI 1)), some (.int (-1))]) (σ' := t7) (pc2 := 288) (l2 := [some (.ref 0), some (.long (z_h (z_h (z_h4 W W.ns) (Int32.toInt64 (z_fines W.rt (z_A W).1.1.1 W.nd))) (Int32.toInt64 ((z_A W).1.2)))), none, some (.int (nI W.ns)), j4]) (t := [.long ((Int64.ofNat 31) * (z_h (z_h (z_h4 W W.ns) (Int32.toInt64 (z_fines W.rt (z_A W).1.1.1 W.nd))) (Int32.toInt64 ((z_A W).1.2))))]) (fun f => rfl) (pi_X_least0 gt7 (by omega)) ?_
        rintro _ t8 ⟨rfl, gt8, rt8⟩
        refine pi_ca 10 (m' := 76) (l' := [some (.ref 0), some (.int (nI 1)), some (.int (nI 0))]) (σ' := t8) (pc2 := 302) (l2 := [some (.ref 0), some (.long (z_h (z_h (z_h (z_h4 W W.ns) (Int32.toInt64 (z_fines W.rt (z_A W).1.1.1 W.nd))) (Int32.toInt64 ((z_A W).1.2))) (Int32.toInt64 (z_lB W 1)))), none, some (.int (nI W.ns)), j4]) (t := [.long ((Int64.ofNat 31) * (z_h (z_h (z_h (z_h4 W W.ns) (Int32.toInt64 (z_fines W.rt (z_A W).1.1.1 W.nd))) (Int32.toInt64 ((z_A W).1.2))) (Int32.toInt64 (z_lB W 1))))]) (fun f => rfl) (pi_X_least1 gt8 (by omega) (by omega)) ?_
        rintro _ t9 ⟨rfl, gt9, rt9⟩
        refine pi_ca 10 (m' := 76) (l' := [some (.ref 0), some (.int (nI 2)), some (.int (-1))]) (σ' := t9) (pc2 := 316) (l2 := [some (.ref 0), some (.long (z_h (z_h (z_h (z_h (z_h4 W W.ns) (Int32.toInt64 (z_fines W.rt (z_A W).1.1.1 W.nd))) (Int32.toInt64 ((z_A W).1.2))) (Int32.toInt64 (z_lB W 1))) (Int32.toInt64 (z_lS W 1 0)))), none, some (.int (nI W.ns)), j4]) (t := [.long ((Int64.ofNat 31) * (z_h (z_h (z_h (z_h (z_h4 W W.ns) (Int32.toInt64 (z_fines W.rt (z_A W).1.1.1 W.nd))) (Int32.toInt64 ((z_A W).1.2))) (Int32.toInt64 (z_lB W 1))) (Int32.toInt64 (z_lS W 1 0))))]) (fun f => rfl) (pi_X_least0 gt9 (by omega)) ?_
        rintro _ t10 ⟨rfl, gt10, rt10⟩
        refine pi_ca 11 (m' := 78) (l' := [some (.ref 0), some (.int (nI 0)), some (.int (nI 1)), some (.int (nI 0)), none]) (σ' := t10) (pc2 := 331) (l2 := [some (.ref 0), some (.long (z_h (z_h (z_h (z_h (z_h (z_h4 W W.ns) (Int32.toInt64 (z_fines W.rt (z_A W).1.1.1 W.nd))) (Int32.toInt64 ((z_A W).1.2))) (Int32.toInt64 (z_lB W 1))) (Int32.toInt64 (z_lS W 1 0))) (Int32.toInt64 (z_lB W 2)))), none, some (.int (nI W.ns)), j4]) (t := [.long ((Int64.ofNat 31) * (z_h (z_h (z_h (z_h (z_h (z_h4 W W.ns) (Int32.toInt64 (z_fines W.rt (z_A W).1.1.1 W.nd))) (Int32.toInt64 ((z_A W).1.2))) (Int32.toInt64 (z_lB W 1))) (Int32.toInt64 (z_lS W 1 0))) (Int32.toInt64 (z_lB W 2))))]) (fun f => rfl) (pi_X_dcut0 gt10 ) ?_
        rintro _ t11 ⟨rfl, gt11, rt11⟩
        refine pi_ca 11 (m' := 78) (l' := [some (.ref 0), some (.int (nI 0)), some (.int (nI 1)), some (.int (nI 1)), none]) (σ' := t11) (pc2 := 346) (l2 := [some (.ref 0), some (.long (z_h (z_h (z_h (z_h (z_h (z_h (z_h4 W W.ns) (Int32.toInt64 (z_fines W.rt (z_A W).1.1.1 W.nd))) (Int32.toInt64 ((z_A W).1.2))) (Int32.toInt64 (z_lB W 1))) (Int32.toInt64 (z_lS W 1 0))) (Int32.toInt64 (z_lB W 2))) (Int32.toInt64 (z_dcut W 0)))), none, some (.int (nI W.ns)), j4]) (t := [.long ((Int64.ofNat 31) * (z_h (z_h (z_h (z_h (z_h (z_h (z_h4 W W.ns) (Int32.toInt64 (z_fines W.rt (z_A W).1.1.1 W.nd))) (Int32.toInt64 ((z_A W).1.2))) (Int32.toInt64 (z_lB W 1))) (Int32.toInt64 (z_lS W 1 0))) (Int32.toInt64 (z_lB W 2))) (Int32.toInt64 (z_dcut W 0))))]) (fun f => rfl) (pi_X_dcut1 gt11 ) ?_
        rintro _ t12 ⟨rfl, gt12, rt12⟩
        refine pi_ca 8 (m' := 80) (l' := [some (.ref 0), none, none]) (σ' := t12) (pc2 := 358) (l2 := [some (.ref 0), some (.long (z_h (z_h (z_h (z_h (z_h (z_h (z_h (z_h4 W W.ns) (Int32.toInt64 (z_fines W.rt (z_A W).1.1.1 W.nd))) (Int32.toInt64 ((z_A W).1.2))) (Int32.toInt64 (z_lB W 1))) (Int32.toInt64 (z_lS W 1 0))) (Int32.toInt64 (z_lB W 2))) (Int32.toInt64 (z_dcut W 0))) (Int32.toInt64 (z_dcut W 1)))), none, some (.int (nI W.ns)), j4]) (t := [.long ((Int64.ofNat 31) * (z_h (z_h (z_h (z_h (z_h (z_h (z_h (z_h4 W W.ns) (Int32.toInt64 (z_fines W.rt (z_A W).1.1.1 W.nd))) (Int32.toInt64 ((z_A W).1.2))) (Int32.toInt64 (z_lB W 1))) (Int32.toInt64 (z_lS W 1 0))) (Int32.toInt64 (z_lB W 2))) (Int32.toInt64 (z_dcut W 0))) (Int32.toInt64 (z_dcut W 1))))]) (fun f => rfl) (pi_X_rests gt12 ) ?_
        rintro _ t13 ⟨rfl, gt13, rt13⟩
        refine pi_ca 10 (m' := 81) (l' := [some (.ref 0), some (.int (nI 4)), some (.int (nI 0)), none, none]) (σ' := t13) (pc2 := 372) (l2 := [some (.ref 0), some (.long (z_h (z_h (z_h (z_h (z_h (z_h (z_h (z_h (z_h4 W W.ns) (Int32.toInt64 (z_fines W.rt (z_A W).1.1.1 W.nd))) (Int32.toInt64 ((z_A W).1.2))) (Int32.toInt64 (z_lB W 1))) (Int32.toInt64 (z_lS W 1 0))) (Int32.toInt64 (z_lB W 2))) (Int32.toInt64 (z_dcut W 0))) (Int32.toInt64 (z_dcut W 1))) (Int32.toInt64 (z_rests W W.ns)))), none, some (.int (nI W.ns)), j4]) (t := [.long ((Int64.ofNat 31) * (z_h (z_h (z_h (z_h (z_h (z_h (z_h (z_h (z_h4 W W.ns) (Int32.toInt64 (z_fines W.rt (z_A W).1.1.1 W.nd))) (Int32.toInt64 ((z_A W).1.2))) (Int32.toInt64 (z_lB W 1))) (Int32.toInt64 (z_lS W 1 0))) (Int32.toInt64 (z_lB W 2))) (Int32.toInt64 (z_dcut W 0))) (Int32.toInt64 (z_dcut W 1))) (Int32.toInt64 (z_rests W W.ns))))]) (fun f => rfl) (pi_X_odds0 gt13 (by omega) hmean ht30) ?_
        rintro _ t14 ⟨rfl, gt14, rt14⟩
        refine pi_ca 9 (m' := 81) (l' := [some (.ref 0), some (.int (nI 4)), some (.int (nI 1)), none, none]) (σ' := t14) (pc2 := 385) (l2 := [some (.ref 0), some (.long (z_h (z_h (z_h (z_h (z_h (z_h (z_h (z_h (z_h (z_h4 W W.ns) (Int32.toInt64 (z_fines W.rt (z_A W).1.1.1 W.nd))) (Int32.toInt64 ((z_A W).1.2))) (Int32.toInt64 (z_lB W 1))) (Int32.toInt64 (z_lS W 1 0))) (Int32.toInt64 (z_lB W 2))) (Int32.toInt64 (z_dcut W 0))) (Int32.toInt64 (z_dcut W 1))) (Int32.toInt64 (z_rests W W.ns))) (nL (t / Nat.gcd t 16)))), none, some (.int (nI W.ns)), j4]) (t := [.long ((Int64.ofNat 31) * (z_h (z_h (z_h (z_h (z_h (z_h (z_h (z_h (z_h (z_h4 W W.ns) (Int32.toInt64 (z_fines W.rt (z_A W).1.1.1 W.nd))) (Int32.toInt64 ((z_A W).1.2))) (Int32.toInt64 (z_lB W 1))) (Int32.toInt64 (z_lS W 1 0))) (Int32.toInt64 (z_lB W 2))) (Int32.toInt64 (z_dcut W 0))) (Int32.toInt64 (z_dcut W 1))) (Int32.toInt64 (z_rests W W.ns))) (nL (t / Nat.gcd t 16))))]) (fun f => rfl) (pi_X_odds1 gt14 (by omega) hmean ht30) ?_
        rintro _ t15 ⟨rfl, gt15, rt15⟩
        refine pi_ca 10 (m' := 83) (l' := [some (.ref 0), some (.int (nI 0)), some (.int (nI 0)), some (.int (nI 0)), none, none, none]) (σ' := t15) (pc2 := 399) (l2 := [some (.ref 0), some (.long (z_h (z_h (z_h (z_h (z_h (z_h (z_h (z_h (z_h (z_h (z_h4 W W.ns) (Int32.toInt64 (z_fines W.rt (z_A W).1.1.1 W.nd))) (Int32.toInt64 ((z_A W).1.2))) (Int32.toInt64 (z_lB W 1))) (Int32.toInt64 (z_lS W 1 0))) (Int32.toInt64 (z_lB W 2))) (Int32.toInt64 (z_dcut W 0))) (Int32.toInt64 (z_dcut W 1))) (Int32.toInt64 (z_rests W W.ns))) (nL (t / Nat.gcd t 16))) (nL (16 / Nat.gcd t 16)))), none, some (.int (nI W.ns)), j4]) (t := [.long ((Int64.ofNat 31) * (z_h (z_h (z_h (z_h (z_h (z_h (z_h (z_h (z_h (z_h (z_h4 W W.ns) (Int32.toInt64 (z_fines W.rt (z_A W).1.1.1 W.nd))) (Int32.toInt64 ((z_A W).1.2))) (Int32.toInt64 (z_lB W 1))) (Int32.toInt64 (z_lS W 1 0))) (Int32.toInt64 (z_lB W 2))) (Int32.toInt64 (z_dcut W 0))) (Int32.toInt64 (z_dcut W 1))) (Int32.toInt64 (z_rests W W.ns))) (nL (t / Nat.gcd t 16))) (nL (16 / Nat.gcd t 16))))]) (fun f => rfl) (pi_X_dwho gt15 ) ?_
        rintro _ t16 ⟨rfl, gt16, rt16⟩
        refine pi_ca 8 (m' := 85) (l' := [some (.ref 0), none, none, none, none]) (σ' := t16) (pc2 := 411) (l2 := [some (.ref 0), some (.long (z_h (z_h (z_h (z_h (z_h (z_h (z_h (z_h (z_h (z_h (z_h (z_h4 W W.ns) (Int32.toInt64 (z_fines W.rt (z_A W).1.1.1 W.nd))) (Int32.toInt64 ((z_A W).1.2))) (Int32.toInt64 (z_lB W 1))) (Int32.toInt64 (z_lS W 1 0))) (Int32.toInt64 (z_lB W 2))) (Int32.toInt64 (z_dcut W 0))) (Int32.toInt64 (z_dcut W 1))) (Int32.toInt64 (z_rests W W.ns))) (nL (t / Nat.gcd t 16))) (nL (16 / Nat.gcd t 16))) (Int32.toInt64 (z_dwho W)))), none, some (.int (nI W.ns)), j4]) (t := [.long ((Int64.ofNat 31) * (z_h (z_h (z_h (z_h (z_h (z_h (z_h (z_h (z_h (z_h (z_h (z_h4 W W.ns) (Int32.toInt64 (z_fines W.rt (z_A W).1.1.1 W.nd))) (Int32.toInt64 ((z_A W).1.2))) (Int32.toInt64 (z_lB W 1))) (Int32.toInt64 (z_lS W 1 0))) (Int32.toInt64 (z_lB W 2))) (Int32.toInt64 (z_dcut W 0))) (Int32.toInt64 (z_dcut W 1))) (Int32.toInt64 (z_rests W W.ns))) (nL (t / Nat.gcd t 16))) (nL (16 / Nat.gcd t 16))) (Int32.toInt64 (z_dwho W))))]) (fun f => rfl) (pi_X_best gt16 ) ?_
        rintro _ t17 ⟨rfl, gt17, rt17⟩
        refine pi_rt 3 (v := some (.long (z_h (z_h (z_h (z_h (z_h (z_h (z_h (z_h (z_h (z_h (z_h (z_h (z_h4 W W.ns) (Int32.toInt64 (z_fines W.rt (z_A W).1.1.1 W.nd))) (Int32.toInt64 ((z_A W).1.2))) (Int32.toInt64 (z_lB W 1))) (Int32.toInt64 (z_lS W 1 0))) (Int32.toInt64 (z_lB W 2))) (Int32.toInt64 (z_dcut W 0))) (Int32.toInt64 (z_dcut W 1))) (Int32.toInt64 (z_rests W W.ns))) (nL (t / Nat.gcd t 16))) (nL (16 / Nat.gcd t 16))) (Int32.toInt64 (z_dwho W))) (Int32.toInt64 (z_bv (z_fine W.rt (z_A W).1.1.1) W.nd))))) (σ' := t17) (fun f => rfl) ?_
        exact ⟨rfl, gt17, pi_fr_tr rt17 (by decide) (pi_fr_tr rt16 (by decide) (pi_fr_tr rt15 (by decide) (pi_fr_tr rt14 (by decide) (pi_fr_tr rt13 (by decide) (pi_fr_tr rt12 (by decide) (pi_fr_tr rt11 (by decide) (pi_fr_tr rt10 (by decide) (pi_fr_tr rt9 (by decide) (pi_fr_tr rt8 (by decide) (pi_fr_tr rt7 (by decide) (pi_fr_tr rt6 (by decide) (pi_fr_tr hrz5 (by decide) (pi_fr_rf)))))))))))))⟩
      · intro k hi5 ih5 j4 z5 hrz5 hx5
        refine pi_go 4 (pc' := 185) (l' := [some (.ref 0), some (.long (z_h4 W k)), none, some (.int (nI k)), j4]) (st' := [.int (z5 1 9), .int (nI k)]) (σ' := z5) (fun f => rfl) ?_
        refine pi_tp (y := nI W.ns) ((congrFun (hrz5 1 (by decide)) 9).trans (hR.k.t.st)) ?_
        refine pi_cf 1 (c := nI W.ns ≤ nI k) (pc' := 188) (l' := [some (.ref 0), some (.long (z_h4 W k)), none, some (.int (nI k)), j4]) (st' := []) (σ' := z5) (pc2 := 252) (l2 := [some (.ref 0), some (.long (z_h4 W k)), none, some (.int (nI k)), j4]) (st2 := []) (σ2 := z5) (fun f => rfl) (fun zq => absurd ((show nI W.ns ≤ nI k ↔ _ from nI_leI (by omega) (by omega)).mp zq) (by omega)) ?_
        refine pi_ca 7 (m' := 65) (l' := [some (.ref 0), some (.int (nI k)), some (.int (nI 0))]) (σ' := z5) (pc2 := 199) (l2 := [some (.ref 0), some (.long (z_h4 W k)), none, some (.int (nI k)), j4]) (t := [.long ((Int64.ofNat 31) * (z_h4 W k))]) (fun f => rfl) (pi_X_street0 hx5 (by omega)) ?_
        rintro _ t18 ⟨rfl, gt18, rt18⟩
        refine pi_ca 10 (m' := 65) (l' := [some (.ref 0), some (.int (nI k)), some (.int (nI 1))]) (σ' := t18) (pc2 := 213) (l2 := [some (.ref 0), some (.long (z_h (z_h4 W k) (Int32.toInt64 (nI (W.up k))))), none, some (.int (nI k)), j4]) (t := [.long ((Int64.ofNat 31) * (z_h (z_h4 W k) (Int32.toInt64 (nI (W.up k)))))]) (fun f => rfl) (pi_X_street1 gt18 (by omega)) ?_
        rintro _ t19 ⟨rfl, gt19, rt19⟩
        refine pi_go 5 (pc' := 219) (l' := [some (.ref 0), some (.long (z_h (z_h (z_h4 W k) (Int32.toInt64 (nI (W.up k)))) (Int32.toInt64 (nI (W.lo k))))), none, some (.int (nI k)), some (.int (nI 0))]) (st' := []) (σ' := t19) (fun f => rfl) ?_
        rw [show some (Value.long (z_h (z_h (z_h4 W k) (Int32.toInt64 (nI (W.up k)))) (Int32.toInt64 (nI (W.lo k))))) = some (Value.long (z_hs1 W k 0 (z_h4 W k))) from congrArg (fun z => some (Value.long z)) (z_hs1_0 W k _)]
        suffices hl20 : ∀ ww, ww ≤ 3 → ∀ (z20 : pi_S), pi_fr z_CJ z20 σ → z_CR W z20 → pi_wp xs L (d + 11) 93 219 [some (.ref 0), some (.long (z_hs1 W k ww (z_h4 W k))), none, some (.int (nI k)), some (.int (nI ww))] [] z20 (fun v s => v = some (.long (z_dig W t)) ∧ z_CR W s ∧ pi_fr z_CJ s σ) from hl20 0 (by omega) _ (pi_fr_tr rt19 (by decide) (pi_fr_tr rt18 (by decide) (pi_fr_tr hrz5 (by decide) (pi_fr_rf)))) (gt19)
        refine pi_lp0 ?_ ?_
        · intro z20 hrz20 hx20
          refine pi_ct 3 (c := nI 2 < nI 3) (pc' := 246) (l' := [some (.ref 0), some (.long (z_hs1 W k 3 (z_h4 W k))), none, some (.int (nI k)), some (.int (nI 3))]) (st' := []) (σ' := z20) (pc2 := 225) (l2 := [some (.ref 0), some (.long (z_hs1 W k 3 (z_h4 W k))), none, some (.int (nI k)), some (.int (nI 3))]) (st2 := []) (σ2 := z20) (fun f => rfl) (by decide) ?_
          refine pi_go 1 (pc' := 249) (l' := [some (.ref 0), some (.long (z_hs1 W k 3 (z_h4 W k))), none, some (.int (nI k + nI 1)), some (.int (nI 3))]) (st' := []) (σ' := z20) (fun f => rfl) ?_
          rw [show nI k + nI 1 = nI (k + 1) from nI_add _ 1]
          refine pi_go 1 (pc' := 177) (l' := [some (.ref 0), some (.long (z_hs1 W k 3 (z_h4 W k))), none, some (.int (nI (k + 1))), some (.int (nI 3))]) (st' := []) (σ' := z20) (fun f => rfl) ?_
          rw [show some (Value.long (z_hs1 W k 3 (z_h4 W k))) = some (Value.long (z_h4 W (k + 1))) from congrArg (fun z => some (Value.long z)) (z_h4_s W k)]
          exact ih5 _ _ (pi_fr_tr hrz20 (by decide) (pi_fr_rf)) (hx20)
        · intro ww hi20 ih20 z20 hrz20 hx20
          refine pi_cf 3 (c := nI 2 < nI ww) (pc' := 225) (l' := [some (.ref 0), some (.long (z_hs1 W k ww (z_h4 W k))), none, some (.int (nI k)), some (.int (nI ww))]) (st' := []) (σ' := z20) (pc2 := 246) (l2 := [some (.ref 0), some (.long (z_hs1 W k ww (z_h4 W k))), none, some (.int (nI k)), some (.int (nI ww))]) (st2 := []) (σ2 := z20) (fun f => rfl) (fun q => absurd ((nI_ltI (by omega) (by omega)).mp q) (by omega)) ?_
          refine pi_ca 7 (m' := 79) (l' := [some (.ref 0), some (.int (nI k)), some (.int (nI ww)), none, none, none, none]) (σ' := z20) (pc2 := 237) (l2 := [some (.ref 0), some (.long (z_hs1 W k ww (z_h4 W k))), none, some (.int (nI k)), some (.int (nI ww))]) (t := [.long ((Int64.ofNat 31) * (z_hs1 W k ww (z_h4 W k)))]) (fun f => rfl) (pi_X_bribeN hx20 (by omega) (by omega)) ?_
          rintro _ t21 ⟨rfl, gt21, rt21⟩
          refine pi_go 4 (pc' := 243) (l' := [some (.ref 0), some (.long (z_h (z_hs1 W k ww (z_h4 W k)) (Int32.toInt64 (z_brw W k ww)))), none, some (.int (nI k)), some (.int (nI ww + nI 1))]) (st' := []) (σ' := t21) (fun f => rfl) ?_
          rw [show nI ww + nI 1 = nI (ww + 1) from nI_add _ 1]
          refine pi_go 1 (pc' := 219) (l' := [some (.ref 0), some (.long (z_h (z_hs1 W k ww (z_h4 W k)) (Int32.toInt64 (z_brw W k ww)))), none, some (.int (nI k)), some (.int (nI (ww + 1)))]) (st' := []) (σ' := t21) (fun f => rfl) ?_
          rw [show some (Value.long (z_h (z_hs1 W k ww (z_h4 W k)) (Int32.toInt64 (z_brw W k ww)))) = some (Value.long (z_hs1 W k (ww + 1) (z_h4 W k))) from congrArg (fun z => some (Value.long z)) (z_hs1_s W k ww _)]
          exact ih20 _ (pi_fr_tr rt21 (by decide) (pi_fr_tr hrz20 (by decide) (pi_fr_rf))) (gt21)
    · intro dd hi4 ih4 j4 z4 hrz4 hx4
      refine pi_go 4 (pc' := 67) (l' := [some (.ref 0), some (.long (z_h3 W dd)), none, some (.int (nI dd)), j4]) (st' := [.int (z4 1 8), .int (nI dd)]) (σ' := z4) (fun f => rfl) ?_
      refine pi_tp (y := nI W.nd) ((congrFun (hrz4 1 (by decide)) 8).trans (hR.k.t.d)) ?_
      refine pi_cf 1 (c := nI W.nd ≤ nI dd) (pc' := 70) (l' := [some (.ref 0), some (.long (z_h3 W dd)), none, some (.int (nI dd)), j4]) (st' := []) (σ' := z4) (pc2 := 175) (l2 := [some (.ref 0), some (.long (z_h3 W dd)), none, some (.int (nI dd)), j4]) (st2 := []) (σ2 := z4) (fun f => rfl) (fun zq => absurd ((show nI W.nd ≤ nI dd ↔ _ from nI_leI (by omega) (by omega)).mp zq) (by omega)) ?_
      refine pi_ca 6 (m' := 64) (l' := [some (.ref 0), some (.int (nI dd))]) (σ' := z4) (pc2 := 80) (l2 := [some (.ref 0), some (.long (z_h3 W dd)), none, some (.int (nI dd)), j4]) (t := [.long ((Int64.ofNat 31) * (z_h3 W dd))]) (fun f => rfl) (pi_X_height hx4 (by omega)) ?_
      rintro _ t22 ⟨rfl, gt22, rt22⟩
      refine pi_ca 9 (m' := 74) (l' := [some (.ref 0), some (.int (nI dd))]) (σ' := t22) (pc2 := 93) (l2 := [some (.ref 0), some (.long (z_h (z_h3 W dd) (Int32.toInt64 (W.hh dd)))), none, some (.int (nI dd)), j4]) (t := [.long ((Int64.ofNat 31) * (z_h (z_h3 W dd) (Int32.toInt64 (W.hh dd))))]) (fun f => rfl) (pi_X_fine1 gt22 (by omega)) ?_
      rintro _ t23 ⟨rfl, gt23, rt23⟩
      refine pi_ca 10 (m' := 77) (l' := [some (.ref 0), some (.int (nI dd)), some (.int (nI 0))]) (σ' := t23) (pc2 := 107) (l2 := [some (.ref 0), some (.long (z_h (z_h (z_h3 W dd) (Int32.toInt64 (W.hh dd))) (Int32.toInt64 (z_fine W.rt (z_A W).1.1.1 dd)))), none, some (.int (nI dd)), j4]) (t := [.long ((Int64.ofNat 31) * (z_h (z_h (z_h3 W dd) (Int32.toInt64 (W.hh dd))) (Int32.toInt64 (z_fine W.rt (z_A W).1.1.1 dd))))]) (fun f => rfl) (pi_X_nets0 gt23 (by omega)) ?_
      rintro _ t24 ⟨rfl, gt24, rt24⟩
      refine pi_ca 10 (m' := 77) (l' := [some (.ref 0), some (.int (nI dd)), some (.int (nI 1))]) (σ' := t24) (pc2 := 121) (l2 := [some (.ref 0), some (.long (z_h (z_h (z_h (z_h3 W dd) (Int32.toInt64 (W.hh dd))) (Int32.toInt64 (z_fine W.rt (z_A W).1.1.1 dd))) (Int32.toInt64 (z_net W.up W.lo W.ns dd W.nd)))), none, some (.int (nI dd)), j4]) (t := [.long ((Int64.ofNat 31) * (z_h (z_h (z_h (z_h3 W dd) (Int32.toInt64 (W.hh dd))) (Int32.toInt64 (z_fine W.rt (z_A W).1.1.1 dd))) (Int32.toInt64 (z_net W.up W.lo W.ns dd W.nd))))]) (fun f => rfl) (pi_X_nets1 gt24 (by omega)) ?_
      rintro _ t25 ⟨rfl, gt25, rt25⟩
      refine pi_go 5 (pc' := 127) (l' := [some (.ref 0), some (.long (z_h (z_h (z_h (z_h (z_h3 W dd) (Int32.toInt64 (W.hh dd))) (Int32.toInt64 (z_fine W.rt (z_A W).1.1.1 dd))) (Int32.toInt64 (z_net W.up W.lo W.ns dd W.nd))) (Int32.toInt64 (z_rc W.up W.lo W.ns dd (nI 0))))), none, some (.int (nI dd)), some (.int (nI 0))]) (st' := []) (σ' := t25) (fun f => rfl) ?_
      rw [show some (Value.long (z_h (z_h (z_h (z_h (z_h3 W dd) (Int32.toInt64 (W.hh dd))) (Int32.toInt64 (z_fine W.rt (z_A W).1.1.1 dd))) (Int32.toInt64 (z_net W.up W.lo W.ns dd W.nd))) (Int32.toInt64 (z_rc W.up W.lo W.ns dd (nI 0))))) = some (Value.long (z_hd1 W dd 0 (z_h3 W dd))) from congrArg (fun z => some (Value.long z)) (z_hd1_0 W dd _)]
      suffices hl26 : ∀ kk, kk ≤ 5 → ∀ (z26 : pi_S), pi_fr z_CJ z26 σ → z_CR W z26 → pi_wp xs L (d + 11) 93 127 [some (.ref 0), some (.long (z_hd1 W dd kk (z_h3 W dd))), none, some (.int (nI dd)), some (.int (nI kk))] [] z26 (fun v s => v = some (.long (z_dig W t)) ∧ z_CR W s ∧ pi_fr z_CJ s σ) from hl26 0 (by omega) _ (pi_fr_tr rt25 (by decide) (pi_fr_tr rt24 (by decide) (pi_fr_tr rt23 (by decide) (pi_fr_tr rt22 (by decide) (pi_fr_tr hrz4 (by decide) (pi_fr_rf)))))) (gt25)
      refine pi_lp0 ?_ ?_
      · intro z26 hrz26 hx26
        refine pi_ct 3 (c := nI 5 ≤ nI 5) (pc' := 154) (l' := [some (.ref 0), some (.long (z_hd1 W dd 5 (z_h3 W dd))), none, some (.int (nI dd)), some (.int (nI 5))]) (st' := []) (σ' := z26) (pc2 := 133) (l2 := [some (.ref 0), some (.long (z_hd1 W dd 5 (z_h3 W dd))), none, some (.int (nI dd)), some (.int (nI 5))]) (st2 := []) (σ2 := z26) (fun f => rfl) (by decide) ?_
        refine pi_ca 8 (m' := 73) (l' := [some (.ref 0), some (.int (nI dd)), some (.int (nI 0)), some (.int (-1)), none]) (σ' := z26) (pc2 := 166) (l2 := [some (.ref 0), some (.long (z_hd1 W dd 5 (z_h3 W dd))), none, some (.int (nI dd)), some (.int (nI 5))]) (t := [.long ((Int64.ofNat 31) * (z_hd1 W dd 5 (z_h3 W dd)))]) (fun f => rfl) (pi_X_lies0 hx26 (by omega) (by omega)) ?_
        rintro _ t27 ⟨rfl, gt27, rt27⟩
        refine pi_go 4 (pc' := 172) (l' := [some (.ref 0), some (.long (z_h (z_hd1 W dd 5 (z_h3 W dd)) (Int32.toInt64 (z_all (z_R W (-1) (-1) 0 (fun _ => 0) (0 + 1)).1.1.1 dd)))), none, some (.int (nI dd + nI 1)), some (.int (nI 5))]) (st' := []) (σ' := t27) (fun f => rfl) ?_
        rw [show nI dd + nI 1 = nI (dd + 1) from nI_add _ 1]
        refine pi_go 1 (pc' := 59) (l' := [some (.ref 0), some (.long (z_h (z_hd1 W dd 5 (z_h3 W dd)) (Int32.toInt64 (z_all (z_R W (-1) (-1) 0 (fun _ => 0) (0 + 1)).1.1.1 dd)))), none, some (.int (nI (dd + 1))), some (.int (nI 5))]) (st' := []) (σ' := t27) (fun f => rfl) ?_
        rw [show some (Value.long (z_h (z_hd1 W dd 5 (z_h3 W dd)) (Int32.toInt64 (z_all (z_R W (-1) (-1) 0 (fun _ => 0) (0 + 1)).1.1.1 dd)))) = some (Value.long (z_h3 W (dd + 1))) from congrArg (fun z => some (Value.long z)) (z_h3_s W dd)]
        exact ih4 _ _ (pi_fr_tr rt27 (by decide) (pi_fr_tr hrz26 (by decide) (pi_fr_rf))) (gt27)
      · intro kk hi26 ih26 z26 hrz26 hx26
        refine pi_cf 3 (c := nI 5 ≤ nI kk) (pc' := 133) (l' := [some (.ref 0), some (.long (z_hd1 W dd kk (z_h3 W dd))), none, some (.int (nI dd)), some (.int (nI kk))]) (st' := []) (σ' := z26) (pc2 := 154) (l2 := [some (.ref 0), some (.long (z_hd1 W dd kk (z_h3 W dd))), none, some (.int (nI dd)), some (.int (nI kk))]) (st2 := []) (σ2 := z26) (fun f => rfl) (fun zq => absurd ((show nI 5 ≤ nI kk ↔ _ from nI_leI (by omega) (by omega)).mp zq) (by omega)) ?_
        refine pi_ca 7 (m' := 84) (l' := [some (.ref 0), some (.int (nI dd)), some (.int (nI kk))]) (σ' := z26) (pc2 := 145) (l2 := [some (.ref 0), some (.long (z_hd1 W dd kk (z_h3 W dd))), none, some (.int (nI dd)), some (.int (nI kk))]) (t := [.long ((Int64.ofNat 31) * (z_hd1 W dd kk (z_h3 W dd)))]) (fun f => rfl) (pi_X_origin hx26 (by omega) (by omega)) ?_
        rintro _ t28 ⟨rfl, gt28, rt28⟩
        refine pi_go 4 (pc' := 151) (l' := [some (.ref 0), some (.long (z_h (z_hd1 W dd kk (z_h3 W dd)) (Int32.toInt64 ((z_A W).1.1.2 (5 * dd + kk))))), none, some (.int (nI dd)), some (.int (nI kk + nI 1))]) (st' := []) (σ' := t28) (fun f => rfl) ?_
        rw [show nI kk + nI 1 = nI (kk + 1) from nI_add _ 1]
        refine pi_go 1 (pc' := 127) (l' := [some (.ref 0), some (.long (z_h (z_hd1 W dd kk (z_h3 W dd)) (Int32.toInt64 ((z_A W).1.1.2 (5 * dd + kk))))), none, some (.int (nI dd)), some (.int (nI (kk + 1)))]) (st' := []) (σ' := t28) (fun f => rfl) ?_
        rw [show some (Value.long (z_h (z_hd1 W dd kk (z_h3 W dd)) (Int32.toInt64 ((z_A W).1.1.2 (5 * dd + kk))))) = some (Value.long (z_hd1 W dd (kk + 1) (z_h3 W dd))) from congrArg (fun z => some (Value.long z)) (z_hd1_s W dd kk _)]
        exact ih26 _ (pi_fr_tr rt28 (by decide) (pi_fr_tr hrz26 (by decide) (pi_fr_rf))) (gt28)
  · intro i hi1 ih1 j4 z1 hrz1 hx1
    refine pi_cf 3 (c := nI 7 < nI i) (pc' := 12) (l' := [some (.ref 0), some (.long (z_h1 W i)), none, some (.int (nI i)), j4]) (st' := []) (σ' := z1) (pc2 := 31) (l2 := [some (.ref 0), some (.long (z_h1 W i)), none, some (.int (nI i)), j4]) (st2 := []) (σ2 := z1) (fun f => rfl) (fun q => absurd ((nI_ltI (by omega) (by omega)).mp q) (by omega)) ?_
    refine pi_ca 6 (m' := 92) (l' := [some (.ref 0), some (.int (nI i))]) (σ' := z1) (pc2 := 22) (l2 := [some (.ref 0), some (.long (z_h1 W i)), none, some (.int (nI i)), j4]) (t := [.long ((Int64.ofNat 31) * (z_h1 W i))]) (fun f => rfl) (pi_X_countN hx1 (by omega)) ?_
    rintro _ t29 ⟨rfl, gt29, rt29⟩
    refine pi_go 4 (pc' := 28) (l' := [some (.ref 0), some (.long (z_h (z_h1 W i) (Int32.toInt64 (z_cnt W i)))), none, some (.int (nI i + nI 1)), j4]) (st' := []) (σ' := t29) (fun f => rfl) ?_
    rw [show nI i + nI 1 = nI (i + 1) from nI_add _ 1]
    refine pi_go 1 (pc' := 6) (l' := [some (.ref 0), some (.long (z_h (z_h1 W i) (Int32.toInt64 (z_cnt W i)))), none, some (.int (nI (i + 1))), j4]) (st' := []) (σ' := t29) (fun f => rfl) ?_
    rw [show some (Value.long (z_h (z_h1 W i) (Int32.toInt64 (z_cnt W i)))) = some (Value.long (z_h1 W (i + 1))) from congrArg (fun z => some (Value.long z)) (z_h1_s W i)]
    exact ih1 _ _ (pi_fr_tr rt29 (by decide) (pi_fr_tr hrz1 (by decide) (pi_fr_rf))) (gt29)
