theorem pi_nc {xs : Nat → Int32} {L d : Nat} {σ : pi_S} : True := trivial
set_option maxRecDepth 20000 in
theorem pi_below {xs : Nat → Int32} {L d : Nat} {σ : pi_S} (a b : Int32)  : pi_wp xs L d 94 0 [some (.int a), some (.int b)] [] σ (fun v s => ((0 ≤ a ∧ a < b) ∧ v = some (.int (nI 1)) ∧ σ = s) ∨ (¬ (0 ≤ a ∧ a < b) ∧ v = some (.int (nI 0)) ∧ σ = s)) := by
  refine pi_if 2 (c := a < 0) (pc' := 13) (l' := [some (.int a), some (.int b)]) (st' := []) (σ' := σ) (pc2 := 4) (l2 := [some (.int a), some (.int b)]) (st2 := []) (σ2 := σ) (fun f => rfl) (fun h1 => ?_) (fun h1 => ?_)
  · refine pi_rb 2 (c := (nI 0) &&& 1 = nI 0) (v := some (.int (nI 0))) (σ' := σ) (fun f => rfl) (by decide) ?_
    exact Or.inr ⟨fun q => Int32.not_lt.mpr q.1 h1, rfl, rfl⟩
  · refine pi_if 3 (c := b ≤ a) (pc' := 13) (l' := [some (.int a), some (.int b)]) (st' := []) (σ' := σ) (pc2 := 9) (l2 := [some (.int a), some (.int b)]) (st2 := []) (σ2 := σ) (fun f => rfl) (fun h2 => ?_) (fun h2 => ?_)
    · refine pi_rb 2 (c := (nI 0) &&& 1 = nI 0) (v := some (.int (nI 0))) (σ' := σ) (fun f => rfl) (by decide) ?_
      exact Or.inr ⟨fun q => Int32.not_lt.mpr h2 q.2, rfl, rfl⟩
    · refine pi_rb 3 (c := (nI 1) &&& 1 = nI 1) (v := some (.int (nI 1))) (σ' := σ) (fun f => rfl) (by decide) ?_
      exact Or.inl ⟨⟨Int32.not_lt.mp h1, Int32.not_le.mp h2⟩, rfl, rfl⟩
theorem pi_below1 {xs : Nat → Int32} {L d : Nat} {σ : pi_S} (a b : Int32) (h : 0 ≤ a ∧ a < b) : pi_wp xs L d 94 0 [some (.int a), some (.int b)] [] σ (fun v s => v = some (.int (nI 1)) ∧ σ = s) :=
  pi_mo (fun v s q => q.elim (fun q => q.2) (fun q => absurd h q.1)) (pi_below a b)
theorem pi_below0 {xs : Nat → Int32} {L d : Nat} {σ : pi_S} (a b : Int32) (h : ¬ (0 ≤ a ∧ a < b)) : pi_wp xs L d 94 0 [some (.int a), some (.int b)] [] σ (fun v s => v = some (.int (nI 0)) ∧ σ = s) :=
  pi_mo (fun v s q => q.elim (fun q => absurd q.1 h) (fun q => q.2)) (pi_below a b)
set_option maxRecDepth 20000 in
theorem pi_empty_door {xs : Nat → Int32} {L d : Nat} {σ : pi_S}  : pi_wp xs L d 44 0 [some (.ref 2), none] [] σ (fun v s => v = some (.int (σ 2 2)) ∧ s 2 = upd (σ 2) 2 (nI 0) ∧ pi_fr [2] s σ) := by
  refine pi_go 6 (pc' := 10) (l' := [some (.ref 2), some (.int (σ 2 2))]) (st' := []) (σ' := (pi_up σ 2 2 (nI 0))) (fun f => rfl) ?_
  generalize es1 : pi_up σ 2 2 (nI 0) = s1
  refine pi_rt 2 (v := some (.int (σ 2 2))) (σ' := s1) (fun f => rfl) ?_
  exact ⟨rfl, (congrFun es1 2).symm.trans ((pi_up_self _ _ _ _)), pi_fr_of es1 (by decide) (pi_fr_rf)⟩
set_option maxRecDepth 20000 in
theorem pi_empty_street {xs : Nat → Int32} {L d : Nat} {σ : pi_S}  : pi_wp xs L d 44 0 [some (.ref 4), none] [] σ (fun v s => v = some (.int (σ 4 2)) ∧ s 4 = upd (σ 4) 2 (nI 0) ∧ pi_fr [4] s σ) := by
  refine pi_go 6 (pc' := 10) (l' := [some (.ref 4), some (.int (σ 4 2))]) (st' := []) (σ' := (pi_up σ 4 2 (nI 0))) (fun f => rfl) ?_
  generalize es1 : pi_up σ 4 2 (nI 0) = s1
  refine pi_rt 2 (v := some (.int (σ 4 2))) (σ' := s1) (fun f => rfl) ?_
  exact ⟨rfl, (congrFun es1 4).symm.trans ((pi_up_self _ _ _ _)), pi_fr_of es1 (by decide) (pi_fr_rf)⟩
