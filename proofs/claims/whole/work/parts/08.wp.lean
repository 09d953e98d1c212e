/-! running the pure machine: from here it comes to an end at which Q holds -/
def pi_wp (xs : Nat → Int32) (L d m pc : Nat) (l : pi_L) (st : List Value) (σ : pi_S) (Q : Option Value → pi_S → Prop) : Prop :=
  ∃ (v : Option Value) (σ' : pi_S) (f0 : Nat), (∀ f, f0 ≤ f → pi_run xs L f d m pc l st σ = some (v, σ')) ∧ Q v σ'
section PIW
variable {xs : Nat → Int32} {L d m pc pc' pc2 : Nat} {l l' l2 : pi_L} {st st' st2 : List Value} {σ σ' σ2 : pi_S} {Q Q1 : Option Value → pi_S → Prop}
theorem pi_go (k : Nat) (h : ∀ f, pi_run xs L (f + k) d m pc l st σ = pi_run xs L f d m pc' l' st' σ') (hn : pi_wp xs L d m pc' l' st' σ' Q) : pi_wp xs L d m pc l st σ Q := by
  obtain ⟨v, s, f0, h1, h2⟩ := hn
  refine ⟨v, s, f0 + k, fun f hf => ?_, h2⟩
  obtain ⟨g, rfl⟩ : ∃ g, f = g + k := ⟨f - k, by omega⟩
  rw [h]
  exact h1 g (by omega)
theorem pi_if (k : Nat) {c : Prop} {dc : Decidable c} (h : ∀ f, pi_run xs L (f + k) d m pc l st σ = @ite _ c dc (pi_run xs L f d m pc' l' st' σ') (pi_run xs L f d m pc2 l2 st2 σ2))
    (ht : c → pi_wp xs L d m pc' l' st' σ' Q) (hf : ¬ c → pi_wp xs L d m pc2 l2 st2 σ2 Q) : pi_wp xs L d m pc l st σ Q := by
  by_cases hc : c
  · exact pi_go k (fun f => (h f).trans (if_pos hc)) (ht hc)
  · exact pi_go k (fun f => (h f).trans (if_neg hc)) (hf hc)
theorem pi_gd (k : Nat) {c : Prop} {dc : Decidable c} (h : ∀ f, pi_run xs L (f + k) d m pc l st σ = @ite _ c dc (pi_run xs L f d m pc' l' st' σ') none) (hc : c) (hn : pi_wp xs L d m pc' l' st' σ' Q) : pi_wp xs L d m pc l st σ Q :=
  pi_go k (fun f => (h f).trans (if_pos hc)) hn
theorem pi_gn (k : Nat) {c : Prop} {dc : Decidable c} (h : ∀ f, pi_run xs L (f + k) d m pc l st σ = @ite _ c dc none (pi_run xs L f d m pc' l' st' σ')) (hc : ¬ c) (hn : pi_wp xs L d m pc' l' st' σ' Q) : pi_wp xs L d m pc l st σ Q :=
  pi_go k (fun f => (h f).trans (if_neg hc)) hn
theorem pi_rt (k : Nat) {v : Option Value} (h : ∀ f, pi_run xs L (f + k) d m pc l st σ = some (v, σ')) (hq : Q v σ') : pi_wp xs L d m pc l st σ Q := by
  refine ⟨v, σ', k, fun f hf => ?_, hq⟩
  obtain ⟨g, rfl⟩ : ∃ g, f = g + k := ⟨f - k, by omega⟩
  exact h g
theorem pi_rb (k : Nat) {v : Option Value} {c : Prop} {dc : Decidable c} (h : ∀ f, pi_run xs L (f + k) d m pc l st σ = @ite _ c dc (some (v, σ')) none) (hc : c) (hq : Q v σ') : pi_wp xs L d m pc l st σ Q :=
  pi_rt k (fun f => (h f).trans (if_pos hc)) hq
theorem pi_ca (k : Nat) {m' : Nat} {t : List Value} (h : ∀ f, pi_run xs L (f + k) (d + 1) m pc l st σ = pi_bk (pi_run xs L f d m' 0 l' [] σ') (fun x s => pi_run xs L f (d + 1) m pc2 l2 (x.toList ++ t) s))
    (hc : pi_wp xs L d m' 0 l' [] σ' Q1) (hk : ∀ v s, Q1 v s → pi_wp xs L (d + 1) m pc2 l2 (v.toList ++ t) s Q) : pi_wp xs L (d + 1) m pc l st σ Q := by
  obtain ⟨v, s, f0, h1, h2⟩ := hc
  obtain ⟨v2, s2, f1, h3, h4⟩ := hk v s h2
  refine ⟨v2, s2, f0 + f1 + k, fun f hf => ?_, h4⟩
  obtain ⟨g, rfl⟩ : ∃ g, f = g + k := ⟨f - k, by omega⟩
  rw [h, h1 g (by omega)]
  exact h3 g (by omega)
theorem pi_mo (h : ∀ v s, Q1 v s → Q v s) (hw : pi_wp xs L d m pc l st σ Q1) : pi_wp xs L d m pc l st σ Q := by
  obtain ⟨v, s, f0, h1, h2⟩ := hw
  exact ⟨v, s, f0, h1, h _ _ h2⟩
/-- the number on top, written otherwise -/
theorem pi_tp {x y : Int32} {t : List Value} (h : x = y) (hn : pi_wp xs L d m pc l (.int y :: t) σ Q) : pi_wp xs L d m pc l (.int x :: t) σ Q := by rw [h]; exact hn
/-- an item at a known place -/
theorem pi_ai (k : Nat) {u n : Nat} {g : Nat → Int32} {t : List Value} (h : ∀ f, pi_run xs L (f + k) d m pc l st σ = @ite _ (vp_in (nI u) n) (pi_dec (nI u) n) (pi_run xs L f d m pc' l' (.int (g (nI u).toNatClampNeg) :: t) σ') none) (hu : u < n) (hb : n < 2 ^ 31)
    (hn : pi_wp xs L d m pc' l' (.int (g u) :: t) σ' Q) : pi_wp xs L d m pc l st σ Q := by
  refine pi_gd k h (vp_in_nI hu hb) ?_
  rw [nI_clamp (Nat.lt_trans hu hb)]
  exact hn
theorem pi_au (k : Nat) {u n a : Nat} {x : Int32} {t : List Value} (h : ∀ f, pi_run xs L (f + k) d m pc l st σ = @ite _ (vp_in (nI u) n) (pi_dec (nI u) n) (pi_run xs L f d m pc' l' t (pi_up σ' a (nI u).toNatClampNeg x)) none) (hu : u < n) (hb : n < 2 ^ 31)
    (hn : pi_wp xs L d m pc' l' t (pi_up σ' a u x) Q) : pi_wp xs L d m pc l st σ Q := by
  refine pi_gd k h (vp_in_nI hu hb) ?_
  rw [nI_clamp (Nat.lt_trans hu hb)]
  exact hn
end PIW
theorem pi_below {d : Nat} {xs : Nat → Int32} {L : Nat} {σ : pi_S} (a b : Int32) : pi_wp xs L d 94 0 [some (.int a), some (.int b)] [] σ (fun v s => s = σ ∧ ((0 ≤ a ∧ a < b ∧ v = some (.int 1)) ∨ (¬ (0 ≤ a ∧ a < b) ∧ v = some (.int 0)))) := by
  refine pi_if 2 (c := a < 0) (pc' := 13) (pc2 := 4) (l' := [some (.int a), some (.int b)]) (l2 := [some (.int a), some (.int b)]) (st' := []) (st2 := []) (σ' := σ) (σ2 := σ) (fun f => rfl) (fun h => ?_) (fun h => ?_)
  · sorry
  · sorry
