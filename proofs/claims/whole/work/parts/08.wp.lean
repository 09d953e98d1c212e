/-! running the pure machine: from here it comes to an end at which Q holds -/
def pi_wp (xs : Nat → Int32) (L d m pc : Nat) (l : pi_L) (st : List Value) (σ : pi_S) (Q : Option Value → pi_S → Prop) : Prop :=
  ∃ (v : Option Value) (σ' : pi_S) (f0 : Nat), (∀ f, f0 ≤ f → pi_run xs L f d m pc l st σ = some (v, σ')) ∧ Q v σ'
section PIW
variable {xs : Nat → Int32} {L d m pc pc' pc2 : Nat} {l l' l2 : pi_L} {st st' st2 : List Value} {σ σ' σ2 : pi_S} {Q Q1 : Option Value → pi_S → Prop}
theorem pi_go (k : Nat) (h : ∀ f, pi_run xs L (f + k) d m pc l st σ = pi_run xs L f d m pc' l' st' σ') (hn : pi_wp xs L d m pc' l' st' σ' Q) : pi_wp xs L d m pc l st σ Q := by
  obtain ⟨v, s, f0, h1, h2⟩ := hn
  refine ⟨v, s, f0 + k, fun f hf => ?_, h2⟩
  obtain ⟨g, rfl⟩ : ∃ g, f = g + k := ⟨f - k, by omega⟩
  rw [h]
  exact h1 g (by omega)
theorem pi_if (k : Nat) {c : Prop} {dc : Decidable c} (h : ∀ f, pi_run xs L (f + k) d m pc l st σ = @ite _ c dc (pi_run xs L f d m pc' l' st' σ') (pi_run xs L f d m pc2 l2 st2 σ2))
    (ht : c → pi_wp xs L d m pc' l' st' σ' Q) (hf : ¬ c → pi_wp xs L d m pc2 l2 st2 σ2 Q) : pi_wp xs L d m pc l st σ Q := by
  by_cases hc : c
  · exact pi_go k (fun f => (h f).trans (if_pos hc)) (ht hc)
  · exact pi_go k (fun f => (h f).trans (if_neg hc)) (hf hc)
theorem pi_gd (k : Nat) {c : Prop} {dc : Decidable c} (h : ∀ f, pi_run xs L (f + k) d m pc l st σ = @ite _ c dc (pi_run xs L f d m pc' l' st' σ') none) (hc : c) (hn : pi_wp xs L d m pc' l' st' σ' Q) : pi_wp xs L d m pc l st σ Q :=
  pi_go k (fun f => (h f).trans (if_pos hc)) hn
theorem pi_gn (k : Nat) {c : Prop} {dc : Decidable c} (h : ∀ f, pi_run xs L (f + k) d m pc l st σ = @ite _ c dc none (pi_run xs L f d m pc' l' st' σ')) (hc : ¬ c) (hn : pi_wp xs L d m pc' l' st' σ' Q) : pi_wp xs L d m pc l st σ Q :=
  pi_go k (fun f => (h f).trans (if_neg hc)) hn
theorem pi_rt (k : Nat) {v : Option Value} (h : ∀ f, pi_run xs L (f + k) d m pc l st σ = some (v, σ')) (hq : Q v σ') : pi_wp xs L d m pc l st σ Q := by
  refine ⟨v, σ', k, fun f hf => ?_, hq⟩
  obtain ⟨g, rfl⟩ : ∃ g, f = g + k := ⟨f - k, by omega⟩
  exact h g
theorem pi_rb (k : Nat) {v : Option Value} {c : Prop} {dc : Decidable c} (h : ∀ f, pi_run xs L (f + k) d m pc l st σ = @ite _ c dc (some (v, σ')) none) (hc : c) (hq : Q v σ') : pi_wp xs L d m pc l st σ Q :=
  pi_rt k (fun f => (h f).trans (if_pos hc)) hq
theorem pi_ca (k : Nat) {m' : Nat} {t : List Value} (h : ∀ f, pi_run xs L (f + k) (d + 1) m pc l st σ = pi_bk (pi_run xs L f d m' 0 l' [] σ') (fun x s => pi_run xs L f (d + 1) m pc2 l2 (x.toList ++ t) s))
    (hc : pi_wp xs L d m' 0 l' [] σ' Q1) (hk : ∀ v s, Q1 v s → pi_wp xs L (d + 1) m pc2 l2 (v.toList ++ t) s Q) : pi_wp xs L (d + 1) m pc l st σ Q := by
  obtain ⟨v, s, f0, h1, h2⟩ := hc
  obtain ⟨v2, s2, f1, h3, h4⟩ := hk v s h2
  refine ⟨v2, s2, f0 + f1 + k, fun f hf => ?_, h4⟩
  obtain ⟨g, rfl⟩ : ∃ g, f = g + k := ⟨f - k, by omega⟩
  rw [h, h1 g (by omega)]
  exact h3 g (by omega)
theorem pi_mo (h : ∀ v s, Q1 v s → Q v s) (hw : pi_wp xs L d m pc l st σ Q1) : pi_wp xs L d m pc l st σ Q := by
  obtain ⟨v, s, f0, h1, h2⟩ := hw
  exact ⟨v, s, f0, h1, h _ _ h2⟩
/-- the number on top, written otherwise -/
theorem pi_tp {x y : Int32} {t : List Value} (h : x = y) (hn : pi_wp xs L d m pc l (.int y :: t) σ Q) : pi_wp xs L d m pc l (.int x :: t) σ Q := by rw [h]; exact hn
/-- an item at a known place -/
theorem pi_ai (k : Nat) {u n : Nat} {g : Nat → Int32} {t : List Value} (h : ∀ f, pi_run xs L (f + k) d m pc l st σ = @ite _ (vp_in (nI u) n) (pi_dec (nI u) n) (pi_run xs L f d m pc' l' (.int (g (nI u).toNatClampNeg) :: t) σ') none) (hu : u < n) (hb : n < 2 ^ 31)
    (hn : pi_wp xs L d m pc' l' (.int (g u) :: t) σ' Q) : pi_wp xs L d m pc l st σ Q := by
  refine pi_gd k h (vp_in_nI hu hb) ?_
  rw [nI_clamp (Nat.lt_trans hu hb)]
  exact hn
theorem pi_au (k : Nat) {u n a : Nat} {x : Int32} {t : List Value} (h : ∀ f, pi_run xs L (f + k) d m pc l st σ = @ite _ (vp_in (nI u) n) (pi_dec (nI u) n) (pi_run xs L f d m pc' l' t (pi_up σ' a (nI u).toNatClampNeg x)) none) (hu : u < n) (hb : n < 2 ^ 31)
    (hn : pi_wp xs L d m pc' l' t (pi_up σ' a u x) Q) : pi_wp xs L d m pc l st σ Q := by
  refine pi_gd k h (vp_in_nI hu hb) ?_
  rw [nI_clamp (Nat.lt_trans hu hb)]
  exact hn
theorem pi_ct (k : Nat) {c : Prop} {dc : Decidable c} (h : ∀ f, pi_run xs L (f + k) d m pc l st σ = @ite _ c dc (pi_run xs L f d m pc' l' st' σ') (pi_run xs L f d m pc2 l2 st2 σ2)) (hc : c) (hn : pi_wp xs L d m pc' l' st' σ' Q) : pi_wp xs L d m pc l st σ Q :=
  pi_go k (fun f => (h f).trans (if_pos hc)) hn
theorem pi_cf (k : Nat) {c : Prop} {dc : Decidable c} (h : ∀ f, pi_run xs L (f + k) d m pc l st σ = @ite _ c dc (pi_run xs L f d m pc2 l2 st2 σ2) (pi_run xs L f d m pc' l' st' σ')) (hc : ¬ c) (hn : pi_wp xs L d m pc' l' st' σ' Q) : pi_wp xs L d m pc l st σ Q :=
  pi_go k (fun f => (h f).trans (if_neg hc)) hn
end PIW
theorem pi_up_ss (σ : pi_S) (a k : Nat) (x : Int32) : pi_up σ a k x a k = x := by rw [pi_up_self]; exact if_pos rfl
theorem pi_up_sn (σ : pi_S) (a : Nat) {k : Nat} (x : Int32) {j : Nat} (h : j ≠ k) : pi_up σ a k x a j = σ a j := by rw [pi_up_self]; exact if_neg h
/-- but for some cells nothing changed -/
def pi_fr (S : List Nat) (s σ : pi_S) : Prop := ∀ c, c ∉ S → s c = σ c
theorem pi_fr_rf {S : List Nat} {σ : pi_S} : pi_fr S σ σ := fun _ _ => rfl
theorem pi_fr_of {S : List Nat} {s s' σ : pi_S} {a k : Nat} {x : Int32} (e : pi_up s a k x = s') (ha : a ∈ S) (h : pi_fr S s σ) : pi_fr S s' σ := by
  intro c hc
  have hca : c ≠ a := fun q => hc (by rw [q]; exact ha)
  rw [← e, pi_up_ne s k x hca]
  exact h c hc
theorem pi_fr_tr {S S1 : List Nat} {s s' σ : pi_S} (h1 : pi_fr S1 s' s) (hs : ∀ c ∈ S1, c ∈ S) (h : pi_fr S s σ) : pi_fr S s' σ := fun c hc => (h1 c (fun q => hc (hs c q))).trans (h c hc)
/-- of a cell but for some slots nothing changed -/
def pi_fs (c : Nat) (K : List Nat) (s σ : pi_S) : Prop := ∀ k, k ∉ K → s c k = σ c k
theorem pi_fs_rf {c : Nat} {K : List Nat} {σ : pi_S} : pi_fs c K σ σ := fun _ _ => rfl
theorem pi_fs_ne {c : Nat} {K : List Nat} {s s' σ : pi_S} {a k : Nat} {x : Int32} (e : pi_up s a k x = s') (h : c ≠ a) (hp : pi_fs c K s σ) : pi_fs c K s' σ := fun j hj => by
  rw [← e, pi_up_ne s k x h]; exact hp j hj
theorem pi_fs_up {c : Nat} {K : List Nat} {s s' σ : pi_S} {k : Nat} {x : Int32} (e : pi_up s c k x = s') (h : k ∈ K) (hp : pi_fs c K s σ) : pi_fs c K s' σ := fun j hj => by
  have hjk : j ≠ k := fun q => hj (by rw [q]; exact h)
  rw [← e, pi_up_sn s c x hjk]; exact hp j hj
theorem pi_fs_ca {c : Nat} {K K1 : List Nat} {s s' σ : pi_S} (h1 : pi_fs c K1 s' s) (hs : ∀ k ∈ K1, k ∈ K) (hp : pi_fs c K s σ) : pi_fs c K s' σ := fun j hj => (h1 j (fun q => hj (hs j q))).trans (hp j hj)
theorem pi_fs_fr {c : Nat} {K S : List Nat} {s s' σ : pi_S} (h1 : pi_fr S s' s) (hs : c ∉ S) (hp : pi_fs c K s σ) : pi_fs c K s' σ := fun j hj => (congrFun (h1 c hs) j).trans (hp j hj)
theorem pi_lp0 {P : Nat → Prop} {n : Nat} (hn : P n) (hs : ∀ i, i < n → P (i + 1) → P i) : ∀ i, i ≤ n → P i := by
  intro i hi
  induction hk : n - i generalizing i with
  | zero =>
    have : i = n := by omega
    subst this
    exact hn
  | succ k ih => exact hs i (by omega) (ih (i + 1) (by omega) (by omega))
/-- a loop in numbers: from the i-th state on -/
def pi_lp {α : Type} (f : Nat → α → α) : Nat → α → α
  | 0, s => s
  | n + 1, s => f n (pi_lp f n s)
