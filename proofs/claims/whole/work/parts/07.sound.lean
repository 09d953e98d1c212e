/-! the pure machine's answers are the machine's -/
theorem pi_cond_inv {α : Type} {c : Bool} {x : Option α} {o : α} (h : cond c x none = some o) : c = true ∧ x = some o := by
  cases c
  · cases h
  · exact ⟨rfl, h⟩
theorem pi_ite_inv {α : Type} {c : Prop} {dc : Decidable c} {x : Option α} {o : α} (h : @ite _ c dc x none = some o) : c ∧ x = some o := by
  by_cases hc : c
  · rw [if_pos hc] at h; exact ⟨hc, h⟩
  · rw [if_neg hc] at h; cases h
theorem pi_ite_inv' {α : Type} {c : Prop} {dc : Decidable c} {x : Option α} {o : α} (h : @ite _ c dc none x = some o) : ¬ c ∧ x = some o := by
  by_cases hc : c
  · rw [if_pos hc] at h; cases h
  · rw [if_neg hc] at h; exact ⟨hc, h⟩
theorem pi_b_inv {α : Type} {w : Nat} {x : Int32} {a : Option α} {o : α} (h : cond (Nat.beq w 0) a (if x &&& 1 = x then a else none) = some o) : (w = 0 ∨ x &&& 1 = x) ∧ a = some o := by
  cases hw : Nat.beq w 0 with
  | true => rw [hw] at h; exact ⟨Or.inl (Nat.eq_of_beq_eq_true hw), h⟩
  | false =>
    rw [hw, cond_false] at h
    obtain ⟨h1, h2⟩ := pi_ite_inv h
    exact ⟨Or.inr h1, h2⟩
theorem pi_b_of {α : Type} {w : Nat} {x : Int32} {a : Option α} (h : w = 0 ∨ x &&& 1 = x) : cond (Nat.beq w 0) a (if x &&& 1 = x then a else none) = a := by
  cases hw : Nat.beq w 0 with
  | true => rfl
  | false =>
    rcases h with h | h
    · rw [h] at hw; cases hw
    · rw [cond_false, if_pos h]
theorem pi_i1_inv {st : List Value} {f : Int32 → List Value → pi_O} {o : Option Value × pi_S} (h : pi_i1 st f = some o) : ∃ x r, st = .int x :: r ∧ f x r = some o := by
  unfold pi_i1 at h
  split at h
  · exact ⟨_, _, rfl, h⟩
  · cases h
theorem pi_i2_inv {st : List Value} {f : Int32 → Int32 → List Value → pi_O} {o : Option Value × pi_S} (h : pi_i2 st f = some o) : ∃ x y r, st = .int y :: .int x :: r ∧ f x y r = some o := by
  unfold pi_i2 at h
  split at h
  · exact ⟨_, _, _, rfl, h⟩
  · cases h
theorem pi_l1_inv {st : List Value} {f : Int64 → List Value → pi_O} {o : Option Value × pi_S} (h : pi_l1 st f = some o) : ∃ x r, st = .long x :: r ∧ f x r = some o := by
  unfold pi_l1 at h
  split at h
  · exact ⟨_, _, rfl, h⟩
  · cases h
theorem pi_l2_inv {st : List Value} {f : Int64 → Int64 → List Value → pi_O} {o : Option Value × pi_S} (h : pi_l2 st f = some o) : ∃ x y r, st = .long y :: .long x :: r ∧ f x y r = some o := by
  unfold pi_l2 at h
  split at h
  · exact ⟨_, _, _, rfl, h⟩
  · cases h
theorem pi_a1_inv {st : List Value} {f : Nat → List Value → pi_O} {o : Option Value × pi_S} (h : pi_a1 st f = some o) : ∃ x r, st = .ref x :: r ∧ f x r = some o := by
  unfold pi_a1 at h
  split at h
  · exact ⟨_, _, rfl, h⟩
  · cases h
theorem pi_ldi_inv {l : pi_L} {i : Nat} {f : Int32 → pi_O} {o : Option Value × pi_S} (h : pi_ldi l i f = some o) : ∃ x, l[i]? = some (some (.int x)) ∧ f x = some o := by
  unfold pi_ldi at h
  split at h
  · rename_i x hx; exact ⟨_, hx, h⟩
  · cases h
theorem pi_ldl_inv {l : pi_L} {i : Nat} {f : Int64 → pi_O} {o : Option Value × pi_S} (h : pi_ldl l i f = some o) : ∃ x, l[i]? = some (some (.long x)) ∧ f x = some o := by
  unfold pi_ldl at h
  split at h
  · rename_i x hx; exact ⟨_, hx, h⟩
  · cases h
theorem pi_lda_inv {l : pi_L} {i : Nat} {f : Nat → pi_O} {o : Option Value × pi_S} (h : pi_lda l i f = some o) : ∃ x, l[i]? = some (some (.ref x)) ∧ f x = some o := by
  unfold pi_lda at h
  split at h
  · rename_i x hx; exact ⟨_, hx, h⟩
  · cases h
theorem pi_bk_inv {a : pi_O} {f : Option Value → pi_S → pi_O} {o : Option Value × pi_S} (h : pi_bk a f = some o) : ∃ v σ, a = some (v, σ) ∧ f v σ = some o := by
  unfold pi_bk at h
  split at h
  · exact ⟨_, _, rfl, h⟩
  · cases h
/-! the world -/
def pi_E (cA : Nat → ClassId) (ad : Nat → Nat) (σ : pi_S) (i : Nat) : va_E :=
  cond (Nat.blt (pi_sk i) 11) (.inr (pi_sk i, (List.range (pi_sn i)).map fun k => pi_den ad (pi_fv σ i k)))
    (cond (Nat.beq (pi_sk i) 13) (.inl (cA 2, pi_sn i, .inr (.inr (.inr (.inr fun j => some (ad (pi_rf i j - 1)))))))
      (.inl (cond (Nat.beq (pi_sk i) 12) (cA 1) (cA 0), pi_sn i, .inl (σ i))))
def pi_W (cA : Nat → ClassId) (ad : Nat → Nat) (σ : pi_S) : va_W := (List.range pi_N).map fun i => (ad i, pi_E cA ad σ i)
def pi_A (ad : Nat → Nat) : Nat → Prop := fun q => ∃ i, i < pi_N ∧ q = ad i
def pi_ty (cA : Nat → ClassId) : List (ClassId × FieldType) := [(cA 0, .int), (cA 1, .boolean), (cA 2, .object "SweptDownhill$Sheet")]
theorem pi_W_at (cA : Nat → ClassId) (ad : Nat → Nat) (σ : pi_S) {i : Nat} (hi : i < pi_N) : (pi_W cA ad σ)[i]? = some (ad i, pi_E cA ad σ i) := by
  rw [pi_W, List.getElem?_map, List.getElem?_range hi]; rfl
theorem pi_W_in {cA : Nat → ClassId} {ad : Nat → Nat} {σ : pi_S} {i : Nat} {q : Nat × va_E} (h : (pi_W cA ad σ)[i]? = some q) : i < pi_N ∧ q = (ad i, pi_E cA ad σ i) := by
  have hl : i < (pi_W cA ad σ).length := (List.getElem?_eq_some_iff.mp h).1
  have hi : i < pi_N := by simpa [pi_W] using hl
  rw [pi_W_at cA ad σ hi] at h
  exact ⟨hi, (Option.some.inj h).symm⟩
theorem pi_sk_lt {i : Nat} (h : pi_sk i ≠ 99) : i < pi_N := by
  by_cases hi : i < pi_N
  · exact hi
  · refine absurd ?_ h
    have hb : Nat.blt i 82 = false := by
      cases hx : Nat.blt i 82
      · rfl
      · exact absurd (Nat.le_of_ble_eq_true hx) hi
    unfold pi_sk
    rw [hb]; rfl
theorem pi_E_cong {cA : Nat → ClassId} {ad : Nat → Nat} {σ σ' : pi_S} {j : Nat} (h : σ' j = σ j) : pi_E cA ad σ' j = pi_E cA ad σ j := by
  unfold pi_E pi_fv
  rw [h]
theorem pi_W_set {cA : Nat → ClassId} {ad : Nat → Nat} {σ σ' : pi_S} {i : Nat} {e : va_E} (h1 : pi_E cA ad σ' i = e) (h2 : ∀ j, j ≠ i → σ' j = σ j) : (pi_W cA ad σ).set i (ad i, e) = pi_W cA ad σ' := by
  apply List.ext_getElem?
  intro j
  by_cases hj : j < pi_N
  · rw [pi_W_at cA ad σ' hj]
    by_cases hji : j = i
    · subst hji
      rw [List.getElem?_set_self (by simpa [pi_W] using hj), h1]
    · rw [List.getElem?_set_ne (Ne.symm hji), pi_W_at cA ad σ hj, pi_E_cong (h2 j hji)]
  · rw [List.getElem?_eq_none (by simp [pi_W]; omega), List.getElem?_eq_none (by simp [pi_W]; omega)]
theorem pi_E_obj {cA : Nat → ClassId} {ad : Nat → Nat} {σ : pi_S} {i ci : Nat} (h : pi_sk i = ci) (hc : ci < 11) : pi_E cA ad σ i = .inr (ci, (List.range (pi_sn i)).map fun k => pi_den ad (pi_fv σ i k)) := by
  unfold pi_E
  rw [h, show Nat.blt ci 11 = true from Nat.ble_eq_true_of_le hc]; rfl
theorem pi_E_int {cA : Nat → ClassId} {ad : Nat → Nat} {σ : pi_S} {i : Nat} (h : pi_sk i = 11) : pi_E cA ad σ i = .inl (cA 0, pi_sn i, .inl (σ i)) := by
  unfold pi_E
  rw [h]; rfl
theorem pi_E_boo {cA : Nat → ClassId} {ad : Nat → Nat} {σ : pi_S} {i : Nat} (h : pi_sk i = 12) : pi_E cA ad σ i = .inl (cA 1, pi_sn i, .inl (σ i)) := by
  unfold pi_E
  rw [h]; rfl
theorem pi_E_ref {cA : Nat → ClassId} {ad : Nat → Nat} {σ : pi_S} {i : Nat} (h : pi_sk i = 13) : pi_E cA ad σ i = .inl (cA 2, pi_sn i, .inr (.inr (.inr (.inr fun j => some (ad (pi_rf i j - 1)))))) := by
  unfold pi_E
  rw [h]; rfl
theorem pi_D {cA : Nat → ClassId} {ad : Nat → Nat} {A : Nat → Prop} (σ : pi_S) (hap : ∀ i j, i < pi_N → j < pi_N → ad i = ad j → i = j) (hA : ∀ i, i < pi_N → A (ad i)) : va_D A (pi_W cA ad σ) := by
  refine ⟨fun i j x y hi hj hxy => ?_, fun k q hk => ?_⟩
  · obtain ⟨h1, rfl⟩ := pi_W_in hi
    obtain ⟨h2, rfl⟩ := pi_W_in hj
    exact hap i j h1 h2 hxy
  · obtain ⟨h1, rfl⟩ := pi_W_in hk
    exact hA k h1
theorem pi_shape : ∀ i, i < pi_N → pi_sk i < 11 → pi_sn i = (pi_cl (pi_sk i)).2.2 ∧ vwCl[pi_sk i]? = some (pi_cl (pi_sk i)) := by
  have h : ∀ i, i < pi_N → (Nat.ble 11 (pi_sk i) || (Nat.beq (pi_sn i) (pi_cl (pi_sk i)).2.2 && Nat.blt (pi_sk i) 11)) = true := by decide +kernel
  intro i hi hs
  have h1 := h i hi
  rw [show Nat.ble 11 (pi_sk i) = false by
    cases hx : Nat.ble 11 (pi_sk i)
    · rfl
    · exact absurd (Nat.le_of_ble_eq_true hx) (by omega)] at h1
  simp only [Bool.false_or, Bool.and_eq_true] at h1
  refine ⟨Nat.eq_of_beq_eq_true h1.1, ?_⟩
  have hl : pi_sk i < vwCl.length := hs
  rw [pi_cl, List.getD_eq_getElem?_getD, List.getElem?_eq_getElem hl]; rfl
theorem pi_up_self (σ : pi_S) (i k : Nat) (x : Int32) : pi_up σ i k x i = upd (σ i) k x := if_pos rfl
theorem pi_up_ne (σ : pi_S) {i j : Nat} (k : Nat) (x : Int32) (h : j ≠ i) : pi_up σ i k x j = σ j := if_neg h
theorem pi_fields_set {ad : Nat → Nat} {σ : pi_S} {a v : Nat} {x : Int32} (hv : v < pi_sn a) (hr : pi_rf a v = 0) : ((List.range (pi_sn a)).map fun k => pi_den ad (pi_fv σ a k)).set v (.int x) = (List.range (pi_sn a)).map fun k => pi_den ad (pi_fv (pi_up σ a v x) a k) := by
  apply List.ext_getElem?
  intro j
  by_cases hj : j < pi_sn a
  · rw [List.getElem?_map, List.getElem?_range hj]
    by_cases hjv : j = v
    · subst hjv
      rw [List.getElem?_set_self (by simpa using hj)]
      simp [pi_fv, hr, pi_den, pi_up, upd]
    · rw [List.getElem?_set_ne (Ne.symm hjv), List.getElem?_map, List.getElem?_range hj]
      simp only [Option.map_some]
      congr 1
      unfold pi_fv
      cases pi_rf a j <;> simp [pi_den, pi_up, upd, hjv]
  · rw [List.getElem?_eq_none (by simp; omega), List.getElem?_eq_none (by simp; omega)]
/-! the locals -/
def pi_LR (ad : Nat → Nat) (nL : Nat) (l : pi_L) (ls : Array Slot) : Prop := ls.size = nL ∧ lv_wf ls ∧ ∀ (i : Nat) (v : Value), l[i]? = some (some v) → ls[i]? = some (Slot.val (pi_den ad v))
def pi_al (ad : Nat → Nat) (l : pi_L) : List (Nat × Value) := (List.range l.length).filterMap fun i => match l[i]? with
  | some (some v) => some (i, pi_den ad v)
  | _ => none
theorem pi_al_of {ad : Nat → Nat} {l : pi_L} {i : Nat} {v : Value} (h : l[i]? = some (some v)) : (i, pi_den ad v) ∈ pi_al ad l := by
  refine List.mem_filterMap.mpr ⟨i, List.mem_range.mpr (List.getElem?_eq_some_iff.mp h).1, ?_⟩
  rw [h]
theorem pi_al_to {ad : Nat → Nat} {l : pi_L} {q : Nat × Value} (h : q ∈ pi_al ad l) : ∃ v, l[q.1]? = some (some v) ∧ q.2 = pi_den ad v := by
  obtain ⟨i, -, hi⟩ := List.mem_filterMap.mp h
  split at hi
  · rename_i v hv
    cases hi
    exact ⟨v, hv, rfl⟩
  · cases hi
theorem pi_LR.has {ad : Nat → Nat} {nL : Nat} {l : pi_L} {ls : Array Slot} (h : pi_LR ad nL l ls) : lv_has ls nL (pi_al ad l) := by
  refine ⟨h.1, h.2.1, fun q hq => ?_⟩
  obtain ⟨v, h1, h2⟩ := pi_al_to hq
  rw [h2]
  exact h.2.2 _ _ h1
theorem pi_den_cat (ad : Nat → Nat) (v : Value) : (pi_den ad v).category = v.category := by cases v <;> rfl
theorem pi_kill_get {l : pi_L} {i j : Nat} {w : Value} (h : (pi_kill l i)[j]? = some (some w)) : l[j]? = some (some w) ∧ ¬ (j + 1 = i ∧ w.category = 2) := by
  cases i with
  | zero => exact ⟨h, fun q => by omega⟩
  | succ k =>
    unfold pi_kill at h
    cases hx : pi_long l[k]? with
    | false =>
      simp only [hx, cond_false] at h
      refine ⟨h, fun q => ?_⟩
      have hjk : j = k := by omega
      subst hjk
      rw [h] at hx
      have : Nat.beq w.category 2 = false := hx
      rw [q.2] at this
      cases this
    | true =>
      simp only [hx, cond_true] at h
      by_cases hjk : j = k
      · subst hjk
        rw [List.getElem?_set] at h
        simp only [if_true] at h
        split at h <;> cases h
      · rw [List.getElem?_set_ne (Ne.symm hjk)] at h
        exact ⟨h, fun q => hjk (by omega)⟩
theorem pi_set_get {l : pi_L} {i j : Nat} {v w : Value} (h : (l.set i (some v))[j]? = some (some w)) : (j = i ∧ w = v) ∨ (j ≠ i ∧ l[j]? = some (some w)) := by
  by_cases hj : j = i
  · subst hj
    rw [List.getElem?_set] at h
    simp only [if_true] at h
    split at h
    · cases h; exact Or.inl ⟨rfl, rfl⟩
    · cases h
  · rw [List.getElem?_set_ne (Ne.symm hj)] at h
    exact Or.inr ⟨hj, h⟩
theorem pi_st1_ok {ad : Nat → Nat} {nL i : Nat} {l : pi_L} {ls : Array Slot} {v : Value} (h : lv_has ls nL ((i, pi_den ad v) :: (pi_al ad l).filter (fun q => !(q.1 == i) && !(q.1 + 1 == i && q.2.category == 2)))) : pi_LR ad nL (pi_st1 l i v) ls := by
  refine ⟨h.1, h.2.1, fun j w hj => ?_⟩
  refine h.2.2 (j, pi_den ad w) ?_
  rcases pi_set_get hj with ⟨rfl, rfl⟩ | ⟨hne, hj⟩
  · exact List.mem_cons_self
  · obtain ⟨h1, h2⟩ := pi_kill_get hj
    refine List.mem_cons_of_mem _ (List.mem_filter.mpr ⟨pi_al_of h1, ?_⟩)
    simp only [pi_den_cat, Bool.and_eq_true, Bool.not_eq_true', beq_eq_false_iff_ne, ne_eq, Bool.and_eq_false_iff]
    refine ⟨hne, ?_⟩
    by_cases hx : j + 1 = i
    · exact Or.inr fun q => h2 ⟨hx, q⟩
    · exact Or.inl hx
theorem pi_st2_ok {ad : Nat → Nat} {nL i : Nat} {l : pi_L} {ls : Array Slot} {v : Value} (h : lv_has ls nL ((i, pi_den ad v) :: (pi_al ad l).filter (fun q => !(q.1 == i) && (!(q.1 == i + 1) && !(q.1 + 1 == i && q.2.category == 2))))) : pi_LR ad nL (pi_st2 l i v) ls := by
  refine ⟨h.1, h.2.1, fun j w hj => ?_⟩
  refine h.2.2 (j, pi_den ad w) ?_
  have hj1 : j ≠ i + 1 := by
    intro q
    subst q
    unfold pi_st2 at hj
    rw [List.getElem?_set] at hj
    simp only [if_true] at hj
    split at hj <;> cases hj
  unfold pi_st2 at hj
  rw [List.getElem?_set_ne (Ne.symm hj1)] at hj
  rcases pi_set_get hj with ⟨rfl, rfl⟩ | ⟨hne, hj⟩
  · exact List.mem_cons_self
  · obtain ⟨h1, h2⟩ := pi_kill_get hj
    refine List.mem_cons_of_mem _ (List.mem_filter.mpr ⟨pi_al_of h1, ?_⟩)
    simp only [pi_den_cat, Bool.and_eq_true, Bool.not_eq_true', beq_eq_false_iff_ne, ne_eq, Bool.and_eq_false_iff]
    refine ⟨hne, hj1, ?_⟩
    by_cases hx : j + 1 = i
    · exact Or.inr fun q => h2 ⟨hx, q⟩
    · exact Or.inl hx
theorem pi_sl_len (ad : Nat → Nat) (As : List Value) : (lg_sl (As.map (pi_den ad))).length = (pi_sl As).length := by
  induction As with
  | nil => rfl
  | cons v As ih =>
    have e1 : lg_sl ((v :: As).map (pi_den ad)) = (if (pi_den ad v).category = 2 then [Slot.val (pi_den ad v), .second] else [.val (pi_den ad v)]) ++ lg_sl (As.map (pi_den ad)) := by
      simp [lg_sl]
    have e2 : pi_sl (v :: As) = (cond (Nat.beq v.category 2) [some v, none] [some v]) ++ pi_sl As := by simp [pi_sl]
    rw [e1, e2, List.length_append, List.length_append, ih, pi_den_cat]
    rcases lv_cat v with h | h <;> (rw [h]; rfl)
theorem pi_in_get (ad : Nat → Nat) (n : Nat) : ∀ (As : List Value) (k i : Nat) (v : Value), (pi_sl As ++ List.replicate n none)[i]? = some (some v) → (k + i, pi_den ad v) ∈ lv_args k (As.map (pi_den ad)) := by
  intro As
  induction As with
  | nil =>
    intro k i v h
    have h' := List.mem_of_getElem? h
    simp [pi_sl] at h'
  | cons a As ih =>
    intro k i v h
    have e2 : pi_sl (a :: As) = (cond (Nat.beq a.category 2) [some a, none] [some a]) ++ pi_sl As := by simp [pi_sl]
    rw [e2] at h
    show (k + i, pi_den ad v) ∈ (k, pi_den ad a) :: lv_args (if (pi_den ad a).category = 2 then k + 2 else k + 1) (As.map (pi_den ad))
    rw [pi_den_cat]
    rcases lv_cat a with hc | hc
    · rw [hc] at h ⊢
      match i, h with
      | 0, h => cases h; exact List.mem_cons_self
      | i + 1, h =>
        have h2 := ih (k + 1) i v h
        rw [show k + 1 + i = k + (i + 1) by omega] at h2
        exact List.mem_cons_of_mem _ h2
    · rw [hc] at h ⊢
      match i, h with
      | 0, h => cases h; exact List.mem_cons_self
      | 1, h => cases h
      | i + 2, h =>
        have h2 := ih (k + 2) i v h
        rw [show k + 2 + i = k + (i + 2) by omega] at h2
        exact List.mem_cons_of_mem _ h2
/-! the frame's surroundings, and a callee's contract -/
def pi_NW (U : State) : Prop := ∀ w ∈ pi_nest, va_Nw w U
theorem pi_NW.warm {s U : State} (hW : s.WarmedH U.vm) (h : pi_NW s) : pi_NW U := by
  have key : ∀ w ∈ pi_nest, ∃ (a : String) (i : Nat) (x : MethodName) (z : String), w = .methodLinkNest a i x z := by
    intro w hw
    simp only [pi_nest, List.mem_cons, List.not_mem_nil, or_false] at hw
    rcases hw with rfl | rfl | rfl | rfl | rfl | rfl <;> exact ⟨_, _, _, _, rfl⟩
  intro w hw
  obtain ⟨a, i, x, z, rfl⟩ := key w hw
  exact va_Nw.warmM hW (h _ hw)
theorem pi_NW.vm {u U : State} (e : u.vm = U.vm) (h : pi_NW u) : pi_NW U := by
  have key : ∀ w ∈ pi_nest, w.onTables = true := by decide +kernel
  intro w hw
  exact va_tabs (key w hw) e (h w hw)
theorem pi_lay (u : Nat) (hu : u < 11) : ∀ w ∈ u_ws (pi_cl u).1 (pi_cl u).2.1 (pi_cl u).2.2, w ∈ pi_TT := by
  have h : ∀ u, u < 11 → (u_ws (pi_cl u).1 (pi_cl u).2.1 (pi_cl u).2.2).all (fun w => decide (w ∈ pi_lw)) = true := by decide +kernel
  intro w hw
  exact pi_lw_inT (of_decide_eq_true (List.all_eq_true.mp (h u hu) w hw))
def pi_lty (u k : Nat) : FieldType := (parseFieldDescriptor ((pi_cl u).2.1 k).2.2.1).getD .int
theorem pi_lty_ok (u : Nat) (hu : u < 11) : ∀ k, k < (pi_cl u).2.2 → parseFieldDescriptor ((pi_cl u).2.1 k).2.2.1 = some (pi_lty u k) := by
  have h : ∀ u, u < 11 → ∀ k, k < (pi_cl u).2.2 → (parseFieldDescriptor ((pi_cl u).2.1 k).2.2.1).isSome = true := by decide +kernel
  intro k hk
  obtain ⟨t, ht⟩ := Option.isSome_iff_exists.mp (h u hu k hk)
  rw [pi_lty, ht]; rfl
theorem pi_lnm (u : Nat) (hu : u < 11) : ∀ a, a < (pi_cl u).2.2 → ∀ b, b < (pi_cl u).2.2 → a ≠ b → ((pi_cl u).2.1 a).2.1 ≠ ((pi_cl u).2.1 b).2.1 := by
  have h : ∀ u, u < 11 → ∀ a, a < (pi_cl u).2.2 → ∀ b, b < (pi_cl u).2.2 → a ≠ b → ((pi_cl u).2.1 a).2.1 ≠ ((pi_cl u).2.1 b).2.1 := by decide +kernel
  exact h u hu
theorem pi_w_mt : Cond.initialized "java/lang/Math" ∈ pi_TT := pi_sw_inT (by decide +kernel)
theorem pi_w_mx1 : Cond.static Lib.Math.max.name ∈ pi_TT := pi_sw_inT (by decide +kernel)
theorem pi_w_mx2 : Cond.code Lib.Math.max.name Lib.Math.max.code 2 (some .int) ∈ pi_TT := pi_sw_inT (by decide +kernel)
theorem pi_w_mn1 : Cond.static Lib.Math.min.name ∈ pi_TT := pi_sw_inT (by decide +kernel)
theorem pi_w_mn2 : Cond.code Lib.Math.min.name Lib.Math.min.code 2 (some .int) ∈ pi_TT := pi_sw_inT (by decide +kernel)
theorem pi_beq_f {a b : Nat} (h : ¬ a = b) : Nat.beq a b = false := by
  cases hx : Nat.beq a b
  · rfl
  · exact absurd (Nat.eq_of_beq_eq_true hx) h
theorem pi_w_nat : Cond.native arraycopyName ∈ pi_TT := pi_sw_inT (by decide +kernel)
theorem pi_w_sta : Cond.static arraycopyName ∈ pi_TT := pi_sw_inT (by decide +kernel)
theorem pi_w_ini : Cond.initialized "java/lang/System" ∈ pi_TT := pi_sw_inT (by decide +kernel)
theorem pi_fit_bool {x : Int32} (h : x &&& 1 = x) : fits .boolean (.int x) = true := by
  have h1 := fits_narrow_boolean x
  have e : narrow .boolean (.int x) = .int (x &&& 1) := rfl
  rw [e, h] at h1
  exact h1
def pi_rm (d : Nat) : Room := { frames := d + 1, cells := 0, slots := 0, locals := 80 * (d + 1) }
def pi_Cx (D : va_G) (cA : Nat → ClassId) (ad : Nat → Nat) (b L : Nat) (xs : Nat → Int32) (p : Program) (R : Room) (s : State) (m : MethodId) (args : Array Value) (c : Code) (A : Nat → Prop) (mm d cells slots : Nat) : Prop :=
  p.tables.exec = Jvm.exec ∧ c.code = (pi_mt mm).2.1 ∧ c.maxLocals = (pi_mt mm).2.2.1 ∧ s.vm.findClass (pi_mt mm).1.cls = some m.cls ∧ (∀ w ∈ pi_TT, w.before args s = true) ∧ va_K D vwCl (pi_ty cA) s ∧ va_X b L xs s s.heap ∧ b < s.heap.size ∧ ¬ A b ∧ (∀ i, i < pi_N → A (ad i)) ∧ d + 1 ≤ R.frames ∧ 80 * (d + 1) ≤ R.locals ∧ cells ≤ R.cells ∧ slots ≤ R.slots ∧ pi_NW s
def pi_Pc (D : va_G) (cA : Nat → ClassId) (ad : Nat → Nat) (b L : Nat) (xs : Nat → Int32) (As : List Value) (σ : pi_S) : Array Value → State → Prop := fun v U => v = (As.map (pi_den ad)).toArray ∧ va_P D vwCl (pi_W cA ad σ) U.heap ∧ va_K D vwCl (pi_ty cA) U ∧ va_X b L xs U U.heap ∧ b < U.heap.size ∧ pi_NW U
def pi_Qc (D : va_G) (cA : Nat → ClassId) (ad : Nat → Nat) (v : Option Value) (σ : pi_S) : Array Value → State → Outcome → State → Prop := fun _ st oc t => oc = .returned (v.map (pi_den ad)) ∧ va_P D vwCl (pi_W cA ad σ) t.heap ∧ va_F (pi_A ad) st t
theorem pi_blind {D : va_G} {cA : Nat → ClassId} {ad : Nat → Nat} {b L : Nat} {xs : Nat → Int32} {As : List Value} {σ : pi_S} : FrameBlind (pi_Pc D cA ad b L xs As σ) := by
  intro a U g mk ⟨h1, h2, h3, h4, h5, h6⟩
  exact ⟨h1, h2, va_K.moved (u := U) (U := U.calling g mk a) (Vm.Alike.refl U.vm) h3, va_X.moved (u := U) (U := U.calling g mk a) (Vm.Alike.refl U.vm) h4, h5, pi_NW.vm (u := U) rfl h6⟩
theorem pi_good {w : Cond} (h : w ∈ pi_TT) : w ∈ pi_TT ∧ ((w.onTables && w.keeps) = true ∨ ∃ ty, w = .arrayClass ty) := ⟨h, good_of_word (pi_TT_good w h)⟩
theorem pi_goodIn {ws : List Cond} (h : ∀ w ∈ ws, w ∈ pi_TT) : GoodIn pi_TT ws := fun w hw => pi_good (h w hw)
theorem pi_goes {p : Program} {l : Launch} {e : Env} {R : Room} {s : State} {m : MethodId} {args : Array Value} {below : List Frame} {meth : Method} {c : Code} {H : Heap} {locs : List Loc} {cells slots : Nat} {Q : State → Prop} {pc : Nat} {ls : Array Slot} {rest st0 : List Value} {a : Array Value}
    {D : va_G} {cA : Nat → ClassId} {ad : Nat → Nat} {v : Option Value} {σ : pi_S} {A : Nat → Prop} (hr : va_Run p l e R s m args below meth c H locs cells slots 0 0 (F0 m pc ls st0) rest (pi_Qc D cA ad v σ a) (pi_A ad)) (hS : va_S A s.heap H locs) (hA : ∀ i, i < pi_N → A (ad i))
    (kk : ∀ (H1 : Heap) (locs1 : List Loc), va_P D vwCl (pi_W cA ad σ) H1 → va_S A s.heap H1 locs1 → W p l e R s m args below meth c H1 locs1 cells slots Q (F0 m (pc + 3) ls ((v.map (pi_den ad)).toList ++ rest))) : W p l e R s m args below meth c H locs cells slots Q (F0 m pc ls st0) := by
  have hA' : ∀ q, pi_A ad q → A q := fun q ⟨i, hi, hq⟩ => by rw [hq]; exact hA i hi
  intro T hT X
  obtain ⟨v', st₀, t, T', L, h0, X', hL, e1, e2, ⟨hv, hp, hz, hk⟩, st⟩ := hr T hT X
  cases hv
  rw [h0] at hz hk
  obtain ⟨t2, a1, b1⟩ := kk T'.heap (locs ++ L) (by rw [e1]; exact hp)
    ⟨Nat.le_trans hS.1 (by rw [e1]; exact hz), fun q h1 h2 => by rw [e1, hk q (Nat.lt_of_lt_of_le h1 hS.1) (fun z => h2 (hA' q z))]; exact hS.2.1 q h1 h2, fun q hq => by
      rcases List.mem_append.mp hq with h | h
      · exact hS.2.2 q h
      · exact hA' _ (hL q h)⟩ T' rfl X'
  exact ⟨t2, st t2 a1, b1⟩
theorem pi_split {st : List Value} {v : Nat} (h : Nat.ble v st.length = true) (ad : Nat → Nat) : (((st.take v).reverse).map (pi_den ad)).length = v ∧ st.map (pi_den ad) = (((st.take v).reverse).map (pi_den ad)).reverse ++ (st.drop v).map (pi_den ad) := by
  have hv := Nat.le_of_ble_eq_true h
  refine ⟨by simp [Nat.min_eq_left hv], ?_⟩
  rw [← List.map_reverse, List.reverse_reverse, ← List.map_append, List.take_append_drop]
theorem pi_cat_le {st : List Value} (ad : Nat → Nat) (h : Nat.ble (pi_cat st) 8 = true) : ((st.map (pi_den ad)).map fun v => v.category).sum ≤ 8 := by
  have h1 := Nat.le_of_ble_eq_true h
  have e : (st.map (pi_den ad)).map (fun v => v.category) = st.map fun v => v.category := by
    rw [List.map_map]
    exact List.map_congr_left fun v _ => pi_den_cat ad v
  rw [e]; exact h1

set_option maxHeartbeats 4000000 in
set_option maxRecDepth 100000 in
theorem pi_step {l : Launch} {D : va_G} {cA : Nat → ClassId} {ad : Nat → Nat} {b L : Nat} {xs : Nat → Int32} {p : Program} {e : Env} {R : Room} {s : State} {m : MethodId} {args : Array Value} {below : List Frame} {meth : Method} {c : Code} {cells slots : Nat} {Q : State → Prop} {A : Nat → Prop} {mm d : Nat} {call : Nat → pi_L → pi_S → pi_O} {K : Nat → pi_L → List Value → pi_S → pi_O} {out : Option Value × pi_S}
    (hap : ∀ i j, i < pi_N → j < pi_N → ad i = ad j → i = j) (hb1 : ad 1000 = b)
    (C : pi_Cx D cA ad b L xs p R s m args c A mm d cells slots)
    (hcall : ∀ (m' : Nat) (As : List Value) (σ σ' : pi_S) (v : Option Value), call m' (pi_in0 m' As) σ = some (v, σ') → Nat.ble (pi_sl As).length (pi_ml m') = true → 0 < m' → m' < pi_M → ∃ d', d = d' + 1 ∧ Met l (pi_mt m').1 (Cond.code (pi_mt m').1 (pi_mt m').2.1 (pi_mt m').2.2.1 (pi_mt m').2.2.2 :: pi_TT) (pi_rm d') (pi_Pc D cA ad b L xs As σ) (pi_Qc D cA ad v σ') 0 0 (pi_A ad))
    (hmok : ∀ m', 0 < m' → m' < pi_M → pi_mOk m')
    (hK : ∀ (pc' : Nat) (l' : pi_L) (st' : List Value) (σ' : pi_S), K pc' l' st' σ' = some out → ∀ (H : Heap) (locs : List Loc) (ls : Array Slot), pi_LR ad (pi_mt mm).2.2.1 l' ls → va_P D vwCl (pi_W cA ad σ') H → va_S A s.heap H locs → W p l e R s m args below meth c H locs cells slots Q (F0 m pc' ls (st'.map (pi_den ad))))
    (hret : ∀ (r : pi_Row) (st : List Value) (σ : pi_S) (v : Option Value), pi_ok mm r → pi_ret r st = some v → out = (v, σ) → ∀ (H : Heap) (locs : List Loc) (ls : Array Slot), va_P D vwCl (pi_W cA ad σ) H → va_S A s.heap H locs → W p l e R s m args below meth c H locs cells slots Q (F0 m r.1 ls (st.map (pi_den ad))))
    {r : pi_Row} (ok : pi_ok mm r) {l0 : pi_L} {st : List Value} {σ : pi_S} (h : pi_stp xs L call K r l0 st σ = some out) {H : Heap} {locs : List Loc} {ls : Array Slot} (hl : pi_LR ad (pi_mt mm).2.2.1 l0 ls) (hP : va_P D vwCl (pi_W cA ad σ) H) (hS : va_S A s.heap H locs) :
    W p l e R s m args below meth c H locs cells slots Q (F0 m r.1 ls (st.map (pi_den ad))) := by
  obtain ⟨hx, hb, hml, hown, hts, hKK, hX, hbl, hbA, hAd, hfr, hlo, hce, hsl, hNW⟩ := C
  obtain ⟨pc, n, u, v, w, i⟩ := r
  have hret' := hret (pc, n, u, v, w, i) st σ
  obtain ⟨hd, hq⟩ := id ok
  cases i with
  | iconst z =>
    try simp only [pi_stp] at h
    obtain ⟨hd, hn⟩ := hd
    subst hn
    exact lv_iconst hx hb hd rfl (hK _ _ _ _ h _ _ _ hl hP hS)
  | bipush z =>
    try simp only [pi_stp] at h
    obtain ⟨hd, hn⟩ := hd
    subst hn
    exact lv_bipush hx hb hd hq (hK _ _ _ _ h _ _ _ hl hP hS)
  | sipush z =>
    try simp only [pi_stp] at h
    obtain ⟨hd, hn⟩ := hd
    subst hn
    exact lv_sipush hx hb hd hq (hK _ _ _ _ h _ _ _ hl hP hS)
  | lconst z =>
    try simp only [pi_stp] at h
    obtain ⟨hd, hn⟩ := hd
    subst hn
    exact lv_lconst hx hb hd rfl (hK _ _ _ _ h _ _ _ hl hP hS)
  | ldc_w z =>
    try simp only [pi_stp] at h
    obtain ⟨hd, hn⟩ := hd
    subst hn
    exact lv_ldcw hx hb hown (hts _ (pi_wl_in hq)) hd (hK _ _ _ _ h _ _ _ hl hP hS)
  | ldc2_w z =>
    try simp only [pi_stp] at h
    obtain ⟨hd, hn⟩ := hd
    subst hn
    exact lv_ldc2 hx hb hown (hts _ (pi_wl_in hq)) hd (hK _ _ _ _ h _ _ _ hl hP hS)
  | iload_n k =>
    try simp only [pi_stp] at h
    obtain ⟨hd, hn⟩ := hd
    subst hn
    obtain ⟨x, hx1, h⟩ := pi_ldi_inv h
    exact lv_iload_n hx hb hd rfl (hl.2.2 _ _ hx1) (hK _ _ _ _ h _ _ _ hl hP hS)
  | iload k =>
    try simp only [pi_stp] at h
    obtain ⟨hd, hn⟩ := hd
    subst hn
    obtain ⟨x, hx1, h⟩ := pi_ldi_inv h
    exact lv_iload hx hb hd (hl.2.2 _ _ hx1) (hK _ _ _ _ h _ _ _ hl hP hS)
  | lload_n k =>
    try simp only [pi_stp] at h
    obtain ⟨hd, hn⟩ := hd
    subst hn
    obtain ⟨x, hx1, h⟩ := pi_ldl_inv h
    exact lv_lload_n hx hb hd rfl (hl.2.2 _ _ hx1) (hK _ _ _ _ h _ _ _ hl hP hS)
  | lload k =>
    try simp only [pi_stp] at h
    obtain ⟨hd, hn⟩ := hd
    subst hn
    obtain ⟨x, hx1, h⟩ := pi_ldl_inv h
    exact lv_lload hx hb hd (hl.2.2 _ _ hx1) (hK _ _ _ _ h _ _ _ hl hP hS)
  | aload_n k =>
    try simp only [pi_stp] at h
    obtain ⟨hd, hn⟩ := hd
    subst hn
    obtain ⟨x, hx1, h⟩ := pi_lda_inv h
    exact lv_aload_n hx hb hd rfl (hl.2.2 _ _ hx1) (hK _ _ _ _ h _ _ _ hl hP hS)
  | aload k =>
    try simp only [pi_stp] at h
    obtain ⟨hd, hn⟩ := hd
    subst hn
    obtain ⟨x, hx1, h⟩ := pi_lda_inv h
    exact lv_aload hx hb hd (hl.2.2 _ _ hx1) (hK _ _ _ _ h _ _ _ hl hP hS)
  | istore_n k =>
    try simp only [pi_stp] at h
    obtain ⟨hd, hn⟩ := hd
    subst hn
    replace h := pi_i1_inv h
    obtain ⟨x, t, rfl, h⟩ := h
    exact lv_istore_n hx hb hd rfl hl.has hq rfl (fun ls1 hl1 => hK _ _ _ _ h _ _ _ (pi_st1_ok hl1) hP hS)
  | istore k =>
    try simp only [pi_stp] at h
    obtain ⟨hd, hn⟩ := hd
    subst hn
    replace h := pi_i1_inv h
    obtain ⟨x, t, rfl, h⟩ := h
    exact lv_istore hx hb hd hl.has hq rfl (fun ls1 hl1 => hK _ _ _ _ h _ _ _ (pi_st1_ok hl1) hP hS)
  | lstore_n k =>
    try simp only [pi_stp] at h
    obtain ⟨hd, hn⟩ := hd
    subst hn
    replace h := pi_l1_inv h
    obtain ⟨x, t, rfl, h⟩ := h
    exact lv_lstore_n hx hb hd rfl hl.has hq rfl (fun ls1 hl1 => hK _ _ _ _ h _ _ _ (pi_st2_ok hl1) hP hS)
  | lstore k =>
    try simp only [pi_stp] at h
    obtain ⟨hd, hn⟩ := hd
    subst hn
    replace h := pi_l1_inv h
    obtain ⟨x, t, rfl, h⟩ := h
    exact lv_lstore hx hb hd hl.has hq rfl (fun ls1 hl1 => hK _ _ _ _ h _ _ _ (pi_st2_ok hl1) hP hS)
  | astore_n k =>
    try simp only [pi_stp] at h
    obtain ⟨hd, hn⟩ := hd
    subst hn
    replace h := pi_a1_inv h
    obtain ⟨x, t, rfl, h⟩ := h
    exact lv_astore_n hx hb hd rfl hl.has hq rfl (fun ls1 hl1 => hK _ _ _ _ h _ _ _ (pi_st1_ok hl1) hP hS)
  | astore k =>
    try simp only [pi_stp] at h
    obtain ⟨hd, hn⟩ := hd
    subst hn
    replace h := pi_a1_inv h
    obtain ⟨x, t, rfl, h⟩ := h
    exact lv_astore hx hb hd hl.has hq rfl (fun ls1 hl1 => hK _ _ _ _ h _ _ _ (pi_st1_ok hl1) hP hS)
  | iinc k z =>
    try simp only [pi_stp] at h
    obtain ⟨hd, hn⟩ := hd
    subst hn
    obtain ⟨hk, hz⟩ := hq
    obtain ⟨x, hx1, h⟩ := pi_ldi_inv h
    obtain ⟨j, hj⟩ := List.getElem?_of_mem (pi_al_of (ad := ad) hx1)
    cases hw : Nat.beq w 0 with
    | true =>
      rw [hw, cond_true] at h
      rw [if_pos (Nat.eq_of_beq_eq_true hw)] at hz
      exact lv_iinc (v := x + nI u) hx hb hd hl.has hj (by rw [hz]) hk rfl (fun ls1 hl1 => hK _ _ _ _ h _ _ _ (pi_st1_ok (v := .int _) hl1) hP hS)
    | false =>
      rw [hw, cond_false] at h
      rw [if_neg (fun q => by rw [q] at hw; cases hw)] at hz
      exact lv_iinc (v := x - nI u) hx hb hd hl.has hj (by rw [hz, Int32.sub_eq_add_neg]) hk rfl (fun ls1 hl1 => hK _ _ _ _ h _ _ _ (pi_st1_ok (v := .int _) hl1) hP hS)
  | iadd =>
    try simp only [pi_stp] at h
    obtain ⟨hd, hn⟩ := hd
    subst hn
    replace h := pi_i2_inv h
    obtain ⟨x, y, t, rfl, h⟩ := h
    exact lv_iadd hx hb hd (hK _ _ _ _ h _ _ _ hl hP hS)
  | isub =>
    try simp only [pi_stp] at h
    obtain ⟨hd, hn⟩ := hd
    subst hn
    replace h := pi_i2_inv h
    obtain ⟨x, y, t, rfl, h⟩ := h
    exact lv_isub hx hb hd (hK _ _ _ _ h _ _ _ hl hP hS)
  | imul =>
    try simp only [pi_stp] at h
    obtain ⟨hd, hn⟩ := hd
    subst hn
    replace h := pi_i2_inv h
    obtain ⟨x, y, t, rfl, h⟩ := h
    exact lv_imul hx hb hd (hK _ _ _ _ h _ _ _ hl hP hS)
  | iand =>
    try simp only [pi_stp] at h
    obtain ⟨hd, hn⟩ := hd
    subst hn
    replace h := pi_i2_inv h
    obtain ⟨x, y, t, rfl, h⟩ := h
    exact lv_iand hx hb hd (hK _ _ _ _ h _ _ _ hl hP hS)
  | ior =>
    try simp only [pi_stp] at h
    obtain ⟨hd, hn⟩ := hd
    subst hn
    replace h := pi_i2_inv h
    obtain ⟨x, y, t, rfl, h⟩ := h
    exact lv_ior hx hb hd (hK _ _ _ _ h _ _ _ hl hP hS)
  | ixor =>
    try simp only [pi_stp] at h
    obtain ⟨hd, hn⟩ := hd
    subst hn
    replace h := pi_i2_inv h
    obtain ⟨x, y, t, rfl, h⟩ := h
    exact lv_ixor hx hb hd (hK _ _ _ _ h _ _ _ hl hP hS)
  | ishl =>
    try simp only [pi_stp] at h
    obtain ⟨hd, hn⟩ := hd
    subst hn
    replace h := pi_i2_inv h
    obtain ⟨x, y, t, rfl, h⟩ := h
    exact lv_ishl hx hb hd (hK _ _ _ _ h _ _ _ hl hP hS)
  | ishr =>
    try simp only [pi_stp] at h
    obtain ⟨hd, hn⟩ := hd
    subst hn
    replace h := pi_i2_inv h
    obtain ⟨x, y, t, rfl, h⟩ := h
    exact lv_ishr hx hb hd (hK _ _ _ _ h _ _ _ hl hP hS)
  | iushr =>
    try simp only [pi_stp] at h
    obtain ⟨hd, hn⟩ := hd
    subst hn
    replace h := pi_i2_inv h
    obtain ⟨x, y, t, rfl, h⟩ := h
    exact lv_iushr hx hb hd rfl (hK _ _ _ _ h _ _ _ hl hP hS)
  | idiv =>
    try simp only [pi_stp] at h
    obtain ⟨hd, hn⟩ := hd
    subst hn
    replace h := pi_i2_inv h
    obtain ⟨x, y, t, rfl, h⟩ := h
    obtain ⟨hy, h⟩ := pi_ite_inv' h
    exact lv_idiv hx hb hd hy (hK _ _ _ _ h _ _ _ hl hP hS)
  | irem =>
    try simp only [pi_stp] at h
    obtain ⟨hd, hn⟩ := hd
    subst hn
    replace h := pi_i2_inv h
    obtain ⟨x, y, t, rfl, h⟩ := h
    obtain ⟨hy, h⟩ := pi_ite_inv' h
    exact lv_irem hx hb hd hy (hK _ _ _ _ h _ _ _ hl hP hS)
  | ladd =>
    try simp only [pi_stp] at h
    obtain ⟨hd, hn⟩ := hd
    subst hn
    replace h := pi_l2_inv h
    obtain ⟨x, y, t, rfl, h⟩ := h
    exact lv_ladd hx hb hd (hK _ _ _ _ h _ _ _ hl hP hS)
  | lsub =>
    try simp only [pi_stp] at h
    obtain ⟨hd, hn⟩ := hd
    subst hn
    replace h := pi_l2_inv h
    obtain ⟨x, y, t, rfl, h⟩ := h
    exact lv_lsub hx hb hd (hK _ _ _ _ h _ _ _ hl hP hS)
  | lmul =>
    try simp only [pi_stp] at h
    obtain ⟨hd, hn⟩ := hd
    subst hn
    replace h := pi_l2_inv h
    obtain ⟨x, y, t, rfl, h⟩ := h
    exact lv_lmul hx hb hd (hK _ _ _ _ h _ _ _ hl hP hS)
  | ldiv =>
    try simp only [pi_stp] at h
    obtain ⟨hd, hn⟩ := hd
    subst hn
    replace h := pi_l2_inv h
    obtain ⟨x, y, t, rfl, h⟩ := h
    obtain ⟨hy, h⟩ := pi_ite_inv' h
    exact lv_ldiv hx hb hd hy (hK _ _ _ _ h _ _ _ hl hP hS)
  | lrem =>
    try simp only [pi_stp] at h
    obtain ⟨hd, hn⟩ := hd
    subst hn
    replace h := pi_l2_inv h
    obtain ⟨x, y, t, rfl, h⟩ := h
    obtain ⟨hy, h⟩ := pi_ite_inv' h
    exact lv_lrem hx hb hd hy (hK _ _ _ _ h _ _ _ hl hP hS)
  | lcmp =>
    try simp only [pi_stp] at h
    obtain ⟨hd, hn⟩ := hd
    subst hn
    replace h := pi_l2_inv h
    obtain ⟨x, y, t, rfl, h⟩ := h
    exact W.lcmp hx hb hd (hK _ _ _ _ h _ _ _ hl hP hS)
  | i2l =>
    try simp only [pi_stp] at h
    obtain ⟨hd, hn⟩ := hd
    subst hn
    replace h := pi_i1_inv h
    obtain ⟨x, t, rfl, h⟩ := h
    exact lv_i2l hx hb hd rfl (hK _ _ _ _ h _ _ _ hl hP hS)
  | i2b =>
    try simp only [pi_stp] at h
    obtain ⟨hd, hn⟩ := hd
    subst hn
    replace h := pi_i1_inv h
    obtain ⟨x, t, rfl, h⟩ := h
    exact lv_i2b hx hb hd rfl (hK _ _ _ _ h _ _ _ hl hP hS)
  | i2s =>
    try simp only [pi_stp] at h
    obtain ⟨hd, hn⟩ := hd
    subst hn
    replace h := pi_i1_inv h
    obtain ⟨x, t, rfl, h⟩ := h
    exact lv_i2s hx hb hd rfl (hK _ _ _ _ h _ _ _ hl hP hS)
  | dup =>
    try simp only [pi_stp] at h
    obtain ⟨hd, hn⟩ := hd
    subst hn
    split at h
    · rename_i a t
      obtain ⟨ha, h⟩ := pi_cond_inv h
      exact lv_dup hx hb hd (by rw [pi_den_cat]; exact Nat.eq_of_beq_eq_true ha) (hK _ _ _ _ h _ _ _ hl hP hS)
    · cases h
  | dup2 =>
    try simp only [pi_stp] at h
    obtain ⟨hd, hn⟩ := hd
    subst hn
    split at h
    · rename_i a a' t
      obtain ⟨ha, h⟩ := pi_cond_inv h
      rw [Bool.and_eq_true] at ha
      exact lv_dup2_11 hx hb hd (by rw [pi_den_cat]; exact Nat.eq_of_beq_eq_true ha.1) (by rw [pi_den_cat]; exact Nat.eq_of_beq_eq_true ha.2) (hK _ _ _ _ h _ _ _ hl hP hS)
    · cases h
  | goto off =>
    try simp only [pi_stp] at h
    obtain ⟨hd, hn⟩ := hd
    subst hn
    exact lv_goto hx hb hd hq (hK _ _ _ _ h _ _ _ hl hP hS)
  | ifCond cd off =>
    try simp only [pi_stp] at h
    obtain ⟨hd, hn⟩ := hd
    subst hn
    replace h := pi_i1_inv h
    obtain ⟨x, t, rfl, h⟩ := h
    cases cd
    · exact lv_if_eq hx hb hd hq (fun q => hK _ _ _ _ (by simpa [pi_cd, q, pi_len] using h) _ _ _ hl hP hS) (fun q => hK _ _ _ _ (by simpa [pi_cd, q, pi_len] using h) _ _ _ hl hP hS)
    · exact lv_if_ne hx hb hd hq (fun q => hK _ _ _ _ (by simpa [pi_cd, q, pi_len] using h) _ _ _ hl hP hS) (fun q => hK _ _ _ _ (by simpa [pi_cd, q, pi_len] using h) _ _ _ hl hP hS)
    · exact lv_if_lt hx hb hd hq (fun q => hK _ _ _ _ (by simpa [pi_cd, q, pi_len] using h) _ _ _ hl hP hS) (fun q => hK _ _ _ _ (by simpa [pi_cd, q, pi_len] using h) _ _ _ hl hP hS)
    · exact lv_if_ge hx hb hd hq (fun q => hK _ _ _ _ (by simpa [pi_cd, q, pi_len] using h) _ _ _ hl hP hS) (fun q => hK _ _ _ _ (by simpa [pi_cd, q, pi_len] using h) _ _ _ hl hP hS)
    · exact lv_if_gt hx hb hd hq (fun q => hK _ _ _ _ (by simpa [pi_cd, q, pi_len] using h) _ _ _ hl hP hS) (fun q => hK _ _ _ _ (by simpa [pi_cd, q, pi_len] using h) _ _ _ hl hP hS)
    · exact lv_if_le hx hb hd hq (fun q => hK _ _ _ _ (by simpa [pi_cd, q, pi_len] using h) _ _ _ hl hP hS) (fun q => hK _ _ _ _ (by simpa [pi_cd, q, pi_len] using h) _ _ _ hl hP hS)
  | if_icmp cd off =>
    try simp only [pi_stp] at h
    obtain ⟨hd, hn⟩ := hd
    subst hn
    replace h := pi_i2_inv h
    obtain ⟨x, y, t, rfl, h⟩ := h
    cases cd
    · exact lv_icmp_eq hx hb hd hq (fun q => hK _ _ _ _ (by simpa [pi_cd, q, pi_len] using h) _ _ _ hl hP hS) (fun q => hK _ _ _ _ (by simpa [pi_cd, q, pi_len] using h) _ _ _ hl hP hS)
    · exact lv_icmp_ne hx hb hd hq (fun q => hK _ _ _ _ (by simpa [pi_cd, q, pi_len] using h) _ _ _ hl hP hS) (fun q => hK _ _ _ _ (by simpa [pi_cd, q, pi_len] using h) _ _ _ hl hP hS)
    · exact lv_icmp_lt hx hb hd hq (fun q => hK _ _ _ _ (by simpa [pi_cd, q, pi_len] using h) _ _ _ hl hP hS) (fun q => hK _ _ _ _ (by simpa [pi_cd, q, pi_len] using h) _ _ _ hl hP hS)
    · exact lv_icmp_ge hx hb hd hq (fun q => hK _ _ _ _ (by simpa [pi_cd, q, pi_len] using h) _ _ _ hl hP hS) (fun q => hK _ _ _ _ (by simpa [pi_cd, q, pi_len] using h) _ _ _ hl hP hS)
    · exact lv_icmp_gt hx hb hd hq (fun q => hK _ _ _ _ (by simpa [pi_cd, q, pi_len] using h) _ _ _ hl hP hS) (fun q => hK _ _ _ _ (by simpa [pi_cd, q, pi_len] using h) _ _ _ hl hP hS)
    · exact lv_icmp_le hx hb hd hq (fun q => hK _ _ _ _ (by simpa [pi_cd, q, pi_len] using h) _ _ _ hl hP hS) (fun q => hK _ _ _ _ (by simpa [pi_cd, q, pi_len] using h) _ _ _ hl hP hS)
  | tableswitch dflt lo hi offs =>
    try simp only [pi_stp] at h
    replace h := pi_i1_inv h
    obtain ⟨x, t, rfl, h⟩ := h
    by_cases hc : x.toInt < lo ∨ hi < x.toInt
    · rw [if_pos hc] at h
      obtain ⟨h0, h⟩ := pi_ite_inv h
      exact lv_tableOut hx hb hd hc (Int.toNat_of_nonneg h0).symm (hK _ _ _ _ h _ _ _ hl hP hS)
    · rw [if_neg hc] at h
      split at h
      · rename_i off ho
        obtain ⟨h0, h⟩ := pi_ite_inv h
        exact lv_tableIn hx hb hd (fun q => hc (Or.inl q)) (fun q => hc (Or.inr q)) ho (Int.toNat_of_nonneg h0).symm (hK _ _ _ _ h _ _ _ hl hP hS)
      · cases h
  | getfield idx =>
    try simp only [pi_stp] at h
    obtain ⟨hd, hn⟩ := hd
    subst hn
    replace h := pi_a1_inv h
    obtain ⟨a, t, rfl, h⟩ := h
    obtain ⟨hg, h⟩ := pi_cond_inv h
    rw [Bool.and_eq_true] at hg
    have hk : pi_sk a = u := Nat.eq_of_beq_eq_true hg.1
    have hv : v < pi_sn a := Nat.le_of_ble_eq_true hg.2
    have ha : a < pi_N := pi_sk_lt (by rw [hk]; omega)
    obtain ⟨hn, hc⟩ := pi_shape a ha (by rw [hk]; exact hq.1)
    rw [hk] at hn hc
    exact va_get (C := (pi_cl u).1) (T := (pi_cl u).2.1) (N := (pi_cl u).2.2) hx hb hts (pi_lay u hq.1) hown hKK hP a (by rw [pi_W_at cA ad σ ha, pi_E_obj hk hq.1]) hc v (by rw [← hn]; exact hv) (hts _ (pi_wl_in hq.2)) (fun _ q => q) (v := pi_den ad (pi_fv σ a v)) (by rw [List.getElem?_map, List.getElem?_range hv]; rfl) hd (hK _ _ _ _ h _ _ _ hl hP hS)
  | putfield idx =>
    try simp only [pi_stp] at h
    obtain ⟨hd, hn⟩ := hd
    subst hn
    replace h := pi_i1_inv h
    obtain ⟨x, t, rfl, h⟩ := h
    replace h := pi_a1_inv h
    obtain ⟨a, t, rfl, h⟩ := h
    obtain ⟨hg, h⟩ := pi_cond_inv h
    rw [Bool.and_eq_true, Bool.and_eq_true] at hg
    obtain ⟨hw, h⟩ := pi_b_inv h
    have hk : pi_sk a = u := Nat.eq_of_beq_eq_true hg.1.1
    have hv : v < pi_sn a := Nat.le_of_ble_eq_true hg.1.2
    have hrf : pi_rf a v = 0 := Nat.eq_of_beq_eq_true hg.2
    have ha : a < pi_N := pi_sk_lt (by rw [hk]; omega)
    obtain ⟨hn, hc⟩ := pi_shape a ha (by rw [hk]; exact hq.1)
    rw [hk] at hn hc
    obtain ⟨hu, hlink, hfin, hty⟩ := hq
    have hset : (pi_W cA ad σ).set a (ad a, .inr (u, ((List.range (pi_sn a)).map fun k => pi_den ad (pi_fv σ a k)).set v (.int x))) = pi_W cA ad (pi_up σ a v x) :=
      pi_W_set (by rw [pi_E_obj hk hu, pi_fields_set hv hrf]) (fun j hj => pi_up_ne σ v x hj)
    have fin : ∀ (ty : FieldType), parseFieldDescriptor ((pi_cl u).2.1 v).2.2.1 = some ty → narrow ty (.int x) = .int x → fits ty (.int x) = true → W p l e R s m args below meth c H locs cells slots Q (F0 m pc ls ((.int x :: .ref a :: t : List Value).map (pi_den ad))) := by
      intro ty h1 h2 h3
      refine va_put (C := (pi_cl u).1) (T := (pi_cl u).2.1) (N := (pi_cl u).2.2) hx hb hts (pi_lay u hu) (pi_lty u) (pi_lty_ok u hu) (pi_lnm u hu) hown hKK hP (pi_D σ hap hAd) hS a (by rw [pi_W_at cA ad σ ha, pi_E_obj hk hu]) hc v (by rw [← hn]; exact hv) (hts _ (pi_wl_in hlink)) (fun _ q => q) hfin (ty := ty) h1 h2 h3 (by simpa using hv) hd (fun H1 locs1 hP1 _ hS1 => ?_)
      have hP2 : va_P D vwCl ((pi_W cA ad σ).set a (ad a, .inr (u, ((List.range (pi_sn a)).map fun k => pi_den ad (pi_fv σ a k)).set v (.int x)))) H1 := hP1
      rw [hset] at hP2
      exact hK _ _ _ _ h _ _ _ hl hP2 hS1
    rcases hty with hty | ⟨hty, hw1⟩
    · exact fin .int (by rw [hty]; rfl) rfl rfl
    · have hx1 : x &&& 1 = x := by
        rcases hw with hw | hw
        · omega
        · exact hw
      exact fin .boolean (by rw [hty]; rfl) (by show Value.int (x &&& 1) = _; rw [hx1]) (pi_fit_bool hx1)
  | iaload =>
    try simp only [pi_stp] at h
    obtain ⟨hd, hn⟩ := hd
    subst hn
    replace h := pi_i1_inv h
    obtain ⟨j, t, rfl, h⟩ := h
    replace h := pi_a1_inv h
    obtain ⟨a, t, rfl, h⟩ := h
    cases ha0 : Nat.beq a 1000 with
    | true =>
      rw [ha0, cond_true] at h
      have ha : a = 1000 := Nat.eq_of_beq_eq_true ha0
      subst ha
      obtain ⟨hin, h⟩ := pi_ite_inv h
      show W p l e R s m args below meth c H locs cells slots Q (F0 m pc ls (.int j :: .ref (ad 1000) :: t.map (pi_den ad)))
      rw [hb1]
      exact va_sld hx hb hX hbl hbA hS hin hd (hK _ _ _ _ h _ _ _ hl hP hS)
    | false =>
      rw [ha0, cond_false] at h
      obtain ⟨hg, h⟩ := pi_cond_inv h
      obtain ⟨hin, h⟩ := pi_ite_inv h
      have hk : pi_sk a = 11 := Nat.eq_of_beq_eq_true hg
      have ha : a < pi_N := pi_sk_lt (by rw [hk]; omega)
      exact va_iald hx hb hKK hP a 0 (by rw [pi_W_at cA ad σ ha, pi_E_int hk]) rfl hin hd (hK _ _ _ _ h _ _ _ hl hP hS)
  | baload =>
    try simp only [pi_stp] at h
    obtain ⟨hd, hn⟩ := hd
    subst hn
    replace h := pi_i1_inv h
    obtain ⟨j, t, rfl, h⟩ := h
    replace h := pi_a1_inv h
    obtain ⟨a, t, rfl, h⟩ := h
    obtain ⟨hg, h⟩ := pi_cond_inv h
    obtain ⟨hin, h⟩ := pi_ite_inv h
    have hk : pi_sk a = 12 := Nat.eq_of_beq_eq_true hg
    have ha : a < pi_N := pi_sk_lt (by rw [hk]; omega)
    exact va_zald hx hb hKK hP a 1 (by rw [pi_W_at cA ad σ ha, pi_E_boo hk]) rfl hin hd (hK _ _ _ _ h _ _ _ hl hP hS)
  | aaload =>
    try simp only [pi_stp] at h
    obtain ⟨hd, hn⟩ := hd
    subst hn
    replace h := pi_i1_inv h
    obtain ⟨j, t, rfl, h⟩ := h
    replace h := pi_a1_inv h
    obtain ⟨a, t, rfl, h⟩ := h
    obtain ⟨hg, h⟩ := pi_cond_inv h
    obtain ⟨hin, h⟩ := pi_ite_inv h
    have hk : pi_sk a = 13 := Nat.eq_of_beq_eq_true hg
    have ha : a < pi_N := pi_sk_lt (by rw [hk]; omega)
    exact va_aldq (cA := cA 2) (n := pi_sn a) (f := fun j => some (ad (pi_rf a j - 1))) hx hb hKK hP a 2 (by rw [pi_W_at cA ad σ ha, pi_E_ref hk]) rfl hin hd (hK _ _ _ _ h _ _ _ hl hP hS)
  | arraylength =>
    try simp only [pi_stp] at h
    obtain ⟨hd, hn⟩ := hd
    subst hn
    replace h := pi_a1_inv h
    obtain ⟨a, t, rfl, h⟩ := h
    cases ha0 : Nat.beq a 1000 with
    | true =>
      rw [ha0, cond_true] at h
      have ha : a = 1000 := Nat.eq_of_beq_eq_true ha0
      subst ha
      show W p l e R s m args below meth c H locs cells slots Q (F0 m pc ls (.ref (ad 1000) :: t.map (pi_den ad)))
      rw [hb1]
      exact va_slen hx hb hX hbl hbA hS hd (hK _ _ _ _ h _ _ _ hl hP hS)
    | false =>
      rw [ha0, cond_false] at h
      obtain ⟨hg, h⟩ := pi_cond_inv h
      have hk : pi_sk a = 11 := Nat.eq_of_beq_eq_true hg
      have ha : a < pi_N := pi_sk_lt (by rw [hk]; omega)
      exact va_alen (cA := cA 0) (x := (pi_sn a, .inl (σ a))) hx hb hKK hP a 0 (by rw [pi_W_at cA ad σ ha, pi_E_int hk]) rfl rfl hd (hK _ _ _ _ h _ _ _ hl hP hS)
  | iastore =>
    try simp only [pi_stp] at h
    obtain ⟨hd, hn⟩ := hd
    subst hn
    replace h := pi_i1_inv h
    obtain ⟨x, t, rfl, h⟩ := h
    replace h := pi_i1_inv h
    obtain ⟨j, t, rfl, h⟩ := h
    replace h := pi_a1_inv h
    obtain ⟨a, t, rfl, h⟩ := h
    obtain ⟨hg, h⟩ := pi_cond_inv h
    obtain ⟨hin, h⟩ := pi_ite_inv h
    have hk : pi_sk a = 11 := Nat.eq_of_beq_eq_true hg
    have ha : a < pi_N := pi_sk_lt (by rw [hk]; omega)
    refine va_iast hx hb hKK hP (pi_D σ hap hAd) hS a 0 (by rw [pi_W_at cA ad σ ha, pi_E_int hk]) rfl hin hd (fun H1 locs1 hP1 _ hS1 => ?_)
    rw [pi_W_set (σ' := pi_up σ a j.toNatClampNeg x) (by rw [pi_E_int hk, pi_up_self]) (fun j' hj => pi_up_ne σ _ _ hj)] at hP1
    exact hK _ _ _ _ h _ _ _ hl hP1 hS1
  | bastore =>
    try simp only [pi_stp] at h
    obtain ⟨hd, hn⟩ := hd
    subst hn
    replace h := pi_i1_inv h
    obtain ⟨x, t, rfl, h⟩ := h
    replace h := pi_i1_inv h
    obtain ⟨j, t, rfl, h⟩ := h
    replace h := pi_a1_inv h
    obtain ⟨a, t, rfl, h⟩ := h
    obtain ⟨hg, h⟩ := pi_cond_inv h
    obtain ⟨hin, h⟩ := pi_ite_inv h
    have hk : pi_sk a = 12 := Nat.eq_of_beq_eq_true hg
    have ha : a < pi_N := pi_sk_lt (by rw [hk]; omega)
    refine va_zast hx hb hKK hP (pi_D σ hap hAd) hS a 1 (by rw [pi_W_at cA ad σ ha, pi_E_boo hk]) rfl hin hd (fun H1 locs1 hP1 _ hS1 => ?_)
    rw [pi_W_set (σ' := pi_up σ a j.toNatClampNeg (vp_nar .boolean x)) (by rw [pi_E_boo hk, pi_up_self]) (fun j' hj => pi_up_ne σ _ _ hj)] at hP1
    exact hK _ _ _ _ h _ _ _ hl hP1 hS1
  | invokevirtual idx =>
    try simp only [pi_stp] at h
    obtain ⟨hd, hn⟩ := hd
    subst hn
    obtain ⟨hv, h⟩ := pi_cond_inv h
    obtain ⟨a, t, ht, h⟩ := pi_a1_inv h
    obtain ⟨hg, h⟩ := pi_cond_inv h
    rw [Bool.and_eq_true, Bool.and_eq_true] at hg
    obtain ⟨x, σ1, hcl, h⟩ := pi_bk_inv h
    obtain ⟨hw, hwn, hna, hms, hlink, hu0, hu⟩ := hq
    have hk : pi_sk a = w := Nat.eq_of_beq_eq_true hg.1.1
    have ha : a < pi_N := pi_sk_lt (by rw [hk]; omega)
    obtain ⟨hn, hc⟩ := pi_shape a ha (by rw [hk]; exact hw)
    rw [hk] at hn hc
    obtain ⟨d', rfl, hM⟩ := hcall u _ σ σ1 x hcl hg.2 hu0 hu
    have hm1 := pi_code_in hu0 hu
    obtain ⟨hm2, hm3, hm4, hm5, hcok, -, hmi⟩ := hmok u hu0 hu
    obtain ⟨hin, hsel⟩ := hmi hms
    rw [← hna] at hcok
    obtain ⟨hsp1, hsp2⟩ := pi_split hv ad
    rw [ht] at hsp2
    have hcat := pi_cat_le ad hg.1.2
    refine pi_goes (va_runV (As := ((st.take v).reverse).map (pi_den ad)) (rest := t.map (pi_den ad)) (b := ad a) ⟨hx, hb, hml, hown, hts⟩ hM
      (cwV v hts (pi_goodIn (fun w' hw' => ?_)) rfl rfl rfl ⟨rfl, hcok⟩ ⟨?_, ?_⟩) ⟨pi_blind, ?_, fun U hU hW => ⟨by simp [pi_den], by rw [hU]; exact hP, va_K.moved hW.alike hKK, ?_, ?_, hNW.warm hW⟩⟩ rfl hsp1 hl.1 ?_ (lv_room hcat) hd ⟨hce, hsl⟩) hS hAd (fun H1 locs1 hP1 hS1 => ?_)
    · rcases List.mem_append.mp hw' with hw' | hw'
      · simp only [List.mem_cons, List.not_mem_nil, or_false] at hw'
        rcases hw' with rfl | rfl | rfl | rfl
        · exact pi_wl_in hlink
        · exact pi_wl_in hin
        · exact pi_wl_in hsel
        · exact pi_wl_in hm2
      · rcases List.mem_cons.mp hw' with rfl | hw'
        · exact hm1
        · exact hw'
    · show d' + 1 + 1 ≤ R.frames
      omega
    · show 8 + ((pi_mt u).2.2.1 + 11) + 80 * (d' + 1) ≤ R.locals
      rw [hm4]
      omega
    · obtain ⟨cell, g1, g2, g3⟩ := va_recv (q0 := a) hKK hP hc (by rw [pi_W_at cA ad σ ha, pi_E_obj hk hw])
      exact ⟨cell, g1, g2, by rw [← hwn]; exact g3⟩
    · rw [hU]; exact (va_X.moved hW.alike hX).kept (hS.2.1 b hbl hbA)
    · rw [hU]; exact Nat.lt_of_lt_of_le hbl hS.1
    · exact hsp2
    · have := hK _ _ _ _ h _ _ _ hl hP1 hS1
      cases x <;> exact this
  | invokestatic idx =>
    try simp only [pi_stp] at h
    obtain ⟨hd, hn⟩ := hd
    subst hn
    dsimp only at hq
    cases hw2 : Nat.beq w 2 with
    | true =>
      rw [hw2, cond_true] at h
      have hw : w = 2 := Nat.eq_of_beq_eq_true hw2
      rw [if_pos hw] at hq
      replace h := pi_i1_inv h
      obtain ⟨k, t, rfl, h⟩ := h
      replace h := pi_i1_inv h
      obtain ⟨j, t, rfl, h⟩ := h
      replace h := pi_a1_inv h
      obtain ⟨a1, t, rfl, h⟩ := h
      replace h := pi_i1_inv h
      obtain ⟨i, t, rfl, h⟩ := h
      replace h := pi_a1_inv h
      obtain ⟨a0, t, rfl, h⟩ := h
      obtain ⟨hg, h⟩ := pi_cond_inv h
      rw [Bool.and_eq_true, Bool.and_eq_true] at hg
      obtain ⟨⟨c1, c2, c3, c4, c5⟩, h⟩ := pi_ite_inv h
      have hk0 : pi_sk a0 = 11 := Nat.eq_of_beq_eq_true hg.1.1
      have hk1 : pi_sk a1 = 11 := Nat.eq_of_beq_eq_true hg.1.2
      have ha0 : a0 < pi_N := pi_sk_lt (by rw [hk0]; omega)
      have ha1 : a1 < pi_N := pi_sk_lt (by rw [hk1]; omega)
      have hcat := pi_cat_le ad hg.2
      refine va_copyi hx hb (by rw [hml]; exact hl.1.symm) hown (hts _ (pi_wl_in hq)) (hts _ pi_w_nat) (hts _ pi_w_sta) (hts _ pi_w_ini) hKK hP (pi_D σ hap hAd) hS a0 a1 0 0 (by rw [pi_W_at cA ad σ ha0, pi_E_int hk0]) (by rw [pi_W_at cA ad σ ha1, pi_E_int hk1]) rfl rfl rfl c1 c2 c3 c4 c5 (fun _ _ => rfl) (by omega) ?_ hd (fun H1 locs1 hP1 _ hS1 => ?_)
      · have hnw : nativeFrameWords "java/lang/System" "arraycopy" 5 + 11 ≤ 60 := by decide +kernel
        omega
      · rw [pi_W_set (σ' := pi_cpy σ a0 a1 i.toNatClampNeg j.toNatClampNeg k.toNatClampNeg) (by rw [pi_E_int hk1, pi_cpy, if_pos rfl]) (fun j' hj => if_neg hj)] at hP1
        exact hK _ _ _ _ h _ _ _ hl hP1 hS1
    | false =>
      rw [hw2, cond_false] at h
      have hw : ¬ w = 2 := fun q => by rw [q] at hw2; cases hw2
      rw [if_neg hw] at hq
      by_cases hw3 : w = 3
      · subst hw3
        replace h := pi_i2_inv h
        obtain ⟨x, y, t, rfl, h⟩ := h
        obtain ⟨hg, h⟩ := pi_cond_inv h
        have hcat := pi_cat_le ad hg
        exact va_mmax hx hb (by rw [hml]; exact hl.1.symm) hown (hts _ (pi_wl_in hq)) (hts _ pi_w_mx1) (hts _ pi_w_mt) (hts _ pi_w_mx2) (by omega) (by omega) hce hsl hd (hK _ _ _ _ h _ _ _ hl hP hS)
      rw [if_neg hw3] at hq
      by_cases hw4 : w = 4
      · subst hw4
        replace h := pi_i2_inv h
        obtain ⟨x, y, t, rfl, h⟩ := h
        obtain ⟨hg, h⟩ := pi_cond_inv h
        have hcat := pi_cat_le ad hg
        exact va_mmin hx hb (by rw [hml]; exact hl.1.symm) hown (hts _ (pi_wl_in hq)) (hts _ pi_w_mn1) (hts _ pi_w_mt) (hts _ pi_w_mn2) (by omega) (by omega) hce hsl hd (hK _ _ _ _ h _ _ _ hl hP hS)
      rw [if_neg hw4] at hq
      rw [show Nat.beq w 3 = false from pi_beq_f hw3, show Nat.beq w 4 = false from pi_beq_f hw4, cond_false, cond_false] at h
      obtain ⟨hg, h⟩ := pi_cond_inv h
      rw [Bool.and_eq_true, Bool.and_eq_true] at hg
      obtain ⟨x, σ1, hcl, h⟩ := pi_bk_inv h
      obtain ⟨hna, hms, hlink, hu0, hu⟩ := hq
      obtain ⟨d', rfl, hM⟩ := hcall u _ σ σ1 x hcl hg.2 hu0 hu
      have hm1 := pi_code_in hu0 hu
      obtain ⟨hm2, hm3, hm4, hm5, hcok, hmi, -⟩ := hmok u hu0 hu
      have hsta := hmi hms
      rw [← hna] at hcok
      obtain ⟨hsp1, hsp2⟩ := pi_split hg.1.1 ad
      have hcat := pi_cat_le ad hg.1.2
      have hG : GoodIn pi_TT (Cond.code (pi_mt u).1 (pi_mt u).2.1 (pi_mt u).2.2.1 (pi_mt u).2.2.2 :: pi_TT) := pi_goodIn (fun w' hw' => by
        rcases List.mem_cons.mp hw' with rfl | hw'
        · exact hm1
        · exact hw')
      have hRm : (pi_rm d').frames + 1 ≤ R.frames ∧ 8 + ((pi_mt u).2.2.1 + 11) + (pi_rm d').locals ≤ R.locals := by
        refine ⟨?_, ?_⟩
        · show d' + 1 + 1 ≤ R.frames
          omega
        · show 8 + ((pi_mt u).2.2.1 + 11) + 80 * (d' + 1) ≤ R.locals
          rw [hm4]
          omega
      have hPS : PreS s H (pi_Pc D cA ad b L xs (st.take v).reverse σ) (((st.take v).reverse).map (pi_den ad)) := ⟨pi_blind, fun U hU hW => ⟨rfl, by rw [hU]; exact hP, va_K.moved hW.alike hKK, by rw [hU]; exact (va_X.moved hW.alike hX).kept (hS.2.1 b hbl hbA), by rw [hU]; exact Nat.lt_of_lt_of_le hbl hS.1, hNW.warm hW⟩⟩
      have go : va_Run p l e R s m args below meth c H locs cells slots 0 0 (F0 m pc ls (st.map (pi_den ad))) ((st.drop v).map (pi_den ad)) (pi_Qc D cA ad x σ1 (((st.take v).reverse).map (pi_den ad)).toArray) (pi_A ad) := by
        by_cases hw1 : w = 1
        · rw [if_pos hw1] at hlink
          exact va_runSN (host := "SweptDownhill") ⟨hx, hb, hml, hown, hts⟩ hM ⟨va_cnB v hts hG rfl rfl rfl (hNW _ hlink) (hts _ (pi_wl_in hm2)) hcok hRm, hts _ (pi_wl_in hsta), trivial⟩ hPS rfl hsp1 hl.1 hsp2 (lv_room hcat) hd ⟨hce, hsl⟩
        · rw [if_neg hw1] at hlink
          exact va_runS ⟨hx, hb, hml, hown, hts⟩ hM ⟨callB_of v hts hG rfl rfl rfl (hts _ (pi_wl_in hm2)) (hts _ (pi_wl_in hlink)) hcok hRm, hts _ (pi_wl_in hsta)⟩ hPS rfl hsp1 hl.1 hsp2 (lv_room hcat) hd ⟨hce, hsl⟩
      refine pi_goes go hS hAd (fun H1 locs1 hP1 hS1 => ?_)
      have := hK _ _ _ _ h _ _ _ hl hP1 hS1
      cases x <;> simpa [pi_len] using this
  | ireturn =>
    try simp only [pi_stp] at h
    split at h
    · rename_i x
      obtain ⟨hu, h⟩ := pi_b_inv h
      cases h
      exact hret' _ ok (by simp only [pi_ret]; exact pi_b_of hu) rfl _ _ _ hP hS
    · cases h
  | lreturn =>
    try simp only [pi_stp] at h
    split at h
    · cases h
      exact hret' _ ok rfl rfl _ _ _ hP hS
    · cases h
  | areturn =>
    try simp only [pi_stp] at h
    split at h
    · cases h
      exact hret' _ ok rfl rfl _ _ _ hP hS
    · cases h
  | return_ =>
    try simp only [pi_stp] at h
    split at h
    · cases h
      exact hret' _ ok rfl rfl _ _ _ hP hS
    · cases h
  | _ => simp [pi_stp] at h
set_option maxHeartbeats 4000000 in
set_option maxRecDepth 100000 in
/-- a return -/
theorem pi_end {l : Launch} {D : va_G} {cA : Nat → ClassId} {ad : Nat → Nat} {p : Program} {e : Env} {R : Room} {s : State} {m : MethodId} {args : Array Value} {below : List Frame} {meth : Method} {c : Code} {mm : Nat} {r : pi_Row} {st : List Value} {σ : pi_S} {v : Option Value} {H : Heap} {locs : List Loc} {ls : Array Slot}
    (hx : p.tables.exec = Jvm.exec) (hb : c.code = (pi_mt mm).2.1) (hr : meth.sig.returnType = (pi_mt mm).2.2.2) (hlk : meth.locks = false) (ok : pi_ok mm r) (hrv : pi_ret r st = some v) (hP : va_P D vwCl (pi_W cA ad σ) H) (hS : va_S (pi_A ad) s.heap H locs) :
    W p l e R s m args below meth c H locs 0 0 (MQ below (pi_Qc D cA ad v σ) args s 0 0 (pi_A ad)) (F0 m r.1 ls (st.map (pi_den ad))) := by
  have hq : ∀ t : State, t.heap = H → s.WarmedH t.vm → pi_Qc D cA ad v σ args s (.returned (v.map (pi_den ad))) t := fun t ht _ => ⟨rfl, by rw [ht]; exact hP, hS.F ht⟩
  obtain ⟨pc, n, u, w1, w2, i⟩ := r
  obtain ⟨hd, hk⟩ := id ok
  cases i with
  | ireturn =>
    obtain ⟨hd, -⟩ := hd
    match st, hrv with
    | [.int x], hrv =>
      obtain ⟨hu, hv⟩ := pi_b_inv (show cond (Nat.beq u 0) (some (some (Value.int x))) (if x &&& 1 = x then some (some (Value.int x)) else none) = some v from hrv)
      cases hv
      rcases hk with hk | ⟨hk, hu1⟩
      · exact W.iret hx hb (hr.trans hk) hq hS.2.2 hd hlk
      · have hx1 : x &&& 1 = x := by
          rcases hu with hu | hu
          · omega
          · exact hu
        exact W.zret hx hb (hr.trans hk) (by show Value.int (x &&& 1) = _; rw [hx1]) hq hS.2.2 hd hlk
  | lreturn =>
    obtain ⟨hd, -⟩ := hd
    match st, hrv with
    | [.long x], hrv =>
      cases hrv
      exact W.lret hx hb (hr.trans hk) hq hS.2.2 hd hlk
  | areturn =>
    obtain ⟨hd, -⟩ := hd
    match st, hrv with
    | [.ref x], hrv =>
      cases hrv
      obtain ⟨n, hk⟩ := hk
      exact W.aret hx hb (hr.trans hk) (Or.inl ⟨n, rfl⟩) (Or.inr ⟨_, rfl⟩) hq hS.2.2 hd hlk
  | return_ =>
    obtain ⟨hd, -⟩ := hd
    match st, hrv with
    | [], hrv =>
      cases hrv
      exact W.vret hx hb (hr.trans hk) hq hS.2.2 hd hlk
  | _ => simp [pi_ret] at hrv
set_option maxHeartbeats 4000000 in
set_option maxRecDepth 100000 in
/-- what the pure machine comes to, the machine comes to -/
theorem pi_sound {l : Launch} {D : va_G} {cA : Nat → ClassId} {ad : Nat → Nat} {b L : Nat} {xs : Nat → Int32} (hap : ∀ i j, i < pi_N → j < pi_N → ad i = ad j → i = j) (hb1 : ad 1000 = b) (hbn : ¬ pi_A ad b) :
    ∀ (f d mm pc : Nat) (l0 : pi_L) (st : List Value) (σ : pi_S) (out : Option Value × pi_S), pi_run xs L f d mm pc l0 st σ = some out →
    ∀ {p : Program} {e : Env} {R : Room} {s : State} {m : MethodId} {args : Array Value} {below : List Frame} {meth : Method} {c : Code} {cells slots : Nat} {Q : State → Prop} {A : Nat → Prop},
    pi_Cx D cA ad b L xs p R s m args c A mm d cells slots →
    (∀ (r : pi_Row) (st : List Value) (σ : pi_S) (v : Option Value), pi_ok mm r → pi_ret r st = some v → out = (v, σ) → ∀ (H : Heap) (locs : List Loc) (ls : Array Slot), va_P D vwCl (pi_W cA ad σ) H → va_S A s.heap H locs → W p l e R s m args below meth c H locs cells slots Q (F0 m r.1 ls (st.map (pi_den ad)))) →
    ∀ {H : Heap} {locs : List Loc} {ls : Array Slot}, pi_LR ad (pi_mt mm).2.2.1 l0 ls → va_P D vwCl (pi_W cA ad σ) H → va_S A s.heap H locs →
    W p l e R s m args below meth c H locs cells slots Q (F0 m pc ls (st.map (pi_den ad))) := by
  intro f
  induction f with
  | zero => intro d mm pc l0 st σ out h; cases h
  | succ f ih =>
    intro d mm pc l0 st σ out h p e R s m args below meth c cells slots Q A C hret H locs ls hl hP hS
    simp only [pi_run] at h
    cases hr : pi_tb mm pc with
    | none => rw [hr] at h; cases h
    | some r =>
      rw [hr] at h
      obtain ⟨hpc, ok⟩ := pi_tb_ok hr
      subst hpc
      refine pi_step hap hb1 C ?_ pi_m_ok (fun pc' l' st' σ' hk H locs ls q1 q2 q3 => ih _ _ _ _ _ _ _ hk C hret q1 q2 q3) hret ok h hl hP hS
      intro m' As σ1 σ2 v hcl hsl hm0 hm
      cases d with
      | zero => cases hcl
      | succ d' =>
        refine ⟨d', rfl, ?_⟩
        obtain ⟨hm2, hm3, hm4, hm5, hcok, -, -⟩ := pi_m_ok m' hm0 hm
        refine Met.ofW (cc := (pi_mt m').2.1) (maxL := (pi_mt m').2.2.1) (ret := (pi_mt m').2.2.2) hm3 rfl ?_
        intro p e s m args below meth c s₁ B hml hv
        obtain ⟨rfl, hP1, hK1, hX1, hbl1, hNW1⟩ := hv
        have hts := atoms_spec (ws := Cond.code (pi_mt m').1 (pi_mt m').2.1 (pi_mt m').2.2.1 (pi_mt m').2.2.2 :: pi_TT) B.pre
        have hown := findClass_of_methodNamed B.named
        rw [lg_entry_eq]
        have hls := lv_entry (As.map (pi_den ad)) (n := (pi_mt m').2.2.1) (by rw [pi_sl_len, hm4]; exact Nat.le_of_ble_eq_true hsl)
        generalize (lg_sl (As.map (pi_den ad)) ++ List.replicate ((pi_mt m').2.2.1 - (lg_sl (As.map (pi_den ad))).length) Slot.unset).toArray = ls1 at hls ⊢
        refine ih d' m' 0 _ [] σ1 (v, σ2) hcl (A := pi_A ad) ⟨B.exec, B.bytes, hml, hown, fun w hw => hts w (List.mem_cons_of_mem _ hw), hK1, hX1, hbl1, hbn, fun i hi => ⟨i, hi, rfl⟩, Nat.le_refl _, Nat.le_refl _, Nat.zero_le _, Nat.zero_le _, hNW1⟩ ?_ ⟨hls.1, hls.2.1, fun i w hw => ?_⟩ hP1 va_S.rf
        · intro r st σ v' hok hrv hout H locs ls hP2 hS2
          cases hout
          exact pi_end B.exec B.bytes B.returns B.notSynchronized hok hrv hP2 hS2
        · have h1 := pi_in_get ad (pi_ml m' - (pi_sl As).length) As 0 i w hw
          rw [Nat.zero_add] at h1
          exact hls.2.2 _ h1
