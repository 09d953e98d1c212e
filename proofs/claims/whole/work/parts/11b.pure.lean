/-! what the texts say -/
/-- the figure at a place of a text of n bytes -/
def z_fg (n : Nat) (f : Nat → Int32) (k : Nat) : Int32 := if k < n then (if nI 0 ≤ f k - nI 48 ∧ f k - nI 48 ≤ nI 9 then f k - nI 48 else -1) else -1
/-- doors: how many, and the fault -/
def z_dr (n : Nat) (f : Nat → Int32) (nd : Nat) (flt : Int32) : Prop := (∃ k, k < n ∧ (∀ j, j < k → z_fg n f j ≠ -1) ∧ z_fg n f k = -1 ∧ flt = nI k ∧ nd = 0) ∨ ((∀ j, j < n → z_fg n f j ≠ -1) ∧ flt = -1 ∧ nd = n)
theorem z_dr_at {n : Nat} {f : Nat → Int32} {nd : Nat} {flt : Int32} (h : z_dr n f nd flt) {i : Nat} (hi : i < n) (h1 : ∀ j, j < i → z_fg n f j ≠ -1) (h2 : z_fg n f i = -1) : nd = 0 ∧ flt = nI i := by
  rcases h with ⟨k, hk, a, b, c, e⟩ | ⟨a, -, -⟩
  · have hki : k = i := by
      rcases Nat.lt_trichotomy k i with q | q | q
      · exact absurd b (h1 k q)
      · exact q
      · exact absurd h2 (a i q)
    subst hki
    exact ⟨e, c⟩
  · exact absurd h2 (a i hi)
theorem z_dr_all {n : Nat} {f : Nat → Int32} {nd : Nat} {flt : Int32} (h : z_dr n f nd flt) (h1 : ∀ j, j < n → z_fg n f j ≠ -1) : nd = n ∧ flt = -1 := by
  rcases h with ⟨k, hk, a, b, c, e⟩ | ⟨-, b, c⟩
  · exact absurd b (h1 k hk)
  · exact ⟨c, b⟩
theorem z_dr_ex (n : Nat) (f : Nat → Int32) : ∃ nd flt, z_dr n f nd flt := by
  by_cases h : ∃ k, k < n ∧ z_fg n f k = -1
  · obtain ⟨k, ⟨hk, hf⟩, hm⟩ := pk_least (fun k => k < n ∧ z_fg n f k = -1) h
    exact ⟨0, nI k, Or.inl ⟨k, hk, fun j hj q => hm j hj ⟨by omega, q⟩, hf, rfl, rfl⟩⟩
  · exact ⟨n, -1, Or.inr ⟨fun j hj q => h ⟨j, hj, q⟩, rfl, rfl⟩⟩
/-- streets -/
def z_sA (n : Nat) (f : Nat → Int32) (nd j : Nat) : Prop := ∃ a, a < nd ∧ z_fg n f (3 * j) = nI a
def z_sB (n : Nat) (f h : Nat → Int32) (nd j : Nat) : Prop := ∃ a b, a < nd ∧ b < nd ∧ z_fg n f (3 * j) = nI a ∧ z_fg n f (3 * j + 1) = nI b ∧ h b < h a
def z_sC (n : Nat) (f h : Nat → Int32) (nd j : Nat) : Prop := z_sB n f h nd j ∧ 3 * j + 2 ≠ n ∧ f (3 * j + 2) = nI 59
def z_sE (n : Nat) (f h : Nat → Int32) (nd J ns : Nat) (flt : Int32) : Prop := ((J = 12 ∨ ¬ z_sA n f nd J) ∧ flt = nI (3 * J) ∧ ns = 0) ∨ (J < 12 ∧ z_sA n f nd J ∧ ¬ z_sB n f h nd J ∧ flt = nI (3 * J + 1) ∧ ns = 0) ∨ (J < 12 ∧ z_sB n f h nd J ∧ 3 * J + 2 = n ∧ flt = -1 ∧ ns = J + 1) ∨ (J < 12 ∧ z_sB n f h nd J ∧ 3 * J + 2 ≠ n ∧ f (3 * J + 2) ≠ nI 59 ∧ flt = nI (3 * J + 2) ∧ ns = 0)
def z_sr (n : Nat) (f h : Nat → Int32) (nd ns : Nat) (flt : Int32) : Prop := (n = 0 ∧ flt = -1 ∧ ns = 0) ∨ (0 < n ∧ ∃ J, J ≤ 12 ∧ (∀ j, j < J → z_sC n f h nd j) ∧ z_sE n f h nd J ns flt)
theorem z_sBA {n : Nat} {f h : Nat → Int32} {nd j : Nat} (q : z_sB n f h nd j) : z_sA n f nd j := by
  obtain ⟨a, b, h1, -, h3, -⟩ := q
  exact ⟨a, h1, h3⟩
theorem z_sE_not {n : Nat} {f h : Nat → Int32} {nd J ns : Nat} {flt : Int32} (hJ : J < 12) (hE : z_sE n f h nd J ns flt) (hC : z_sC n f h nd J) : False := by
  obtain ⟨c1, c2, c3⟩ := hC
  rcases hE with ⟨h1, -⟩ | ⟨-, -, h1, -⟩ | ⟨-, -, h1, -⟩ | ⟨-, -, -, h1, -⟩
  · rcases h1 with h1 | h1
    · omega
    · exact h1 (z_sBA c1)
  · exact h1 c1
  · exact c2 h1
  · exact h1 c3
theorem z_sr_at {n : Nat} {f h : Nat → Int32} {nd ns : Nat} {flt : Int32} (hz : z_sr n f h nd ns flt) (hn : 0 < n) {J : Nat} (hJ : J ≤ 12) (hp : ∀ j, j < J → z_sC n f h nd j) {ns' : Nat} {flt' : Int32} (hE : z_sE n f h nd J ns' flt') : ns = ns' ∧ flt = flt' := by
  rcases hz with ⟨h0, -⟩ | ⟨-, K, hK, hp2, hE2⟩
  · omega
  · have hKJ : K = J := by
      rcases Nat.lt_trichotomy K J with q | q | q
      · exact (z_sE_not (by omega) hE2 (hp K q)).elim
      · exact q
      · exact (z_sE_not (by omega) hE (hp2 J q)).elim
    subst hKJ
    rcases hE with ⟨a1, a2, a3⟩ | ⟨a0, a1, a2, a3, a4⟩ | ⟨a0, a1, a2, a3, a4⟩ | ⟨a0, a1, a2, a3, a4, a5⟩ <;> rcases hE2 with ⟨b1, b2, b3⟩ | ⟨b0, b1, b2, b3, b4⟩ | ⟨b0, b1, b2, b3, b4⟩ | ⟨b0, b1, b2, b3, b4, b5⟩ <;>
      first
      | exact ⟨b3.trans a3.symm, b2.trans a2.symm⟩
      | exact ⟨b4.trans a4.symm, b3.trans a3.symm⟩
      | exact ⟨b5.trans a5.symm, b4.trans a4.symm⟩
      | (exfalso; rcases a1 with a1 | a1 <;> first | omega | exact a1 b1 | exact a1 (z_sBA b1))
      | (exfalso; rcases b1 with b1 | b1 <;> first | omega | exact b1 a1 | exact b1 (z_sBA a1))
      | exact absurd b1 a2
      | exact absurd a1 b2
      | exact absurd a2 b2
      | exact absurd b2 a2
theorem z_sr_ex (n : Nat) (f h : Nat → Int32) (nd : Nat) : ∃ ns flt, z_sr n f h nd ns flt := by
  by_cases hn : n = 0
  · exact ⟨0, -1, Or.inl ⟨hn, rfl, rfl⟩⟩
  · obtain ⟨J, hJ, hm⟩ := pk_least (fun j => 12 ≤ j ∨ ¬ z_sC n f h nd j) ⟨12, Or.inl (Nat.le_refl 12)⟩
    have hp : ∀ j, j < J → z_sC n f h nd j := fun j hj => Classical.byContradiction fun q => hm j hj (Or.inr q)
    have hJ12 : J ≤ 12 := by
      rcases Nat.lt_or_ge 12 J with q | q
      · exact (hm 12 q (Or.inl (Nat.le_refl 12))).elim
      · exact q
    have go : ∀ ns flt, z_sE n f h nd J ns flt → ∃ ns flt, z_sr n f h nd ns flt := fun ns flt q => ⟨ns, flt, Or.inr ⟨by omega, J, hJ12, hp, q⟩⟩
    by_cases h12 : J = 12
    · exact go 0 (nI (3 * J)) (Or.inl ⟨Or.inl h12, rfl, rfl⟩)
    by_cases hA : z_sA n f nd J
    · by_cases hB : z_sB n f h nd J
      · by_cases hc : 3 * J + 2 = n
        · exact go (J + 1) (-1) (Or.inr (Or.inr (Or.inl ⟨by omega, hB, hc, rfl, rfl⟩)))
        · by_cases hs : f (3 * J + 2) = nI 59
          · rcases hJ with q | q
            · omega
            · exact (q ⟨hB, hc, hs⟩).elim
          · exact go 0 (nI (3 * J + 2)) (Or.inr (Or.inr (Or.inr ⟨by omega, hB, hc, hs, rfl, rfl⟩)))
      · exact go 0 (nI (3 * J + 1)) (Or.inr (Or.inl ⟨by omega, hA, hB, rfl, rfl⟩))
    · exact go 0 (nI (3 * J)) (Or.inl ⟨Or.inr hA, rfl, rfl⟩)
theorem z_fg_cases (n : Nat) (f : Nat → Int32) (k : Nat) : z_fg n f k = -1 ∨ ∃ a, a < 10 ∧ z_fg n f k = nI a := by
  unfold z_fg
  split
  · split
    · rename_i h
      obtain ⟨j, hj, e⟩ := nI_of2 (x := f k - nI 48) (M := nI 9) (n := 9) rfl (fun q => Int32.not_lt.mpr h.1 q) h.2
      exact Or.inr ⟨j, by omega, e⟩
    · exact Or.inl rfl
  · exact Or.inl rfl
