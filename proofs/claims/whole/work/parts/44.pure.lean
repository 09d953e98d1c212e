theorem z_MR.fr {W : zW} {s σ : pi_S} (h : z_MR W σ) (hr : pi_fr z_CC s σ) : z_MR W s := z_MR.mk
  (wk := h.wk)
  (n0 := (congrFun (hr 57 (by decide)) 0).trans h.n0)
  (n1 := (congrFun (hr 57 (by decide)) 1).trans h.n1)
  (tx := (hr 58 (by decide)).trans h.tx)
  (rt := (hr 62 (by decide)).trans h.rt)
  (hd := (hr 63 (by decide)).trans h.hd)
  (pr := (hr 64 (by decide)).trans h.pr)
  (nine := (congrFun (hr 56 (by decide)) 10).trans h.nine)
  (nf := (congrFun (hr 56 (by decide)) 11).trans h.nf)
  (fa := fun i hi => by
    rw [hr 65 (by decide), hr 66 (by decide), hr 67 (by decide), hr 68 (by decide)]
    exact h.fa i hi)
  (nw := (congrFun (hr 56 (by decide)) 16).trans h.nw)
  (sw := fun i hi => by
    rw [hr 69 (by decide), hr 70 (by decide)]
    exact h.sw i hi)
  (nc := (congrFun (hr 56 (by decide)) 19).trans h.nc)
  (ca := fun i hi => by
    rw [hr 71 (by decide), hr 72 (by decide)]
    exact h.ca i hi)
  (rn := (hr 73 (by decide)).trans h.rn)
  (th := fun k hk => (congrFun (hr 77 (by decide)) k).trans (h.th k hk))
  (fo := fun k hk => (congrFun (hr 78 (by decide)) k).trans (h.fo k hk))
  (si := fun k hk => (congrFun (hr 79 (by decide)) k).trans (h.si k hk))
  (it := (hr 80 (by decide)).trans h.it)
  (fi := (congrFun (hr 56 (by decide)) 34).trans h.fi)
  (j4 := fun k hk => (congrFun (hr 74 (by decide)) k).trans (h.j4 k hk))
  (j5 := fun k hk => (congrFun (hr 75 (by decide)) k).trans (h.j5 k hk))
theorem z_CP.ofR {W : zW} {s σ : pi_S} (h : z_CP W σ) (hr : pi_fr [56, 57, 58, 59, 60, 61, 62, 63, 64, 65, 66, 67, 68, 69, 70, 71, 72, 73, 74, 75, 76, 77, 78, 79, 80, 81] s σ) : z_CP W s := z_CP.mk
  (wk := h.wk)
  (fi := (congrFun (hr 0 (by decide)) 7).trans h.fi)
  (m0 := (congrFun (hr 2 (by decide)) 1).trans h.m0)
  (n0 := (congrFun (hr 2 (by decide)) 2).trans h.n0)
  (m1 := (congrFun (hr 4 (by decide)) 1).trans h.m1)
  (n1 := (congrFun (hr 4 (by decide)) 2).trans h.n1)
  (t0 := fun k hk1 => by
    rw [hr 3 (by decide)]
    exact h.t0 k hk1)
  (t1 := fun k hk1 => by
    rw [hr 5 (by decide)]
    exact h.t1 k hk1)
  (nine := (congrFun (hr 12 (by decide)) 3).trans h.nine)
  (rt := fun k hk1 => by
    rw [hr 13 (by decide)]
    exact h.rt k hk1)
  (hd := fun k hk1 => by
    rw [hr 14 (by decide)]
    exact h.hd k hk1)
  (pr := fun k hk1 => by
    rw [hr 15 (by decide)]
    exact h.pr k hk1)
  (mf := (congrFun (hr 17 (by decide)) 4).trans h.mf)
  (nf := (congrFun (hr 17 (by decide)) 5).trans h.nf)
  (fa := fun i hk1 => by
    rw [hr 18 (by decide), hr 19 (by decide), hr 20 (by decide), hr 21 (by decide)]
    exact h.fa i hk1)
  (mw := (congrFun (hr 22 (by decide)) 4).trans h.mw)
  (nw := (congrFun (hr 22 (by decide)) 5).trans h.nw)
  (sw := fun i hk1 => by
    rw [hr 23 (by decide), hr 24 (by decide)]
    exact h.sw i hk1)
  (mc := (congrFun (hr 27 (by decide)) 4).trans h.mc)
  (nc := (congrFun (hr 27 (by decide)) 5).trans h.nc)
  (ca := fun i hk1 => by
    rw [hr 28 (by decide), hr 29 (by decide)]
    exact h.ca i hk1)
  (rn := fun k hk1 => by
    rw [hr 32 (by decide)]
    exact h.rn k hk1)
  (sf0 := (congrFun (hr 48 (by decide)) 1).trans h.sf0)
  (ss0 := (congrFun (hr 48 (by decide)) 2).trans h.ss0)
  (si0 := fun j hk1 => by
    rw [hr 49 (by decide)]
    exact h.si0 j hk1)
  (sf1 := (congrFun (hr 50 (by decide)) 1).trans h.sf1)
  (ss1 := (congrFun (hr 50 (by decide)) 2).trans h.ss1)
  (si1 := fun j hk1 => by
    rw [hr 51 (by decide)]
    exact h.si1 j hk1)
  (sf2 := (congrFun (hr 52 (by decide)) 1).trans h.sf2)
  (ss2 := (congrFun (hr 52 (by decide)) 2).trans h.ss2)
  (si2 := fun j hk1 => by
    rw [hr 53 (by decide)]
    exact h.si2 j hk1)
  (sf3 := (congrFun (hr 54 (by decide)) 1).trans h.sf3)
  (ss3 := (congrFun (hr 54 (by decide)) 2).trans h.ss3)
  (si3 := fun j hk1 => by
    rw [hr 55 (by decide)]
    exact h.si3 j hk1)
theorem z_CT.ofR {W : zW} {s σ : pi_S} (h : z_CT W σ) (hr : pi_fr [56, 57, 58, 59, 60, 61, 62, 63, 64, 65, 66, 67, 68, 69, 70, 71, 72, 73, 74, 75, 76, 77, 78, 79, 80, 81] s σ) : z_CT W s := z_CT.mk
  (d := (congrFun (hr 1 (by decide)) 8).trans h.d)
  (st := (congrFun (hr 1 (by decide)) 9).trans h.st)
  (f0 := (congrFun (hr 1 (by decide)) 10).trans h.f0)
  (f1 := (congrFun (hr 1 (by decide)) 11).trans h.f1)
  (hh := fun k hk1 => by
    rw [hr 6 (by decide)]
    exact h.hh k hk1)
  (ul := fun k hk1 => by
    rw [hr 7 (by decide), hr 8 (by decide)]
    exact h.ul k hk1)
  (dd := fun i hk1 => by
    rw [hr 9 (by decide)]
    exact h.dd i hk1)
  (sd := fun i hk1 => by
    rw [hr 10 (by decide)]
    exact h.sd i hk1)
  (fs := fun i hk1 => by
    rw [hr 11 (by decide)]
    exact h.fs i hk1)
theorem z_CR.fr {W : zW} {s σ : pi_S} (h : z_CR W σ) (hr : pi_fr z_RC s σ) : z_CR W s := z_CR.mk (z_CK.mk (h.k.p.ofR hr) (h.k.t.ofR hr)) ((hr 35 (by decide)).trans h.b) ((hr 36 (by decide)).trans h.y) ((congrFun (hr 33 (by decide)) 4).trans h.a) (fun k hk => (congrFun (hr 39 (by decide)) k).trans (h.jc k hk)) (fun k hk => (congrFun (hr 40 (by decide)) k).trans (h.jd k hk))
/-- both sides stand alike -/
def z_J (W : zW) (σ : pi_S) : Prop := z_CR W σ ∧ z_MR W σ ∧ W.nf ≤ 20
/-- a call on both sides: the same answer, and they stand alike behind it -/
def z_Z {α : Type} (f : α → Value) (W : zW) (σ : pi_S) (mc mr : Nat) (lc lr : pi_L) : Prop := ∃ (W' : zW) (v : α), W'.nf ≤ 20 ∧ (∀ xs L d, pi_wp xs L (d + 11) mc 0 lc [] σ (fun r s => r = some (f v) ∧ z_CR W' s ∧ pi_fr z_CC s σ)) ∧ ∀ xs L d τ, z_MR W τ → pi_wp xs L (d + 11) mr 0 lr [] τ (fun r s => r = some (f v) ∧ z_MR W' s ∧ pi_fr z_RC s τ)
theorem z_Zq {α : Type} {f : α → Value} {W : zW} {σ : pi_S} {mc mr : Nat} {lc lr : pi_L} (hn : W.nf ≤ 20) (v : α) (h1 : ∀ xs L d, pi_wp xs L (d + 11) mc 0 lc [] σ (fun r s => r = some (f v) ∧ z_CR W s ∧ pi_fr z_CJ s σ)) (h2 : ∀ xs L d τ, z_MR W τ → pi_wp xs L (d + 11) mr 0 lr [] τ (fun r s => r = some (f v) ∧ z_MR W s ∧ pi_fr z_RC s τ)) : z_Z f W σ mc mr lc lr :=
  ⟨W, v, hn, fun xs L d => pi_mo (fun r s q => ⟨q.1, q.2.1, pi_fr_tr q.2.2 (by decide) pi_fr_rf⟩) (h1 xs L d), h2⟩
theorem z_Zc {α : Type} {f : α → Value} {W : zW} {σ : pi_S} {mc mr : Nat} {lc lr : pi_L} (W' : zW) (hn : W'.nf ≤ 20) (v : α) (h1 : ∀ xs L d, pi_wp xs L (d + 11) mc 0 lc [] σ (fun r s => r = some (f v) ∧ z_CR W' s ∧ pi_fr z_CC s σ)) (h2 : ∀ xs L d τ, z_MR W τ → pi_wp xs L (d + 11) mr 0 lr [] τ (fun r s => r = some (f v) ∧ z_MR W' s ∧ pi_fr z_RC s τ)) : z_Z f W σ mc mr lc lr :=
  ⟨W', v, hn, h1, h2⟩
/-- what texts say can be said -/
theorem z_wd_ex (X : zW) (h0 : X.n0 ≤ 8) (h1 : X.n1 ≤ 40) : ∃ V, z_wd (X.der V) := by
  obtain ⟨nd, f0, hdr⟩ := z_dr_ex X.n0 (fun k => X.tx (0 + k))
  obtain ⟨ns, f1, hsr⟩ := z_sr_ex X.n1 (fun k => X.tx (40 + k)) (fun k => z_fg X.n0 (fun k => X.tx (0 + k)) k) nd
  have hnd : nd ≤ 8 := Nat.le_trans (z_dr_le hdr) h0
  refine ⟨(fun i => if i = 6 then nd else ns, fun i => if i = 6 then (fun k => (z_fg X.n1 (fun k => X.tx (40 + k)) (3 * k)).toNatClampNeg) else fun k => (z_fg X.n1 (fun k => X.tx (40 + k)) (3 * k + 1)).toNatClampNeg, fun _ k => z_fg X.n0 (fun k => X.tx (0 + k)) k, fun i => if i = 1 then f0 else f1), ?_⟩
  refine z_wd.mk h0 h1 hdr (fun k => rfl) hsr ?_
  intro k hk
  have hk2 : k < ns := hk
  obtain ⟨a, b, ha, hb, ea, eb, hh⟩ := (z_sr_le hsr).2 k hk2
  have ua : (z_fg X.n1 (fun k => X.tx (40 + k)) (3 * k)).toNatClampNeg = a := by rw [ea]; exact nI_clamp (by omega)
  have ub : (z_fg X.n1 (fun k => X.tx (40 + k)) (3 * k + 1)).toNatClampNeg = b := by rw [eb]; exact nI_clamp (by omega)
  show z_fg X.n1 (fun k => X.tx (40 + k)) (3 * k) = nI (z_fg X.n1 (fun k => X.tx (40 + k)) (3 * k)).toNatClampNeg ∧ z_fg X.n1 (fun k => X.tx (40 + k)) (3 * k + 1) = nI (z_fg X.n1 (fun k => X.tx (40 + k)) (3 * k + 1)).toNatClampNeg ∧ (z_fg X.n1 (fun k => X.tx (40 + k)) (3 * k)).toNatClampNeg < nd ∧ (z_fg X.n1 (fun k => X.tx (40 + k)) (3 * k + 1)).toNatClampNeg < nd ∧ z_fg X.n0 (fun k => X.tx (0 + k)) (z_fg X.n1 (fun k => X.tx (40 + k)) (3 * k + 1)).toNatClampNeg < z_fg X.n0 (fun k => X.tx (0 + k)) (z_fg X.n1 (fun k => X.tx (40 + k)) (3 * k)).toNatClampNeg
  rw [ua, ub]
  exact ⟨ea, eb, ha, hb, hh⟩
theorem z_rs_ex {W : zW} (k : Nat) : ∃ n, z_rs W k n := by
  obtain ⟨n, hn, hm⟩ := pk_least (fun n => n = 8 ∨ n = W.si k ∨ ¬ z_B 100 (W.it (48 * k + n))) ⟨8, Or.inl rfl⟩
  refine ⟨n, ?_, ?_, fun j hj => Classical.byContradiction fun q => hm j hj (Or.inr (Or.inr q)), hn⟩
  · rcases Nat.lt_or_ge 8 n with q | q
    · exact (hm 8 q (Or.inl rfl)).elim
    · exact q
  · rcases Nat.lt_or_ge (W.si k) n with q | q
    · exact (hm _ q (Or.inr (Or.inl rfl))).elim
    · exact q
theorem z_min_ex (a b : Nat) : ∃ N, N ≤ a ∧ N ≤ b ∧ (N = a ∨ N = b) := by
  rcases Nat.lt_or_ge a b with q | q
  · exact ⟨a, Nat.le_refl _, by omega, Or.inl rfl⟩
  · exact ⟨b, q, Nat.le_refl _, Or.inr rfl⟩
theorem z_i48 {c : Int32} (h1 : c ≤ nI 48) (h2 : ¬ c < 0) : ∃ n, n ≤ 48 ∧ c = nI n := by
  obtain ⟨n, hn, rfl⟩ := z_nnI h2
  exact ⟨n, (nI_leI (by omega) (by omega)).mp h1, rfl⟩
theorem z_bad_l : Int64.ofNat 9223372036854775808 - Int32.toInt64 (-2) = Int64.ofNat 9223372036854775810 := by decide
