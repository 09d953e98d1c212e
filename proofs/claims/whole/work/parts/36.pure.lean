/-! the class's cells behind a change -/
theorem z_upd_at {f : Nat → Int32} {g : Nat → Int32} {n N k : Nat} {x : Int32} (h : ∀ j, j < n → f j = g j) (hN : N ≤ n + 1) (hk : N ≤ n ∨ k = n) : ∀ j, j < N → upd f k x j = upd g k x j := by
  intro j hj
  by_cases q : j = k
  · rw [q, z_upd_s, z_upd_s]
  · rw [z_upd_n _ _ q, z_upd_n _ _ q, h j (by omega)]
theorem z_CP.ty0 {W : zW} {s σ : pi_S} (h : z_CP W σ) {V : zW} {x : Int32} (hw : z_wd (((W.sN 0 (W.n0 + 1)).sI 0 (upd W.tx (0 + W.n0) x)).der V)) (em : s 2 1 = σ 2 1) (e2 : s 2 2 = nI (W.n0 + 1)) (e3 : s 3 = upd (σ 3) W.n0 x) (hr : pi_fr [2, 3] s σ) : z_CP (((W.sN 0 (W.n0 + 1)).sI 0 (upd W.tx (0 + W.n0) x)).der V) s := z_CP.mk
  (wk := h.wk.ty0 hw)
  (fi := (congrFun (hr 0 (by decide)) 7).trans h.fi)
  (m0 := em.trans h.m0)
  (n0 := e2)
  (m1 := (congrFun (hr 4 (by decide)) 1).trans h.m1)
  (n1 := (congrFun (hr 4 (by decide)) 2).trans h.n1)
  (t0 := fun k hk1 => by
    have hk2 : k < W.n0 + 1 := hk1
    show s 3 k = upd W.tx (0 + W.n0) x (0 + k)
    rw [e3]
    by_cases q : k = W.n0
    · rw [q, z_upd_s, z_upd_s]
    · rw [z_upd_n _ _ q, z_upd_n _ _ (by omega)]
      exact h.t0 k (by omega))
  (t1 := fun k hk1 => by
    have h8 := h.wk.wd.n0
    have hk2 : k < W.n1 := hk1
    show s 5 k = upd W.tx (0 + W.n0) x (40 + k)
    rw [hr 5 (by decide), z_upd_n _ _ (by omega)]
    exact h.t1 k hk1)
  (nine := (congrFun (hr 12 (by decide)) 3).trans h.nine)
  (rt := fun k hk1 => by
    rw [hr 13 (by decide)]
    exact h.rt k hk1)
  (hd := fun k hk1 => by
    rw [hr 14 (by decide)]
    exact h.hd k hk1)
  (pr := fun k hk1 => by
    rw [hr 15 (by decide)]
    exact h.pr k hk1)
  (mf := (congrFun (hr 17 (by decide)) 4).trans h.mf)
  (nf := (congrFun (hr 17 (by decide)) 5).trans h.nf)
  (fa := fun i hk1 => by
    rw [hr 18 (by decide), hr 19 (by decide), hr 20 (by decide), hr 21 (by decide)]
    exact h.fa i hk1)
  (mw := (congrFun (hr 22 (by decide)) 4).trans h.mw)
  (nw := (congrFun (hr 22 (by decide)) 5).trans h.nw)
  (sw := fun i hk1 => by
    rw [hr 23 (by decide), hr 24 (by decide)]
    exact h.sw i hk1)
  (mc := (congrFun (hr 27 (by decide)) 4).trans h.mc)
  (nc := (congrFun (hr 27 (by decide)) 5).trans h.nc)
  (ca := fun i hk1 => by
    rw [hr 28 (by decide), hr 29 (by decide)]
    exact h.ca i hk1)
  (rn := fun k hk1 => by
    rw [hr 32 (by decide)]
    exact h.rn k hk1)
  (sf0 := (congrFun (hr 48 (by decide)) 1).trans h.sf0)
  (ss0 := (congrFun (hr 48 (by decide)) 2).trans h.ss0)
  (si0 := fun j hk1 => by
    rw [hr 49 (by decide)]
    exact h.si0 j hk1)
  (sf1 := (congrFun (hr 50 (by decide)) 1).trans h.sf1)
  (ss1 := (congrFun (hr 50 (by decide)) 2).trans h.ss1)
  (si1 := fun j hk1 => by
    rw [hr 51 (by decide)]
    exact h.si1 j hk1)
  (sf2 := (congrFun (hr 52 (by decide)) 1).trans h.sf2)
  (ss2 := (congrFun (hr 52 (by decide)) 2).trans h.ss2)
  (si2 := fun j hk1 => by
    rw [hr 53 (by decide)]
    exact h.si2 j hk1)
  (sf3 := (congrFun (hr 54 (by decide)) 1).trans h.sf3)
  (ss3 := (congrFun (hr 54 (by decide)) 2).trans h.ss3)
  (si3 := fun j hk1 => by
    rw [hr 55 (by decide)]
    exact h.si3 j hk1)
theorem z_CP.wi0 {W : zW} {s σ : pi_S} (h : z_CP W σ) {V : zW} (hw : z_wd ((W.sN 0 0).der V)) (em : s 2 1 = σ 2 1) (e2 : s 2 2 = nI 0) (hr : pi_fr [2] s σ) : z_CP ((W.sN 0 0).der V) s := z_CP.mk
  (wk := h.wk.wi0 hw)
  (fi := (congrFun (hr 0 (by decide)) 7).trans h.fi)
  (m0 := em.trans h.m0)
  (n0 := e2)
  (m1 := (congrFun (hr 4 (by decide)) 1).trans h.m1)
  (n1 := (congrFun (hr 4 (by decide)) 2).trans h.n1)
  (t0 := fun k hk1 => absurd hk1 (Nat.not_lt_zero k))
  (t1 := fun k hk1 => by
    rw [hr 5 (by decide)]
    exact h.t1 k hk1)
  (nine := (congrFun (hr 12 (by decide)) 3).trans h.nine)
  (rt := fun k hk1 => by
    rw [hr 13 (by decide)]
    exact h.rt k hk1)
  (hd := fun k hk1 => by
    rw [hr 14 (by decide)]
    exact h.hd k hk1)
  (pr := fun k hk1 => by
    rw [hr 15 (by decide)]
    exact h.pr k hk1)
  (mf := (congrFun (hr 17 (by decide)) 4).trans h.mf)
  (nf := (congrFun (hr 17 (by decide)) 5).trans h.nf)
  (fa := fun i hk1 => by
    rw [hr 18 (by decide), hr 19 (by decide), hr 20 (by decide), hr 21 (by decide)]
    exact h.fa i hk1)
  (mw := (congrFun (hr 22 (by decide)) 4).trans h.mw)
  (nw := (congrFun (hr 22 (by decide)) 5).trans h.nw)
  (sw := fun i hk1 => by
    rw [hr 23 (by decide), hr 24 (by decide)]
    exact h.sw i hk1)
  (mc := (congrFun (hr 27 (by decide)) 4).trans h.mc)
  (nc := (congrFun (hr 27 (by decide)) 5).trans h.nc)
  (ca := fun i hk1 => by
    rw [hr 28 (by decide), hr 29 (by decide)]
    exact h.ca i hk1)
  (rn := fun k hk1 => by
    rw [hr 32 (by decide)]
    exact h.rn k hk1)
  (sf0 := (congrFun (hr 48 (by decide)) 1).trans h.sf0)
  (ss0 := (congrFun (hr 48 (by decide)) 2).trans h.ss0)
  (si0 := fun j hk1 => by
    rw [hr 49 (by decide)]
    exact h.si0 j hk1)
  (sf1 := (congrFun (hr 50 (by decide)) 1).trans h.sf1)
  (ss1 := (congrFun (hr 50 (by decide)) 2).trans h.ss1)
  (si1 := fun j hk1 => by
    rw [hr 51 (by decide)]
    exact h.si1 j hk1)
  (sf2 := (congrFun (hr 52 (by decide)) 1).trans h.sf2)
  (ss2 := (congrFun (hr 52 (by decide)) 2).trans h.ss2)
  (si2 := fun j hk1 => by
    rw [hr 53 (by decide)]
    exact h.si2 j hk1)
  (sf3 := (congrFun (hr 54 (by decide)) 1).trans h.sf3)
  (ss3 := (congrFun (hr 54 (by decide)) 2).trans h.ss3)
  (si3 := fun j hk1 => by
    rw [hr 55 (by decide)]
    exact h.si3 j hk1)
theorem z_CP.ty1 {W : zW} {s σ : pi_S} (h : z_CP W σ) {V : zW} {x : Int32} (hw : z_wd (((W.sN 1 (W.n1 + 1)).sI 0 (upd W.tx (40 + W.n1) x)).der V)) (em : s 4 1 = σ 4 1) (e2 : s 4 2 = nI (W.n1 + 1)) (e3 : s 5 = upd (σ 5) W.n1 x) (hr : pi_fr [4, 5] s σ) : z_CP (((W.sN 1 (W.n1 + 1)).sI 0 (upd W.tx (40 + W.n1) x)).der V) s := z_CP.mk
  (wk := h.wk.ty1 hw)
  (fi := (congrFun (hr 0 (by decide)) 7).trans h.fi)
  (m0 := (congrFun (hr 2 (by decide)) 1).trans h.m0)
  (n0 := (congrFun (hr 2 (by decide)) 2).trans h.n0)
  (m1 := em.trans h.m1)
  (n1 := e2)
  (t0 := fun k hk1 => by
    have h8 := h.wk.wd.n0
    have hk2 : k < W.n0 := hk1
    show s 3 k = upd W.tx (40 + W.n1) x (0 + k)
    rw [hr 3 (by decide), z_upd_n _ _ (by omega)]
    exact h.t0 k hk1)
  (t1 := fun k hk1 => by
    have hk2 : k < W.n1 + 1 := hk1
    show s 5 k = upd W.tx (40 + W.n1) x (40 + k)
    rw [e3]
    by_cases q : k = W.n1
    · rw [q, z_upd_s, z_upd_s]
    · rw [z_upd_n _ _ q, z_upd_n _ _ (by omega)]
      exact h.t1 k (by omega))
  (nine := (congrFun (hr 12 (by decide)) 3).trans h.nine)
  (rt := fun k hk1 => by
    rw [hr 13 (by decide)]
    exact h.rt k hk1)
  (hd := fun k hk1 => by
    rw [hr 14 (by decide)]
    exact h.hd k hk1)
  (pr := fun k hk1 => by
    rw [hr 15 (by decide)]
    exact h.pr k hk1)
  (mf := (congrFun (hr 17 (by decide)) 4).trans h.mf)
  (nf := (congrFun (hr 17 (by decide)) 5).trans h.nf)
  (fa := fun i hk1 => by
    rw [hr 18 (by decide), hr 19 (by decide), hr 20 (by decide), hr 21 (by decide)]
    exact h.fa i hk1)
  (mw := (congrFun (hr 22 (by decide)) 4).trans h.mw)
  (nw := (congrFun (hr 22 (by decide)) 5).trans h.nw)
  (sw := fun i hk1 => by
    rw [hr 23 (by decide), hr 24 (by decide)]
    exact h.sw i hk1)
  (mc := (congrFun (hr 27 (by decide)) 4).trans h.mc)
  (nc := (congrFun (hr 27 (by decide)) 5).trans h.nc)
  (ca := fun i hk1 => by
    rw [hr 28 (by decide), hr 29 (by decide)]
    exact h.ca i hk1)
  (rn := fun k hk1 => by
    rw [hr 32 (by decide)]
    exact h.rn k hk1)
  (sf0 := (congrFun (hr 48 (by decide)) 1).trans h.sf0)
  (ss0 := (congrFun (hr 48 (by decide)) 2).trans h.ss0)
  (si0 := fun j hk1 => by
    rw [hr 49 (by decide)]
    exact h.si0 j hk1)
  (sf1 := (congrFun (hr 50 (by decide)) 1).trans h.sf1)
  (ss1 := (congrFun (hr 50 (by decide)) 2).trans h.ss1)
  (si1 := fun j hk1 => by
    rw [hr 51 (by decide)]
    exact h.si1 j hk1)
  (sf2 := (congrFun (hr 52 (by decide)) 1).trans h.sf2)
  (ss2 := (congrFun (hr 52 (by decide)) 2).trans h.ss2)
  (si2 := fun j hk1 => by
    rw [hr 53 (by decide)]
    exact h.si2 j hk1)
  (sf3 := (congrFun (hr 54 (by decide)) 1).trans h.sf3)
  (ss3 := (congrFun (hr 54 (by decide)) 2).trans h.ss3)
  (si3 := fun j hk1 => by
    rw [hr 55 (by decide)]
    exact h.si3 j hk1)
theorem z_CP.wi1 {W : zW} {s σ : pi_S} (h : z_CP W σ) {V : zW} (hw : z_wd ((W.sN 1 0).der V)) (em : s 4 1 = σ 4 1) (e2 : s 4 2 = nI 0) (hr : pi_fr [4] s σ) : z_CP ((W.sN 1 0).der V) s := z_CP.mk
  (wk := h.wk.wi1 hw)
  (fi := (congrFun (hr 0 (by decide)) 7).trans h.fi)
  (m0 := (congrFun (hr 2 (by decide)) 1).trans h.m0)
  (n0 := (congrFun (hr 2 (by decide)) 2).trans h.n0)
  (m1 := em.trans h.m1)
  (n1 := e2)
  (t0 := fun k hk1 => by
    rw [hr 3 (by decide)]
    exact h.t0 k hk1)
  (t1 := fun k hk1 => absurd hk1 (Nat.not_lt_zero k))
  (nine := (congrFun (hr 12 (by decide)) 3).trans h.nine)
  (rt := fun k hk1 => by
    rw [hr 13 (by decide)]
    exact h.rt k hk1)
  (hd := fun k hk1 => by
    rw [hr 14 (by decide)]
    exact h.hd k hk1)
  (pr := fun k hk1 => by
    rw [hr 15 (by decide)]
    exact h.pr k hk1)
  (mf := (congrFun (hr 17 (by decide)) 4).trans h.mf)
  (nf := (congrFun (hr 17 (by decide)) 5).trans h.nf)
  (fa := fun i hk1 => by
    rw [hr 18 (by decide), hr 19 (by decide), hr 20 (by decide), hr 21 (by decide)]
    exact h.fa i hk1)
  (mw := (congrFun (hr 22 (by decide)) 4).trans h.mw)
  (nw := (congrFun (hr 22 (by decide)) 5).trans h.nw)
  (sw := fun i hk1 => by
    rw [hr 23 (by decide), hr 24 (by decide)]
    exact h.sw i hk1)
  (mc := (congrFun (hr 27 (by decide)) 4).trans h.mc)
  (nc := (congrFun (hr 27 (by decide)) 5).trans h.nc)
  (ca := fun i hk1 => by
    rw [hr 28 (by decide), hr 29 (by decide)]
    exact h.ca i hk1)
  (rn := fun k hk1 => by
    rw [hr 32 (by decide)]
    exact h.rn k hk1)
  (sf0 := (congrFun (hr 48 (by decide)) 1).trans h.sf0)
  (ss0 := (congrFun (hr 48 (by decide)) 2).trans h.ss0)
  (si0 := fun j hk1 => by
    rw [hr 49 (by decide)]
    exact h.si0 j hk1)
  (sf1 := (congrFun (hr 50 (by decide)) 1).trans h.sf1)
  (ss1 := (congrFun (hr 50 (by decide)) 2).trans h.ss1)
  (si1 := fun j hk1 => by
    rw [hr 51 (by decide)]
    exact h.si1 j hk1)
  (sf2 := (congrFun (hr 52 (by decide)) 1).trans h.sf2)
  (ss2 := (congrFun (hr 52 (by decide)) 2).trans h.ss2)
  (si2 := fun j hk1 => by
    rw [hr 53 (by decide)]
    exact h.si2 j hk1)
  (sf3 := (congrFun (hr 54 (by decide)) 1).trans h.sf3)
  (ss3 := (congrFun (hr 54 (by decide)) 2).trans h.ss3)
  (si3 := fun j hk1 => by
    rw [hr 55 (by decide)]
    exact h.si3 j hk1)
theorem z_CP.se0 {W : zW} {s σ : pi_S} (h : z_CP W σ) {k b : Nat} (hb : b ≤ 9) (e : s 13 = upd (σ 13) k (nI b)) (hr : pi_fr [13] s σ) : z_CP (W.sI 1 (upd W.rt k (nI b))) s := z_CP.mk
  (wk := h.wk.se0 hb)
  (fi := (congrFun (hr 0 (by decide)) 7).trans h.fi)
  (m0 := (congrFun (hr 2 (by decide)) 1).trans h.m0)
  (n0 := (congrFun (hr 2 (by decide)) 2).trans h.n0)
  (m1 := (congrFun (hr 4 (by decide)) 1).trans h.m1)
  (n1 := (congrFun (hr 4 (by decide)) 2).trans h.n1)
  (t0 := fun k hk1 => by
    rw [hr 3 (by decide)]
    exact h.t0 k hk1)
  (t1 := fun k hk1 => by
    rw [hr 5 (by decide)]
    exact h.t1 k hk1)
  (nine := (congrFun (hr 12 (by decide)) 3).trans h.nine)
  (rt := fun j hk1 => by
    rw [e]
    exact z_upd_at h.rt (by omega) (Or.inl (by omega)) j hk1)
  (hd := fun k hk1 => by
    rw [hr 14 (by decide)]
    exact h.hd k hk1)
  (pr := fun k hk1 => by
    rw [hr 15 (by decide)]
    exact h.pr k hk1)
  (mf := (congrFun (hr 17 (by decide)) 4).trans h.mf)
  (nf := (congrFun (hr 17 (by decide)) 5).trans h.nf)
  (fa := fun i hk1 => by
    rw [hr 18 (by decide), hr 19 (by decide), hr 20 (by decide), hr 21 (by decide)]
    exact h.fa i hk1)
  (mw := (congrFun (hr 22 (by decide)) 4).trans h.mw)
  (nw := (congrFun (hr 22 (by decide)) 5).trans h.nw)
  (sw := fun i hk1 => by
    rw [hr 23 (by decide), hr 24 (by decide)]
    exact h.sw i hk1)
  (mc := (congrFun (hr 27 (by decide)) 4).trans h.mc)
  (nc := (congrFun (hr 27 (by decide)) 5).trans h.nc)
  (ca := fun i hk1 => by
    rw [hr 28 (by decide), hr 29 (by decide)]
    exact h.ca i hk1)
  (rn := fun k hk1 => by
    rw [hr 32 (by decide)]
    exact h.rn k hk1)
  (sf0 := (congrFun (hr 48 (by decide)) 1).trans h.sf0)
  (ss0 := (congrFun (hr 48 (by decide)) 2).trans h.ss0)
  (si0 := fun j hk1 => by
    rw [hr 49 (by decide)]
    exact h.si0 j hk1)
  (sf1 := (congrFun (hr 50 (by decide)) 1).trans h.sf1)
  (ss1 := (congrFun (hr 50 (by decide)) 2).trans h.ss1)
  (si1 := fun j hk1 => by
    rw [hr 51 (by decide)]
    exact h.si1 j hk1)
  (sf2 := (congrFun (hr 52 (by decide)) 1).trans h.sf2)
  (ss2 := (congrFun (hr 52 (by decide)) 2).trans h.ss2)
  (si2 := fun j hk1 => by
    rw [hr 53 (by decide)]
    exact h.si2 j hk1)
  (sf3 := (congrFun (hr 54 (by decide)) 1).trans h.sf3)
  (ss3 := (congrFun (hr 54 (by decide)) 2).trans h.ss3)
  (si3 := fun j hk1 => by
    rw [hr 55 (by decide)]
    exact h.si3 j hk1)
theorem z_CP.se1 {W : zW} {s σ : pi_S} (h : z_CP W σ) {k b : Nat} (hb : b ≤ 99) (e : s 14 = upd (σ 14) k (nI b)) (hr : pi_fr [14] s σ) : z_CP (W.sI 2 (upd W.hd k (nI b))) s := z_CP.mk
  (wk := h.wk.se1 hb)
  (fi := (congrFun (hr 0 (by decide)) 7).trans h.fi)
  (m0 := (congrFun (hr 2 (by decide)) 1).trans h.m0)
  (n0 := (congrFun (hr 2 (by decide)) 2).trans h.n0)
  (m1 := (congrFun (hr 4 (by decide)) 1).trans h.m1)
  (n1 := (congrFun (hr 4 (by decide)) 2).trans h.n1)
  (t0 := fun k hk1 => by
    rw [hr 3 (by decide)]
    exact h.t0 k hk1)
  (t1 := fun k hk1 => by
    rw [hr 5 (by decide)]
    exact h.t1 k hk1)
  (nine := (congrFun (hr 12 (by decide)) 3).trans h.nine)
  (rt := fun k hk1 => by
    rw [hr 13 (by decide)]
    exact h.rt k hk1)
  (hd := fun j hk1 => by
    rw [e]
    exact z_upd_at h.hd (by omega) (Or.inl (by omega)) j hk1)
  (pr := fun k hk1 => by
    rw [hr 15 (by decide)]
    exact h.pr k hk1)
  (mf := (congrFun (hr 17 (by decide)) 4).trans h.mf)
  (nf := (congrFun (hr 17 (by decide)) 5).trans h.nf)
  (fa := fun i hk1 => by
    rw [hr 18 (by decide), hr 19 (by decide), hr 20 (by decide), hr 21 (by decide)]
    exact h.fa i hk1)
  (mw := (congrFun (hr 22 (by decide)) 4).trans h.mw)
  (nw := (congrFun (hr 22 (by decide)) 5).trans h.nw)
  (sw := fun i hk1 => by
    rw [hr 23 (by decide), hr 24 (by decide)]
    exact h.sw i hk1)
  (mc := (congrFun (hr 27 (by decide)) 4).trans h.mc)
  (nc := (congrFun (hr 27 (by decide)) 5).trans h.nc)
  (ca := fun i hk1 => by
    rw [hr 28 (by decide), hr 29 (by decide)]
    exact h.ca i hk1)
  (rn := fun k hk1 => by
    rw [hr 32 (by decide)]
    exact h.rn k hk1)
  (sf0 := (congrFun (hr 48 (by decide)) 1).trans h.sf0)
  (ss0 := (congrFun (hr 48 (by decide)) 2).trans h.ss0)
  (si0 := fun j hk1 => by
    rw [hr 49 (by decide)]
    exact h.si0 j hk1)
  (sf1 := (congrFun (hr 50 (by decide)) 1).trans h.sf1)
  (ss1 := (congrFun (hr 50 (by decide)) 2).trans h.ss1)
  (si1 := fun j hk1 => by
    rw [hr 51 (by decide)]
    exact h.si1 j hk1)
  (sf2 := (congrFun (hr 52 (by decide)) 1).trans h.sf2)
  (ss2 := (congrFun (hr 52 (by decide)) 2).trans h.ss2)
  (si2 := fun j hk1 => by
    rw [hr 53 (by decide)]
    exact h.si2 j hk1)
  (sf3 := (congrFun (hr 54 (by decide)) 1).trans h.sf3)
  (ss3 := (congrFun (hr 54 (by decide)) 2).trans h.ss3)
  (si3 := fun j hk1 => by
    rw [hr 55 (by decide)]
    exact h.si3 j hk1)
theorem z_CP.se2 {W : zW} {s σ : pi_S} (h : z_CP W σ) {k b : Nat} (hb : b ≤ 9) (e : s 15 = upd (σ 15) k (nI b)) (hr : pi_fr [15] s σ) : z_CP (W.sI 3 (upd W.pr k (nI b))) s := z_CP.mk
  (wk := h.wk.se2 hb)
  (fi := (congrFun (hr 0 (by decide)) 7).trans h.fi)
  (m0 := (congrFun (hr 2 (by decide)) 1).trans h.m0)
  (n0 := (congrFun (hr 2 (by decide)) 2).trans h.n0)
  (m1 := (congrFun (hr 4 (by decide)) 1).trans h.m1)
  (n1 := (congrFun (hr 4 (by decide)) 2).trans h.n1)
  (t0 := fun k hk1 => by
    rw [hr 3 (by decide)]
    exact h.t0 k hk1)
  (t1 := fun k hk1 => by
    rw [hr 5 (by decide)]
    exact h.t1 k hk1)
  (nine := (congrFun (hr 12 (by decide)) 3).trans h.nine)
  (rt := fun k hk1 => by
    rw [hr 13 (by decide)]
    exact h.rt k hk1)
  (hd := fun k hk1 => by
    rw [hr 14 (by decide)]
    exact h.hd k hk1)
  (pr := fun j hk1 => by
    rw [e]
    exact z_upd_at h.pr (by omega) (Or.inl (by omega)) j hk1)
  (mf := (congrFun (hr 17 (by decide)) 4).trans h.mf)
  (nf := (congrFun (hr 17 (by decide)) 5).trans h.nf)
  (fa := fun i hk1 => by
    rw [hr 18 (by decide), hr 19 (by decide), hr 20 (by decide), hr 21 (by decide)]
    exact h.fa i hk1)
  (mw := (congrFun (hr 22 (by decide)) 4).trans h.mw)
  (nw := (congrFun (hr 22 (by decide)) 5).trans h.nw)
  (sw := fun i hk1 => by
    rw [hr 23 (by decide), hr 24 (by decide)]
    exact h.sw i hk1)
  (mc := (congrFun (hr 27 (by decide)) 4).trans h.mc)
  (nc := (congrFun (hr 27 (by decide)) 5).trans h.nc)
  (ca := fun i hk1 => by
    rw [hr 28 (by decide), hr 29 (by decide)]
    exact h.ca i hk1)
  (rn := fun k hk1 => by
    rw [hr 32 (by decide)]
    exact h.rn k hk1)
  (sf0 := (congrFun (hr 48 (by decide)) 1).trans h.sf0)
  (ss0 := (congrFun (hr 48 (by decide)) 2).trans h.ss0)
  (si0 := fun j hk1 => by
    rw [hr 49 (by decide)]
    exact h.si0 j hk1)
  (sf1 := (congrFun (hr 50 (by decide)) 1).trans h.sf1)
  (ss1 := (congrFun (hr 50 (by decide)) 2).trans h.ss1)
  (si1 := fun j hk1 => by
    rw [hr 51 (by decide)]
    exact h.si1 j hk1)
  (sf2 := (congrFun (hr 52 (by decide)) 1).trans h.sf2)
  (ss2 := (congrFun (hr 52 (by decide)) 2).trans h.ss2)
  (si2 := fun j hk1 => by
    rw [hr 53 (by decide)]
    exact h.si2 j hk1)
  (sf3 := (congrFun (hr 54 (by decide)) 1).trans h.sf3)
  (ss3 := (congrFun (hr 54 (by decide)) 2).trans h.ss3)
  (si3 := fun j hk1 => by
    rw [hr 55 (by decide)]
    exact h.si3 j hk1)
theorem z_CP.se3 {W : zW} {s σ : pi_S} (h : z_CP W σ) {b : Nat} (hb : b < 60) (e : s 12 3 = nI b) (hr : pi_fr [12] s σ) : z_CP (W.sN 2 b) s := z_CP.mk
  (wk := h.wk.se3 hb)
  (fi := (congrFun (hr 0 (by decide)) 7).trans h.fi)
  (m0 := (congrFun (hr 2 (by decide)) 1).trans h.m0)
  (n0 := (congrFun (hr 2 (by decide)) 2).trans h.n0)
  (m1 := (congrFun (hr 4 (by decide)) 1).trans h.m1)
  (n1 := (congrFun (hr 4 (by decide)) 2).trans h.n1)
  (t0 := fun k hk1 => by
    rw [hr 3 (by decide)]
    exact h.t0 k hk1)
  (t1 := fun k hk1 => by
    rw [hr 5 (by decide)]
    exact h.t1 k hk1)
  (nine := e)
  (rt := fun k hk1 => by
    rw [hr 13 (by decide)]
    exact h.rt k hk1)
  (hd := fun k hk1 => by
    rw [hr 14 (by decide)]
    exact h.hd k hk1)
  (pr := fun k hk1 => by
    rw [hr 15 (by decide)]
    exact h.pr k hk1)
  (mf := (congrFun (hr 17 (by decide)) 4).trans h.mf)
  (nf := (congrFun (hr 17 (by decide)) 5).trans h.nf)
  (fa := fun i hk1 => by
    rw [hr 18 (by decide), hr 19 (by decide), hr 20 (by decide), hr 21 (by decide)]
    exact h.fa i hk1)
  (mw := (congrFun (hr 22 (by decide)) 4).trans h.mw)
  (nw := (congrFun (hr 22 (by decide)) 5).trans h.nw)
  (sw := fun i hk1 => by
    rw [hr 23 (by decide), hr 24 (by decide)]
    exact h.sw i hk1)
  (mc := (congrFun (hr 27 (by decide)) 4).trans h.mc)
  (nc := (congrFun (hr 27 (by decide)) 5).trans h.nc)
  (ca := fun i hk1 => by
    rw [hr 28 (by decide), hr 29 (by decide)]
    exact h.ca i hk1)
  (rn := fun k hk1 => by
    rw [hr 32 (by decide)]
    exact h.rn k hk1)
  (sf0 := (congrFun (hr 48 (by decide)) 1).trans h.sf0)
  (ss0 := (congrFun (hr 48 (by decide)) 2).trans h.ss0)
  (si0 := fun j hk1 => by
    rw [hr 49 (by decide)]
    exact h.si0 j hk1)
  (sf1 := (congrFun (hr 50 (by decide)) 1).trans h.sf1)
  (ss1 := (congrFun (hr 50 (by decide)) 2).trans h.ss1)
  (si1 := fun j hk1 => by
    rw [hr 51 (by decide)]
    exact h.si1 j hk1)
  (sf2 := (congrFun (hr 52 (by decide)) 1).trans h.sf2)
  (ss2 := (congrFun (hr 52 (by decide)) 2).trans h.ss2)
  (si2 := fun j hk1 => by
    rw [hr 53 (by decide)]
    exact h.si2 j hk1)
  (sf3 := (congrFun (hr 54 (by decide)) 1).trans h.sf3)
  (ss3 := (congrFun (hr 54 (by decide)) 2).trans h.ss3)
  (si3 := fun j hk1 => by
    rw [hr 55 (by decide)]
    exact h.si3 j hk1)
theorem z_CP.re {W : zW} {s σ : pi_S} (h : z_CP W σ) {g : Nat → Int32} (hg : ∀ k, k < 8 → ∃ b, b ≤ 99 ∧ g k = nI b) (e : ∀ j, j < 8 → s 14 j = g j) (hr : pi_fr [14] s σ) : z_CP (W.sI 2 g) s := z_CP.mk
  (wk := h.wk.re hg)
  (fi := (congrFun (hr 0 (by decide)) 7).trans h.fi)
  (m0 := (congrFun (hr 2 (by decide)) 1).trans h.m0)
  (n0 := (congrFun (hr 2 (by decide)) 2).trans h.n0)
  (m1 := (congrFun (hr 4 (by decide)) 1).trans h.m1)
  (n1 := (congrFun (hr 4 (by decide)) 2).trans h.n1)
  (t0 := fun k hk1 => by
    rw [hr 3 (by decide)]
    exact h.t0 k hk1)
  (t1 := fun k hk1 => by
    rw [hr 5 (by decide)]
    exact h.t1 k hk1)
  (nine := (congrFun (hr 12 (by decide)) 3).trans h.nine)
  (rt := fun k hk1 => by
    rw [hr 13 (by decide)]
    exact h.rt k hk1)
  (hd := e)
  (pr := fun k hk1 => by
    rw [hr 15 (by decide)]
    exact h.pr k hk1)
  (mf := (congrFun (hr 17 (by decide)) 4).trans h.mf)
  (nf := (congrFun (hr 17 (by decide)) 5).trans h.nf)
  (fa := fun i hk1 => by
    rw [hr 18 (by decide), hr 19 (by decide), hr 20 (by decide), hr 21 (by decide)]
    exact h.fa i hk1)
  (mw := (congrFun (hr 22 (by decide)) 4).trans h.mw)
  (nw := (congrFun (hr 22 (by decide)) 5).trans h.nw)
  (sw := fun i hk1 => by
    rw [hr 23 (by decide), hr 24 (by decide)]
    exact h.sw i hk1)
  (mc := (congrFun (hr 27 (by decide)) 4).trans h.mc)
  (nc := (congrFun (hr 27 (by decide)) 5).trans h.nc)
  (ca := fun i hk1 => by
    rw [hr 28 (by decide), hr 29 (by decide)]
    exact h.ca i hk1)
  (rn := fun k hk1 => by
    rw [hr 32 (by decide)]
    exact h.rn k hk1)
  (sf0 := (congrFun (hr 48 (by decide)) 1).trans h.sf0)
  (ss0 := (congrFun (hr 48 (by decide)) 2).trans h.ss0)
  (si0 := fun j hk1 => by
    rw [hr 49 (by decide)]
    exact h.si0 j hk1)
  (sf1 := (congrFun (hr 50 (by decide)) 1).trans h.sf1)
  (ss1 := (congrFun (hr 50 (by decide)) 2).trans h.ss1)
  (si1 := fun j hk1 => by
    rw [hr 51 (by decide)]
    exact h.si1 j hk1)
  (sf2 := (congrFun (hr 52 (by decide)) 1).trans h.sf2)
  (ss2 := (congrFun (hr 52 (by decide)) 2).trans h.ss2)
  (si2 := fun j hk1 => by
    rw [hr 53 (by decide)]
    exact h.si2 j hk1)
  (sf3 := (congrFun (hr 54 (by decide)) 1).trans h.sf3)
  (ss3 := (congrFun (hr 54 (by decide)) 2).trans h.ss3)
  (si3 := fun j hk1 => by
    rw [hr 55 (by decide)]
    exact h.si3 j hk1)
theorem z_CP.fall {W : zW} {s σ : pi_S} (h : z_CP W σ) {mi : Int32} {dr kd b : Nat} (hn : W.nf < 20) (hd : dr < 8) (hkd : kd < 5) (h1 : 1 ≤ b) (h9 : b ≤ 9) (em : s 17 4 = σ 17 4) (e0 : s 17 5 = nI (W.nf + 1)) (e1 : s 18 = upd (σ 18) W.nf mi) (e2 : s 19 = upd (σ 19) W.nf (nI dr)) (e3 : s 20 = upd (σ 20) W.nf (nI kd)) (e4 : s 21 = upd (σ 21) W.nf (nI b)) (hr : pi_fr [17, 18, 19, 20, 21] s σ) : z_CP (W.fall mi dr kd (nI b)) s := z_CP.mk
  (wk := h.wk.fall (by omega) hd hkd h1 h9)
  (fi := (congrFun (hr 0 (by decide)) 7).trans h.fi)
  (m0 := (congrFun (hr 2 (by decide)) 1).trans h.m0)
  (n0 := (congrFun (hr 2 (by decide)) 2).trans h.n0)
  (m1 := (congrFun (hr 4 (by decide)) 1).trans h.m1)
  (n1 := (congrFun (hr 4 (by decide)) 2).trans h.n1)
  (t0 := fun k hk1 => by
    rw [hr 3 (by decide)]
    exact h.t0 k hk1)
  (t1 := fun k hk1 => by
    rw [hr 5 (by decide)]
    exact h.t1 k hk1)
  (nine := (congrFun (hr 12 (by decide)) 3).trans h.nine)
  (rt := fun k hk1 => by
    rw [hr 13 (by decide)]
    exact h.rt k hk1)
  (hd := fun k hk1 => by
    rw [hr 14 (by decide)]
    exact h.hd k hk1)
  (pr := fun k hk1 => by
    rw [hr 15 (by decide)]
    exact h.pr k hk1)
  (mf := em.trans h.mf)
  (nf := e0)
  (fa := fun i hk1 => by
    have hi1 : i < W.nf + 1 := hk1
    show s 18 i = z_u W.fm W.nf mi i ∧ s 19 i = nI (z_u W.fd W.nf dr i) ∧ s 20 i = nI (z_u W.fk W.nf kd i) ∧ s 21 i = z_u W.fn W.nf (nI b) i
    rw [e1, e2, e3, e4]
    by_cases q : i = W.nf
    · rw [q, z_u_s, z_u_s, z_u_s, z_u_s, z_upd_s, z_upd_s, z_upd_s, z_upd_s]
      exact ⟨rfl, rfl, rfl, rfl⟩
    · rw [z_u_n _ _ q, z_u_n _ _ q, z_u_n _ _ q, z_u_n _ _ q, z_upd_n _ _ q, z_upd_n _ _ q, z_upd_n _ _ q, z_upd_n _ _ q]
      exact h.fa i (by omega))
  (mw := (congrFun (hr 22 (by decide)) 4).trans h.mw)
  (nw := (congrFun (hr 22 (by decide)) 5).trans h.nw)
  (sw := fun i hk1 => by
    rw [hr 23 (by decide), hr 24 (by decide)]
    exact h.sw i hk1)
  (mc := (congrFun (hr 27 (by decide)) 4).trans h.mc)
  (nc := (congrFun (hr 27 (by decide)) 5).trans h.nc)
  (ca := fun i hk1 => by
    rw [hr 28 (by decide), hr 29 (by decide)]
    exact h.ca i hk1)
  (rn := fun k hk1 => by
    rw [hr 32 (by decide)]
    exact h.rn k hk1)
  (sf0 := (congrFun (hr 48 (by decide)) 1).trans h.sf0)
  (ss0 := (congrFun (hr 48 (by decide)) 2).trans h.ss0)
  (si0 := fun j hk1 => by
    rw [hr 49 (by decide)]
    exact h.si0 j hk1)
  (sf1 := (congrFun (hr 50 (by decide)) 1).trans h.sf1)
  (ss1 := (congrFun (hr 50 (by decide)) 2).trans h.ss1)
  (si1 := fun j hk1 => by
    rw [hr 51 (by decide)]
    exact h.si1 j hk1)
  (sf2 := (congrFun (hr 52 (by decide)) 1).trans h.sf2)
  (ss2 := (congrFun (hr 52 (by decide)) 2).trans h.ss2)
  (si2 := fun j hk1 => by
    rw [hr 53 (by decide)]
    exact h.si2 j hk1)
  (sf3 := (congrFun (hr 54 (by decide)) 1).trans h.sf3)
  (ss3 := (congrFun (hr 54 (by decide)) 2).trans h.ss3)
  (si3 := fun j hk1 => by
    rw [hr 55 (by decide)]
    exact h.si3 j hk1)
theorem z_CP.sweep {W : zW} {s σ : pi_S} (h : z_CP W σ) {m : Int32} {p : Nat} (hn : W.nw < 24) (hp : p < 12) (em : s 22 4 = σ 22 4) (e0 : s 22 5 = nI (W.nw + 1)) (e1 : s 23 = upd (σ 23) W.nw m) (e2 : s 24 = upd (σ 24) W.nw (nI p)) (hr : pi_fr [22, 23, 24, 25, 26] s σ) : z_CP (((W.sN 4 (W.nw + 1)).sI 6 (z_u W.sm W.nw m)).sF 2 (z_u W.ws W.nw p)) s := z_CP.mk
  (wk := h.wk.sweep hn hp)
  (fi := (congrFun (hr 0 (by decide)) 7).trans h.fi)
  (m0 := (congrFun (hr 2 (by decide)) 1).trans h.m0)
  (n0 := (congrFun (hr 2 (by decide)) 2).trans h.n0)
  (m1 := (congrFun (hr 4 (by decide)) 1).trans h.m1)
  (n1 := (congrFun (hr 4 (by decide)) 2).trans h.n1)
  (t0 := fun k hk1 => by
    rw [hr 3 (by decide)]
    exact h.t0 k hk1)
  (t1 := fun k hk1 => by
    rw [hr 5 (by decide)]
    exact h.t1 k hk1)
  (nine := (congrFun (hr 12 (by decide)) 3).trans h.nine)
  (rt := fun k hk1 => by
    rw [hr 13 (by decide)]
    exact h.rt k hk1)
  (hd := fun k hk1 => by
    rw [hr 14 (by decide)]
    exact h.hd k hk1)
  (pr := fun k hk1 => by
    rw [hr 15 (by decide)]
    exact h.pr k hk1)
  (mf := (congrFun (hr 17 (by decide)) 4).trans h.mf)
  (nf := (congrFun (hr 17 (by decide)) 5).trans h.nf)
  (fa := fun i hk1 => by
    rw [hr 18 (by decide), hr 19 (by decide), hr 20 (by decide), hr 21 (by decide)]
    exact h.fa i hk1)
  (mw := em.trans h.mw)
  (nw := e0)
  (sw := fun i hk1 => by
    have hi1 : i < W.nw + 1 := hk1
    show s 23 i = z_u W.sm W.nw m i ∧ s 24 i = nI (z_u W.ws W.nw p i)
    rw [e1, e2]
    by_cases q : i = W.nw
    · rw [q, z_u_s, z_u_s, z_upd_s, z_upd_s]
      exact ⟨rfl, rfl⟩
    · rw [z_u_n _ _ q, z_u_n _ _ q, z_upd_n _ _ q, z_upd_n _ _ q]
      exact h.sw i (by omega))
  (mc := (congrFun (hr 27 (by decide)) 4).trans h.mc)
  (nc := (congrFun (hr 27 (by decide)) 5).trans h.nc)
  (ca := fun i hk1 => by
    rw [hr 28 (by decide), hr 29 (by decide)]
    exact h.ca i hk1)
  (rn := fun k hk1 => by
    rw [hr 32 (by decide)]
    exact h.rn k hk1)
  (sf0 := (congrFun (hr 48 (by decide)) 1).trans h.sf0)
  (ss0 := (congrFun (hr 48 (by decide)) 2).trans h.ss0)
  (si0 := fun j hk1 => by
    rw [hr 49 (by decide)]
    exact h.si0 j hk1)
  (sf1 := (congrFun (hr 50 (by decide)) 1).trans h.sf1)
  (ss1 := (congrFun (hr 50 (by decide)) 2).trans h.ss1)
  (si1 := fun j hk1 => by
    rw [hr 51 (by decide)]
    exact h.si1 j hk1)
  (sf2 := (congrFun (hr 52 (by decide)) 1).trans h.sf2)
  (ss2 := (congrFun (hr 52 (by decide)) 2).trans h.ss2)
  (si2 := fun j hk1 => by
    rw [hr 53 (by decide)]
    exact h.si2 j hk1)
  (sf3 := (congrFun (hr 54 (by decide)) 1).trans h.sf3)
  (ss3 := (congrFun (hr 54 (by decide)) 2).trans h.ss3)
  (si3 := fun j hk1 => by
    rw [hr 55 (by decide)]
    exact h.si3 j hk1)
theorem z_CP.cart {W : zW} {s σ : pi_S} (h : z_CP W σ) {m : Int32} {p : Nat} (hn : W.nc < 8) (hp : p < 8) (em : s 27 4 = σ 27 4) (e0 : s 27 5 = nI (W.nc + 1)) (e1 : s 28 = upd (σ 28) W.nc m) (e2 : s 29 = upd (σ 29) W.nc (nI p)) (hr : pi_fr [27, 28, 29, 30, 31] s σ) : z_CP (((W.sN 5 (W.nc + 1)).sI 7 (z_u W.cm W.nc m)).sF 3 (z_u W.cd W.nc p)) s := z_CP.mk
  (wk := h.wk.cart hn hp)
  (fi := (congrFun (hr 0 (by decide)) 7).trans h.fi)
  (m0 := (congrFun (hr 2 (by decide)) 1).trans h.m0)
  (n0 := (congrFun (hr 2 (by decide)) 2).trans h.n0)
  (m1 := (congrFun (hr 4 (by decide)) 1).trans h.m1)
  (n1 := (congrFun (hr 4 (by decide)) 2).trans h.n1)
  (t0 := fun k hk1 => by
    rw [hr 3 (by decide)]
    exact h.t0 k hk1)
  (t1 := fun k hk1 => by
    rw [hr 5 (by decide)]
    exact h.t1 k hk1)
  (nine := (congrFun (hr 12 (by decide)) 3).trans h.nine)
  (rt := fun k hk1 => by
    rw [hr 13 (by decide)]
    exact h.rt k hk1)
  (hd := fun k hk1 => by
    rw [hr 14 (by decide)]
    exact h.hd k hk1)
  (pr := fun k hk1 => by
    rw [hr 15 (by decide)]
    exact h.pr k hk1)
  (mf := (congrFun (hr 17 (by decide)) 4).trans h.mf)
  (nf := (congrFun (hr 17 (by decide)) 5).trans h.nf)
  (fa := fun i hk1 => by
    rw [hr 18 (by decide), hr 19 (by decide), hr 20 (by decide), hr 21 (by decide)]
    exact h.fa i hk1)
  (mw := (congrFun (hr 22 (by decide)) 4).trans h.mw)
  (nw := (congrFun (hr 22 (by decide)) 5).trans h.nw)
  (sw := fun i hk1 => by
    rw [hr 23 (by decide), hr 24 (by decide)]
    exact h.sw i hk1)
  (mc := em.trans h.mc)
  (nc := e0)
  (ca := fun i hk1 => by
    have hi1 : i < W.nc + 1 := hk1
    show s 28 i = z_u W.cm W.nc m i ∧ s 29 i = nI (z_u W.cd W.nc p i)
    rw [e1, e2]
    by_cases q : i = W.nc
    · rw [q, z_u_s, z_u_s, z_upd_s, z_upd_s]
      exact ⟨rfl, rfl⟩
    · rw [z_u_n _ _ q, z_u_n _ _ q, z_upd_n _ _ q, z_upd_n _ _ q]
      exact h.ca i (by omega))
  (rn := fun k hk1 => by
    rw [hr 32 (by decide)]
    exact h.rn k hk1)
  (sf0 := (congrFun (hr 48 (by decide)) 1).trans h.sf0)
  (ss0 := (congrFun (hr 48 (by decide)) 2).trans h.ss0)
  (si0 := fun j hk1 => by
    rw [hr 49 (by decide)]
    exact h.si0 j hk1)
  (sf1 := (congrFun (hr 50 (by decide)) 1).trans h.sf1)
  (ss1 := (congrFun (hr 50 (by decide)) 2).trans h.ss1)
  (si1 := fun j hk1 => by
    rw [hr 51 (by decide)]
    exact h.si1 j hk1)
  (sf2 := (congrFun (hr 52 (by decide)) 1).trans h.sf2)
  (ss2 := (congrFun (hr 52 (by decide)) 2).trans h.ss2)
  (si2 := fun j hk1 => by
    rw [hr 53 (by decide)]
    exact h.si2 j hk1)
  (sf3 := (congrFun (hr 54 (by decide)) 1).trans h.sf3)
  (ss3 := (congrFun (hr 54 (by decide)) 2).trans h.ss3)
  (si3 := fun j hk1 => by
    rw [hr 55 (by decide)]
    exact h.si3 j hk1)
theorem z_CP.rain {W : zW} {s σ : pi_S} (h : z_CP W σ) {k : Nat} {x : Int32} (e : s 32 = upd (σ 32) k x) (hr : pi_fr [32] s σ) : z_CP (W.sI 8 (upd W.rn k x)) s := z_CP.mk
  (wk := h.wk.rain)
  (fi := (congrFun (hr 0 (by decide)) 7).trans h.fi)
  (m0 := (congrFun (hr 2 (by decide)) 1).trans h.m0)
  (n0 := (congrFun (hr 2 (by decide)) 2).trans h.n0)
  (m1 := (congrFun (hr 4 (by decide)) 1).trans h.m1)
  (n1 := (congrFun (hr 4 (by decide)) 2).trans h.n1)
  (t0 := fun k hk1 => by
    rw [hr 3 (by decide)]
    exact h.t0 k hk1)
  (t1 := fun k hk1 => by
    rw [hr 5 (by decide)]
    exact h.t1 k hk1)
  (nine := (congrFun (hr 12 (by decide)) 3).trans h.nine)
  (rt := fun k hk1 => by
    rw [hr 13 (by decide)]
    exact h.rt k hk1)
  (hd := fun k hk1 => by
    rw [hr 14 (by decide)]
    exact h.hd k hk1)
  (pr := fun k hk1 => by
    rw [hr 15 (by decide)]
    exact h.pr k hk1)
  (mf := (congrFun (hr 17 (by decide)) 4).trans h.mf)
  (nf := (congrFun (hr 17 (by decide)) 5).trans h.nf)
  (fa := fun i hk1 => by
    rw [hr 18 (by decide), hr 19 (by decide), hr 20 (by decide), hr 21 (by decide)]
    exact h.fa i hk1)
  (mw := (congrFun (hr 22 (by decide)) 4).trans h.mw)
  (nw := (congrFun (hr 22 (by decide)) 5).trans h.nw)
  (sw := fun i hk1 => by
    rw [hr 23 (by decide), hr 24 (by decide)]
    exact h.sw i hk1)
  (mc := (congrFun (hr 27 (by decide)) 4).trans h.mc)
  (nc := (congrFun (hr 27 (by decide)) 5).trans h.nc)
  (ca := fun i hk1 => by
    rw [hr 28 (by decide), hr 29 (by decide)]
    exact h.ca i hk1)
  (rn := fun j hk1 => by
    rw [e]
    exact z_upd_at h.rn (by omega) (Or.inl (by omega)) j hk1)
  (sf0 := (congrFun (hr 48 (by decide)) 1).trans h.sf0)
  (ss0 := (congrFun (hr 48 (by decide)) 2).trans h.ss0)
  (si0 := fun j hk1 => by
    rw [hr 49 (by decide)]
    exact h.si0 j hk1)
  (sf1 := (congrFun (hr 50 (by decide)) 1).trans h.sf1)
  (ss1 := (congrFun (hr 50 (by decide)) 2).trans h.ss1)
  (si1 := fun j hk1 => by
    rw [hr 51 (by decide)]
    exact h.si1 j hk1)
  (sf2 := (congrFun (hr 52 (by decide)) 1).trans h.sf2)
  (ss2 := (congrFun (hr 52 (by decide)) 2).trans h.ss2)
  (si2 := fun j hk1 => by
    rw [hr 53 (by decide)]
    exact h.si2 j hk1)
  (sf3 := (congrFun (hr 54 (by decide)) 1).trans h.sf3)
  (ss3 := (congrFun (hr 54 (by decide)) 2).trans h.ss3)
  (si3 := fun j hk1 => by
    rw [hr 55 (by decide)]
    exact h.si3 j hk1)
theorem z_CP.un0 {W : zW} {s σ : pi_S} (h : z_CP W σ)  (em : s 17 4 = σ 17 4) (e : s 17 5 = nI (W.nf - 1)) (hr : pi_fr [17] s σ) : z_CP (W.sN 3 (W.nf - 1)) s := z_CP.mk
  (wk := h.wk.un0)
  (fi := (congrFun (hr 0 (by decide)) 7).trans h.fi)
  (m0 := (congrFun (hr 2 (by decide)) 1).trans h.m0)
  (n0 := (congrFun (hr 2 (by decide)) 2).trans h.n0)
  (m1 := (congrFun (hr 4 (by decide)) 1).trans h.m1)
  (n1 := (congrFun (hr 4 (by decide)) 2).trans h.n1)
  (t0 := fun k hk1 => by
    rw [hr 3 (by decide)]
    exact h.t0 k hk1)
  (t1 := fun k hk1 => by
    rw [hr 5 (by decide)]
    exact h.t1 k hk1)
  (nine := (congrFun (hr 12 (by decide)) 3).trans h.nine)
  (rt := fun k hk1 => by
    rw [hr 13 (by decide)]
    exact h.rt k hk1)
  (hd := fun k hk1 => by
    rw [hr 14 (by decide)]
    exact h.hd k hk1)
  (pr := fun k hk1 => by
    rw [hr 15 (by decide)]
    exact h.pr k hk1)
  (mf := em.trans h.mf)
  (nf := e)
  (fa := fun i hk1 => by
    have hi1 : i < W.nf - 1 := hk1
    rw [hr 18 (by decide), hr 19 (by decide), hr 20 (by decide), hr 21 (by decide)]
    exact h.fa i (by omega))
  (mw := (congrFun (hr 22 (by decide)) 4).trans h.mw)
  (nw := (congrFun (hr 22 (by decide)) 5).trans h.nw)
  (sw := fun i hk1 => by
    rw [hr 23 (by decide), hr 24 (by decide)]
    exact h.sw i hk1)
  (mc := (congrFun (hr 27 (by decide)) 4).trans h.mc)
  (nc := (congrFun (hr 27 (by decide)) 5).trans h.nc)
  (ca := fun i hk1 => by
    rw [hr 28 (by decide), hr 29 (by decide)]
    exact h.ca i hk1)
  (rn := fun k hk1 => by
    rw [hr 32 (by decide)]
    exact h.rn k hk1)
  (sf0 := (congrFun (hr 48 (by decide)) 1).trans h.sf0)
  (ss0 := (congrFun (hr 48 (by decide)) 2).trans h.ss0)
  (si0 := fun j hk1 => by
    rw [hr 49 (by decide)]
    exact h.si0 j hk1)
  (sf1 := (congrFun (hr 50 (by decide)) 1).trans h.sf1)
  (ss1 := (congrFun (hr 50 (by decide)) 2).trans h.ss1)
  (si1 := fun j hk1 => by
    rw [hr 51 (by decide)]
    exact h.si1 j hk1)
  (sf2 := (congrFun (hr 52 (by decide)) 1).trans h.sf2)
  (ss2 := (congrFun (hr 52 (by decide)) 2).trans h.ss2)
  (si2 := fun j hk1 => by
    rw [hr 53 (by decide)]
    exact h.si2 j hk1)
  (sf3 := (congrFun (hr 54 (by decide)) 1).trans h.sf3)
  (ss3 := (congrFun (hr 54 (by decide)) 2).trans h.ss3)
  (si3 := fun j hk1 => by
    rw [hr 55 (by decide)]
    exact h.si3 j hk1)
theorem z_CP.un1 {W : zW} {s σ : pi_S} (h : z_CP W σ)  (em : s 22 4 = σ 22 4) (e : s 22 5 = nI (W.nw - 1)) (hr : pi_fr [22] s σ) : z_CP (W.sN 4 (W.nw - 1)) s := z_CP.mk
  (wk := h.wk.un1)
  (fi := (congrFun (hr 0 (by decide)) 7).trans h.fi)
  (m0 := (congrFun (hr 2 (by decide)) 1).trans h.m0)
  (n0 := (congrFun (hr 2 (by decide)) 2).trans h.n0)
  (m1 := (congrFun (hr 4 (by decide)) 1).trans h.m1)
  (n1 := (congrFun (hr 4 (by decide)) 2).trans h.n1)
  (t0 := fun k hk1 => by
    rw [hr 3 (by decide)]
    exact h.t0 k hk1)
  (t1 := fun k hk1 => by
    rw [hr 5 (by decide)]
    exact h.t1 k hk1)
  (nine := (congrFun (hr 12 (by decide)) 3).trans h.nine)
  (rt := fun k hk1 => by
    rw [hr 13 (by decide)]
    exact h.rt k hk1)
  (hd := fun k hk1 => by
    rw [hr 14 (by decide)]
    exact h.hd k hk1)
  (pr := fun k hk1 => by
    rw [hr 15 (by decide)]
    exact h.pr k hk1)
  (mf := (congrFun (hr 17 (by decide)) 4).trans h.mf)
  (nf := (congrFun (hr 17 (by decide)) 5).trans h.nf)
  (fa := fun i hk1 => by
    rw [hr 18 (by decide), hr 19 (by decide), hr 20 (by decide), hr 21 (by decide)]
    exact h.fa i hk1)
  (mw := em.trans h.mw)
  (nw := e)
  (sw := fun i hk1 => by
    have hi1 : i < W.nw - 1 := hk1
    rw [hr 23 (by decide), hr 24 (by decide)]
    exact h.sw i (by omega))
  (mc := (congrFun (hr 27 (by decide)) 4).trans h.mc)
  (nc := (congrFun (hr 27 (by decide)) 5).trans h.nc)
  (ca := fun i hk1 => by
    rw [hr 28 (by decide), hr 29 (by decide)]
    exact h.ca i hk1)
  (rn := fun k hk1 => by
    rw [hr 32 (by decide)]
    exact h.rn k hk1)
  (sf0 := (congrFun (hr 48 (by decide)) 1).trans h.sf0)
  (ss0 := (congrFun (hr 48 (by decide)) 2).trans h.ss0)
  (si0 := fun j hk1 => by
    rw [hr 49 (by decide)]
    exact h.si0 j hk1)
  (sf1 := (congrFun (hr 50 (by decide)) 1).trans h.sf1)
  (ss1 := (congrFun (hr 50 (by decide)) 2).trans h.ss1)
  (si1 := fun j hk1 => by
    rw [hr 51 (by decide)]
    exact h.si1 j hk1)
  (sf2 := (congrFun (hr 52 (by decide)) 1).trans h.sf2)
  (ss2 := (congrFun (hr 52 (by decide)) 2).trans h.ss2)
  (si2 := fun j hk1 => by
    rw [hr 53 (by decide)]
    exact h.si2 j hk1)
  (sf3 := (congrFun (hr 54 (by decide)) 1).trans h.sf3)
  (ss3 := (congrFun (hr 54 (by decide)) 2).trans h.ss3)
  (si3 := fun j hk1 => by
    rw [hr 55 (by decide)]
    exact h.si3 j hk1)
theorem z_CP.un2 {W : zW} {s σ : pi_S} (h : z_CP W σ)  (em : s 27 4 = σ 27 4) (e : s 27 5 = nI (W.nc - 1)) (hr : pi_fr [27] s σ) : z_CP (W.sN 5 (W.nc - 1)) s := z_CP.mk
  (wk := h.wk.un2)
  (fi := (congrFun (hr 0 (by decide)) 7).trans h.fi)
  (m0 := (congrFun (hr 2 (by decide)) 1).trans h.m0)
  (n0 := (congrFun (hr 2 (by decide)) 2).trans h.n0)
  (m1 := (congrFun (hr 4 (by decide)) 1).trans h.m1)
  (n1 := (congrFun (hr 4 (by decide)) 2).trans h.n1)
  (t0 := fun k hk1 => by
    rw [hr 3 (by decide)]
    exact h.t0 k hk1)
  (t1 := fun k hk1 => by
    rw [hr 5 (by decide)]
    exact h.t1 k hk1)
  (nine := (congrFun (hr 12 (by decide)) 3).trans h.nine)
  (rt := fun k hk1 => by
    rw [hr 13 (by decide)]
    exact h.rt k hk1)
  (hd := fun k hk1 => by
    rw [hr 14 (by decide)]
    exact h.hd k hk1)
  (pr := fun k hk1 => by
    rw [hr 15 (by decide)]
    exact h.pr k hk1)
  (mf := (congrFun (hr 17 (by decide)) 4).trans h.mf)
  (nf := (congrFun (hr 17 (by decide)) 5).trans h.nf)
  (fa := fun i hk1 => by
    rw [hr 18 (by decide), hr 19 (by decide), hr 20 (by decide), hr 21 (by decide)]
    exact h.fa i hk1)
  (mw := (congrFun (hr 22 (by decide)) 4).trans h.mw)
  (nw := (congrFun (hr 22 (by decide)) 5).trans h.nw)
  (sw := fun i hk1 => by
    rw [hr 23 (by decide), hr 24 (by decide)]
    exact h.sw i hk1)
  (mc := em.trans h.mc)
  (nc := e)
  (ca := fun i hk1 => by
    have hi1 : i < W.nc - 1 := hk1
    rw [hr 28 (by decide), hr 29 (by decide)]
    exact h.ca i (by omega))
  (rn := fun k hk1 => by
    rw [hr 32 (by decide)]
    exact h.rn k hk1)
  (sf0 := (congrFun (hr 48 (by decide)) 1).trans h.sf0)
  (ss0 := (congrFun (hr 48 (by decide)) 2).trans h.ss0)
  (si0 := fun j hk1 => by
    rw [hr 49 (by decide)]
    exact h.si0 j hk1)
  (sf1 := (congrFun (hr 50 (by decide)) 1).trans h.sf1)
  (ss1 := (congrFun (hr 50 (by decide)) 2).trans h.ss1)
  (si1 := fun j hk1 => by
    rw [hr 51 (by decide)]
    exact h.si1 j hk1)
  (sf2 := (congrFun (hr 52 (by decide)) 1).trans h.sf2)
  (ss2 := (congrFun (hr 52 (by decide)) 2).trans h.ss2)
  (si2 := fun j hk1 => by
    rw [hr 53 (by decide)]
    exact h.si2 j hk1)
  (sf3 := (congrFun (hr 54 (by decide)) 1).trans h.sf3)
  (ss3 := (congrFun (hr 54 (by decide)) 2).trans h.ss3)
  (si3 := fun j hk1 => by
    rw [hr 55 (by decide)]
    exact h.si3 j hk1)
theorem z_CP.fnd {W : zW} {s σ : pi_S} (h : z_CP W σ) {x : Int32} (e : s 0 7 = x) (hr : pi_fr [0] s σ) : z_CP (W.sS 0 x) s := z_CP.mk
  (wk := h.wk.fnd)
  (fi := e)
  (m0 := (congrFun (hr 2 (by decide)) 1).trans h.m0)
  (n0 := (congrFun (hr 2 (by decide)) 2).trans h.n0)
  (m1 := (congrFun (hr 4 (by decide)) 1).trans h.m1)
  (n1 := (congrFun (hr 4 (by decide)) 2).trans h.n1)
  (t0 := fun k hk1 => by
    rw [hr 3 (by decide)]
    exact h.t0 k hk1)
  (t1 := fun k hk1 => by
    rw [hr 5 (by decide)]
    exact h.t1 k hk1)
  (nine := (congrFun (hr 12 (by decide)) 3).trans h.nine)
  (rt := fun k hk1 => by
    rw [hr 13 (by decide)]
    exact h.rt k hk1)
  (hd := fun k hk1 => by
    rw [hr 14 (by decide)]
    exact h.hd k hk1)
  (pr := fun k hk1 => by
    rw [hr 15 (by decide)]
    exact h.pr k hk1)
  (mf := (congrFun (hr 17 (by decide)) 4).trans h.mf)
  (nf := (congrFun (hr 17 (by decide)) 5).trans h.nf)
  (fa := fun i hk1 => by
    rw [hr 18 (by decide), hr 19 (by decide), hr 20 (by decide), hr 21 (by decide)]
    exact h.fa i hk1)
  (mw := (congrFun (hr 22 (by decide)) 4).trans h.mw)
  (nw := (congrFun (hr 22 (by decide)) 5).trans h.nw)
  (sw := fun i hk1 => by
    rw [hr 23 (by decide), hr 24 (by decide)]
    exact h.sw i hk1)
  (mc := (congrFun (hr 27 (by decide)) 4).trans h.mc)
  (nc := (congrFun (hr 27 (by decide)) 5).trans h.nc)
  (ca := fun i hk1 => by
    rw [hr 28 (by decide), hr 29 (by decide)]
    exact h.ca i hk1)
  (rn := fun k hk1 => by
    rw [hr 32 (by decide)]
    exact h.rn k hk1)
  (sf0 := (congrFun (hr 48 (by decide)) 1).trans h.sf0)
  (ss0 := (congrFun (hr 48 (by decide)) 2).trans h.ss0)
  (si0 := fun j hk1 => by
    rw [hr 49 (by decide)]
    exact h.si0 j hk1)
  (sf1 := (congrFun (hr 50 (by decide)) 1).trans h.sf1)
  (ss1 := (congrFun (hr 50 (by decide)) 2).trans h.ss1)
  (si1 := fun j hk1 => by
    rw [hr 51 (by decide)]
    exact h.si1 j hk1)
  (sf2 := (congrFun (hr 52 (by decide)) 1).trans h.sf2)
  (ss2 := (congrFun (hr 52 (by decide)) 2).trans h.ss2)
  (si2 := fun j hk1 => by
    rw [hr 53 (by decide)]
    exact h.si2 j hk1)
  (sf3 := (congrFun (hr 54 (by decide)) 1).trans h.sf3)
  (ss3 := (congrFun (hr 54 (by decide)) 2).trans h.ss3)
  (si3 := fun j hk1 => by
    rw [hr 55 (by decide)]
    exact h.si3 j hk1)
theorem z_sz_c {W V : zW} {k : Nat} (h1 : V.th k = W.th k) (h2 : V.si k = W.si k) : z_sz V k = z_sz W k := by
  unfold z_sz
  rw [h1, h2]
theorem z_48 {a b j q : Nat} (hj : j < 48) (hq : q < 48) (h : a ≠ b) : 48 * a + j ≠ 48 * b + q := by omega
theorem z_c48_at (k : Nat) (g : Nat → Int32) : ∀ n i, (∀ j, j < n → i ≠ 48 * k + j) → z_c48 k n g i = g i := by
  intro n
  induction n with
  | zero => intro i _; rfl
  | succ n ih =>
    intro i h
    show upd (z_c48 k n g) (48 * k + n) (nI 0) i = g i
    rw [z_upd_n _ _ (h n (by omega)), ih i (fun j hj => h j (by omega))]
theorem z_c48_in (k : Nat) (g : Nat → Int32) : ∀ n j, j < n → z_c48 k n g (48 * k + j) = nI 0 := by
  intro n
  induction n with
  | zero => intro j h; omega
  | succ n ih =>
    intro j h
    show upd (z_c48 k n g) (48 * k + n) (nI 0) (48 * k + j) = nI 0
    by_cases q : j = n
    · rw [q, z_upd_s]
    · rw [z_upd_n _ _ (by omega)]
      exact ih j (by omega)
theorem z_CP.sheet0 {W : zW} {s σ : pi_S} (h : z_CP W σ) {f n : Nat} (hf : f < 3) (hn : n ≤ 48) (e1 : s 48 1 = nI f) (e2 : s 48 2 = nI n) (e3 : ∀ j, j < 48 → s 49 j = nI 0) (hr : pi_fr [48, 49] s σ) : z_CP ((((W.sF 8 (z_u W.th 0 1)).sF 4 (z_u W.fo 0 f)).sF 5 (z_u W.si 0 n)).sI 9 (z_c48 0 48 W.it)) s := z_CP.mk
  (wk := h.wk.sheet hf hn)
  (fi := (congrFun (hr 0 (by decide)) 7).trans h.fi)
  (m0 := (congrFun (hr 2 (by decide)) 1).trans h.m0)
  (n0 := (congrFun (hr 2 (by decide)) 2).trans h.n0)
  (m1 := (congrFun (hr 4 (by decide)) 1).trans h.m1)
  (n1 := (congrFun (hr 4 (by decide)) 2).trans h.n1)
  (t0 := fun k hk1 => by
    rw [hr 3 (by decide)]
    exact h.t0 k hk1)
  (t1 := fun k hk1 => by
    rw [hr 5 (by decide)]
    exact h.t1 k hk1)
  (nine := (congrFun (hr 12 (by decide)) 3).trans h.nine)
  (rt := fun k hk1 => by
    rw [hr 13 (by decide)]
    exact h.rt k hk1)
  (hd := fun k hk1 => by
    rw [hr 14 (by decide)]
    exact h.hd k hk1)
  (pr := fun k hk1 => by
    rw [hr 15 (by decide)]
    exact h.pr k hk1)
  (mf := (congrFun (hr 17 (by decide)) 4).trans h.mf)
  (nf := (congrFun (hr 17 (by decide)) 5).trans h.nf)
  (fa := fun i hk1 => by
    rw [hr 18 (by decide), hr 19 (by decide), hr 20 (by decide), hr 21 (by decide)]
    exact h.fa i hk1)
  (mw := (congrFun (hr 22 (by decide)) 4).trans h.mw)
  (nw := (congrFun (hr 22 (by decide)) 5).trans h.nw)
  (sw := fun i hk1 => by
    rw [hr 23 (by decide), hr 24 (by decide)]
    exact h.sw i hk1)
  (mc := (congrFun (hr 27 (by decide)) 4).trans h.mc)
  (nc := (congrFun (hr 27 (by decide)) 5).trans h.nc)
  (ca := fun i hk1 => by
    rw [hr 28 (by decide), hr 29 (by decide)]
    exact h.ca i hk1)
  (rn := fun k hk1 => by
    rw [hr 32 (by decide)]
    exact h.rn k hk1)
  (sf0 := e1)
  (ss0 := e2)
  (si0 := fun j hk1 => (e3 j hk1).trans (z_c48_in 0 W.it 48 j hk1).symm)
  (sf1 := (congrFun (hr 50 (by decide)) 1).trans h.sf1)
  (ss1 := (congrFun (hr 50 (by decide)) 2).trans h.ss1)
  (si1 := fun j hk1 => by
    rw [hr 51 (by decide)]
    exact (h.si1 j hk1).trans (z_c48_at 0 W.it 48 _ (fun q hq => z_48 hk1 hq (by omega))).symm)
  (sf2 := (congrFun (hr 52 (by decide)) 1).trans h.sf2)
  (ss2 := (congrFun (hr 52 (by decide)) 2).trans h.ss2)
  (si2 := fun j hk1 => by
    rw [hr 53 (by decide)]
    exact (h.si2 j hk1).trans (z_c48_at 0 W.it 48 _ (fun q hq => z_48 hk1 hq (by omega))).symm)
  (sf3 := (congrFun (hr 54 (by decide)) 1).trans h.sf3)
  (ss3 := (congrFun (hr 54 (by decide)) 2).trans h.ss3)
  (si3 := fun j hk1 => by
    rw [hr 55 (by decide)]
    exact (h.si3 j hk1).trans (z_c48_at 0 W.it 48 _ (fun q hq => z_48 hk1 hq (by omega))).symm)
theorem z_CP.lose0 {W : zW} {s σ : pi_S} (h : z_CP W σ)  (e1 : s 48 1 = σ 48 1) (e2 : s 48 2 = -1) (hr : pi_fr [48] s σ) : z_CP (W.sF 8 (z_u W.th 0 0)) s := z_CP.mk
  (wk := h.wk.lose)
  (fi := (congrFun (hr 0 (by decide)) 7).trans h.fi)
  (m0 := (congrFun (hr 2 (by decide)) 1).trans h.m0)
  (n0 := (congrFun (hr 2 (by decide)) 2).trans h.n0)
  (m1 := (congrFun (hr 4 (by decide)) 1).trans h.m1)
  (n1 := (congrFun (hr 4 (by decide)) 2).trans h.n1)
  (t0 := fun k hk1 => by
    rw [hr 3 (by decide)]
    exact h.t0 k hk1)
  (t1 := fun k hk1 => by
    rw [hr 5 (by decide)]
    exact h.t1 k hk1)
  (nine := (congrFun (hr 12 (by decide)) 3).trans h.nine)
  (rt := fun k hk1 => by
    rw [hr 13 (by decide)]
    exact h.rt k hk1)
  (hd := fun k hk1 => by
    rw [hr 14 (by decide)]
    exact h.hd k hk1)
  (pr := fun k hk1 => by
    rw [hr 15 (by decide)]
    exact h.pr k hk1)
  (mf := (congrFun (hr 17 (by decide)) 4).trans h.mf)
  (nf := (congrFun (hr 17 (by decide)) 5).trans h.nf)
  (fa := fun i hk1 => by
    rw [hr 18 (by decide), hr 19 (by decide), hr 20 (by decide), hr 21 (by decide)]
    exact h.fa i hk1)
  (mw := (congrFun (hr 22 (by decide)) 4).trans h.mw)
  (nw := (congrFun (hr 22 (by decide)) 5).trans h.nw)
  (sw := fun i hk1 => by
    rw [hr 23 (by decide), hr 24 (by decide)]
    exact h.sw i hk1)
  (mc := (congrFun (hr 27 (by decide)) 4).trans h.mc)
  (nc := (congrFun (hr 27 (by decide)) 5).trans h.nc)
  (ca := fun i hk1 => by
    rw [hr 28 (by decide), hr 29 (by decide)]
    exact h.ca i hk1)
  (rn := fun k hk1 => by
    rw [hr 32 (by decide)]
    exact h.rn k hk1)
  (sf0 := e1.trans h.sf0)
  (ss0 := e2)
  (si0 := fun j hk1 => by
    rw [hr 49 (by decide)]
    exact h.si0 j hk1)
  (sf1 := (congrFun (hr 50 (by decide)) 1).trans h.sf1)
  (ss1 := (congrFun (hr 50 (by decide)) 2).trans h.ss1)
  (si1 := fun j hk1 => by
    rw [hr 51 (by decide)]
    exact h.si1 j hk1)
  (sf2 := (congrFun (hr 52 (by decide)) 1).trans h.sf2)
  (ss2 := (congrFun (hr 52 (by decide)) 2).trans h.ss2)
  (si2 := fun j hk1 => by
    rw [hr 53 (by decide)]
    exact h.si2 j hk1)
  (sf3 := (congrFun (hr 54 (by decide)) 1).trans h.sf3)
  (ss3 := (congrFun (hr 54 (by decide)) 2).trans h.ss3)
  (si3 := fun j hk1 => by
    rw [hr 55 (by decide)]
    exact h.si3 j hk1)
theorem z_CP.it0 {W : zW} {s σ : pi_S} (h : z_CP W σ) {g : Nat → Int32} (e : ∀ j, j < 48 → s 49 j = g (48 * 0 + j)) (eo : ∀ i, (∀ q, q < 48 → i ≠ 48 * 0 + q) → g i = W.it i) (hr : pi_fr [49] s σ) : z_CP (W.sI 9 g) s := z_CP.mk
  (wk := h.wk.it_)
  (fi := (congrFun (hr 0 (by decide)) 7).trans h.fi)
  (m0 := (congrFun (hr 2 (by decide)) 1).trans h.m0)
  (n0 := (congrFun (hr 2 (by decide)) 2).trans h.n0)
  (m1 := (congrFun (hr 4 (by decide)) 1).trans h.m1)
  (n1 := (congrFun (hr 4 (by decide)) 2).trans h.n1)
  (t0 := fun k hk1 => by
    rw [hr 3 (by decide)]
    exact h.t0 k hk1)
  (t1 := fun k hk1 => by
    rw [hr 5 (by decide)]
    exact h.t1 k hk1)
  (nine := (congrFun (hr 12 (by decide)) 3).trans h.nine)
  (rt := fun k hk1 => by
    rw [hr 13 (by decide)]
    exact h.rt k hk1)
  (hd := fun k hk1 => by
    rw [hr 14 (by decide)]
    exact h.hd k hk1)
  (pr := fun k hk1 => by
    rw [hr 15 (by decide)]
    exact h.pr k hk1)
  (mf := (congrFun (hr 17 (by decide)) 4).trans h.mf)
  (nf := (congrFun (hr 17 (by decide)) 5).trans h.nf)
  (fa := fun i hk1 => by
    rw [hr 18 (by decide), hr 19 (by decide), hr 20 (by decide), hr 21 (by decide)]
    exact h.fa i hk1)
  (mw := (congrFun (hr 22 (by decide)) 4).trans h.mw)
  (nw := (congrFun (hr 22 (by decide)) 5).trans h.nw)
  (sw := fun i hk1 => by
    rw [hr 23 (by decide), hr 24 (by decide)]
    exact h.sw i hk1)
  (mc := (congrFun (hr 27 (by decide)) 4).trans h.mc)
  (nc := (congrFun (hr 27 (by decide)) 5).trans h.nc)
  (ca := fun i hk1 => by
    rw [hr 28 (by decide), hr 29 (by decide)]
    exact h.ca i hk1)
  (rn := fun k hk1 => by
    rw [hr 32 (by decide)]
    exact h.rn k hk1)
  (sf0 := (congrFun (hr 48 (by decide)) 1).trans h.sf0)
  (ss0 := (congrFun (hr 48 (by decide)) 2).trans h.ss0)
  (si0 := e)
  (sf1 := (congrFun (hr 50 (by decide)) 1).trans h.sf1)
  (ss1 := (congrFun (hr 50 (by decide)) 2).trans h.ss1)
  (si1 := fun j hk1 => by
    rw [hr 51 (by decide)]
    exact (h.si1 j hk1).trans (eo _ (fun q hq => z_48 hk1 hq (by omega))).symm)
  (sf2 := (congrFun (hr 52 (by decide)) 1).trans h.sf2)
  (ss2 := (congrFun (hr 52 (by decide)) 2).trans h.ss2)
  (si2 := fun j hk1 => by
    rw [hr 53 (by decide)]
    exact (h.si2 j hk1).trans (eo _ (fun q hq => z_48 hk1 hq (by omega))).symm)
  (sf3 := (congrFun (hr 54 (by decide)) 1).trans h.sf3)
  (ss3 := (congrFun (hr 54 (by decide)) 2).trans h.ss3)
  (si3 := fun j hk1 => by
    rw [hr 55 (by decide)]
    exact (h.si3 j hk1).trans (eo _ (fun q hq => z_48 hk1 hq (by omega))).symm)
theorem z_CP.sheet1 {W : zW} {s σ : pi_S} (h : z_CP W σ) {f n : Nat} (hf : f < 3) (hn : n ≤ 48) (e1 : s 50 1 = nI f) (e2 : s 50 2 = nI n) (e3 : ∀ j, j < 48 → s 51 j = nI 0) (hr : pi_fr [50, 51] s σ) : z_CP ((((W.sF 8 (z_u W.th 1 1)).sF 4 (z_u W.fo 1 f)).sF 5 (z_u W.si 1 n)).sI 9 (z_c48 1 48 W.it)) s := z_CP.mk
  (wk := h.wk.sheet hf hn)
  (fi := (congrFun (hr 0 (by decide)) 7).trans h.fi)
  (m0 := (congrFun (hr 2 (by decide)) 1).trans h.m0)
  (n0 := (congrFun (hr 2 (by decide)) 2).trans h.n0)
  (m1 := (congrFun (hr 4 (by decide)) 1).trans h.m1)
  (n1 := (congrFun (hr 4 (by decide)) 2).trans h.n1)
  (t0 := fun k hk1 => by
    rw [hr 3 (by decide)]
    exact h.t0 k hk1)
  (t1 := fun k hk1 => by
    rw [hr 5 (by decide)]
    exact h.t1 k hk1)
  (nine := (congrFun (hr 12 (by decide)) 3).trans h.nine)
  (rt := fun k hk1 => by
    rw [hr 13 (by decide)]
    exact h.rt k hk1)
  (hd := fun k hk1 => by
    rw [hr 14 (by decide)]
    exact h.hd k hk1)
  (pr := fun k hk1 => by
    rw [hr 15 (by decide)]
    exact h.pr k hk1)
  (mf := (congrFun (hr 17 (by decide)) 4).trans h.mf)
  (nf := (congrFun (hr 17 (by decide)) 5).trans h.nf)
  (fa := fun i hk1 => by
    rw [hr 18 (by decide), hr 19 (by decide), hr 20 (by decide), hr 21 (by decide)]
    exact h.fa i hk1)
  (mw := (congrFun (hr 22 (by decide)) 4).trans h.mw)
  (nw := (congrFun (hr 22 (by decide)) 5).trans h.nw)
  (sw := fun i hk1 => by
    rw [hr 23 (by decide), hr 24 (by decide)]
    exact h.sw i hk1)
  (mc := (congrFun (hr 27 (by decide)) 4).trans h.mc)
  (nc := (congrFun (hr 27 (by decide)) 5).trans h.nc)
  (ca := fun i hk1 => by
    rw [hr 28 (by decide), hr 29 (by decide)]
    exact h.ca i hk1)
  (rn := fun k hk1 => by
    rw [hr 32 (by decide)]
    exact h.rn k hk1)
  (sf0 := (congrFun (hr 48 (by decide)) 1).trans h.sf0)
  (ss0 := (congrFun (hr 48 (by decide)) 2).trans h.ss0)
  (si0 := fun j hk1 => by
    rw [hr 49 (by decide)]
    exact (h.si0 j hk1).trans (z_c48_at 1 W.it 48 _ (fun q hq => z_48 hk1 hq (by omega))).symm)
  (sf1 := e1)
  (ss1 := e2)
  (si1 := fun j hk1 => (e3 j hk1).trans (z_c48_in 1 W.it 48 j hk1).symm)
  (sf2 := (congrFun (hr 52 (by decide)) 1).trans h.sf2)
  (ss2 := (congrFun (hr 52 (by decide)) 2).trans h.ss2)
  (si2 := fun j hk1 => by
    rw [hr 53 (by decide)]
    exact (h.si2 j hk1).trans (z_c48_at 1 W.it 48 _ (fun q hq => z_48 hk1 hq (by omega))).symm)
  (sf3 := (congrFun (hr 54 (by decide)) 1).trans h.sf3)
  (ss3 := (congrFun (hr 54 (by decide)) 2).trans h.ss3)
  (si3 := fun j hk1 => by
    rw [hr 55 (by decide)]
    exact (h.si3 j hk1).trans (z_c48_at 1 W.it 48 _ (fun q hq => z_48 hk1 hq (by omega))).symm)
theorem z_CP.lose1 {W : zW} {s σ : pi_S} (h : z_CP W σ)  (e1 : s 50 1 = σ 50 1) (e2 : s 50 2 = -1) (hr : pi_fr [50] s σ) : z_CP (W.sF 8 (z_u W.th 1 0)) s := z_CP.mk
  (wk := h.wk.lose)
  (fi := (congrFun (hr 0 (by decide)) 7).trans h.fi)
  (m0 := (congrFun (hr 2 (by decide)) 1).trans h.m0)
  (n0 := (congrFun (hr 2 (by decide)) 2).trans h.n0)
  (m1 := (congrFun (hr 4 (by decide)) 1).trans h.m1)
  (n1 := (congrFun (hr 4 (by decide)) 2).trans h.n1)
  (t0 := fun k hk1 => by
    rw [hr 3 (by decide)]
    exact h.t0 k hk1)
  (t1 := fun k hk1 => by
    rw [hr 5 (by decide)]
    exact h.t1 k hk1)
  (nine := (congrFun (hr 12 (by decide)) 3).trans h.nine)
  (rt := fun k hk1 => by
    rw [hr 13 (by decide)]
    exact h.rt k hk1)
  (hd := fun k hk1 => by
    rw [hr 14 (by decide)]
    exact h.hd k hk1)
  (pr := fun k hk1 => by
    rw [hr 15 (by decide)]
    exact h.pr k hk1)
  (mf := (congrFun (hr 17 (by decide)) 4).trans h.mf)
  (nf := (congrFun (hr 17 (by decide)) 5).trans h.nf)
  (fa := fun i hk1 => by
    rw [hr 18 (by decide), hr 19 (by decide), hr 20 (by decide), hr 21 (by decide)]
    exact h.fa i hk1)
  (mw := (congrFun (hr 22 (by decide)) 4).trans h.mw)
  (nw := (congrFun (hr 22 (by decide)) 5).trans h.nw)
  (sw := fun i hk1 => by
    rw [hr 23 (by decide), hr 24 (by decide)]
    exact h.sw i hk1)
  (mc := (congrFun (hr 27 (by decide)) 4).trans h.mc)
  (nc := (congrFun (hr 27 (by decide)) 5).trans h.nc)
  (ca := fun i hk1 => by
    rw [hr 28 (by decide), hr 29 (by decide)]
    exact h.ca i hk1)
  (rn := fun k hk1 => by
    rw [hr 32 (by decide)]
    exact h.rn k hk1)
  (sf0 := (congrFun (hr 48 (by decide)) 1).trans h.sf0)
  (ss0 := (congrFun (hr 48 (by decide)) 2).trans h.ss0)
  (si0 := fun j hk1 => by
    rw [hr 49 (by decide)]
    exact h.si0 j hk1)
  (sf1 := e1.trans h.sf1)
  (ss1 := e2)
  (si1 := fun j hk1 => by
    rw [hr 51 (by decide)]
    exact h.si1 j hk1)
  (sf2 := (congrFun (hr 52 (by decide)) 1).trans h.sf2)
  (ss2 := (congrFun (hr 52 (by decide)) 2).trans h.ss2)
  (si2 := fun j hk1 => by
    rw [hr 53 (by decide)]
    exact h.si2 j hk1)
  (sf3 := (congrFun (hr 54 (by decide)) 1).trans h.sf3)
  (ss3 := (congrFun (hr 54 (by decide)) 2).trans h.ss3)
  (si3 := fun j hk1 => by
    rw [hr 55 (by decide)]
    exact h.si3 j hk1)
theorem z_CP.it1 {W : zW} {s σ : pi_S} (h : z_CP W σ) {g : Nat → Int32} (e : ∀ j, j < 48 → s 51 j = g (48 * 1 + j)) (eo : ∀ i, (∀ q, q < 48 → i ≠ 48 * 1 + q) → g i = W.it i) (hr : pi_fr [51] s σ) : z_CP (W.sI 9 g) s := z_CP.mk
  (wk := h.wk.it_)
  (fi := (congrFun (hr 0 (by decide)) 7).trans h.fi)
  (m0 := (congrFun (hr 2 (by decide)) 1).trans h.m0)
  (n0 := (congrFun (hr 2 (by decide)) 2).trans h.n0)
  (m1 := (congrFun (hr 4 (by decide)) 1).trans h.m1)
  (n1 := (congrFun (hr 4 (by decide)) 2).trans h.n1)
  (t0 := fun k hk1 => by
    rw [hr 3 (by decide)]
    exact h.t0 k hk1)
  (t1 := fun k hk1 => by
    rw [hr 5 (by decide)]
    exact h.t1 k hk1)
  (nine := (congrFun (hr 12 (by decide)) 3).trans h.nine)
  (rt := fun k hk1 => by
    rw [hr 13 (by decide)]
    exact h.rt k hk1)
  (hd := fun k hk1 => by
    rw [hr 14 (by decide)]
    exact h.hd k hk1)
  (pr := fun k hk1 => by
    rw [hr 15 (by decide)]
    exact h.pr k hk1)
  (mf := (congrFun (hr 17 (by decide)) 4).trans h.mf)
  (nf := (congrFun (hr 17 (by decide)) 5).trans h.nf)
  (fa := fun i hk1 => by
    rw [hr 18 (by decide), hr 19 (by decide), hr 20 (by decide), hr 21 (by decide)]
    exact h.fa i hk1)
  (mw := (congrFun (hr 22 (by decide)) 4).trans h.mw)
  (nw := (congrFun (hr 22 (by decide)) 5).trans h.nw)
  (sw := fun i hk1 => by
    rw [hr 23 (by decide), hr 24 (by decide)]
    exact h.sw i hk1)
  (mc := (congrFun (hr 27 (by decide)) 4).trans h.mc)
  (nc := (congrFun (hr 27 (by decide)) 5).trans h.nc)
  (ca := fun i hk1 => by
    rw [hr 28 (by decide), hr 29 (by decide)]
    exact h.ca i hk1)
  (rn := fun k hk1 => by
    rw [hr 32 (by decide)]
    exact h.rn k hk1)
  (sf0 := (congrFun (hr 48 (by decide)) 1).trans h.sf0)
  (ss0 := (congrFun (hr 48 (by decide)) 2).trans h.ss0)
  (si0 := fun j hk1 => by
    rw [hr 49 (by decide)]
    exact (h.si0 j hk1).trans (eo _ (fun q hq => z_48 hk1 hq (by omega))).symm)
  (sf1 := (congrFun (hr 50 (by decide)) 1).trans h.sf1)
  (ss1 := (congrFun (hr 50 (by decide)) 2).trans h.ss1)
  (si1 := e)
  (sf2 := (congrFun (hr 52 (by decide)) 1).trans h.sf2)
  (ss2 := (congrFun (hr 52 (by decide)) 2).trans h.ss2)
  (si2 := fun j hk1 => by
    rw [hr 53 (by decide)]
    exact (h.si2 j hk1).trans (eo _ (fun q hq => z_48 hk1 hq (by omega))).symm)
  (sf3 := (congrFun (hr 54 (by decide)) 1).trans h.sf3)
  (ss3 := (congrFun (hr 54 (by decide)) 2).trans h.ss3)
  (si3 := fun j hk1 => by
    rw [hr 55 (by decide)]
    exact (h.si3 j hk1).trans (eo _ (fun q hq => z_48 hk1 hq (by omega))).symm)
theorem z_CP.sheet2 {W : zW} {s σ : pi_S} (h : z_CP W σ) {f n : Nat} (hf : f < 3) (hn : n ≤ 48) (e1 : s 52 1 = nI f) (e2 : s 52 2 = nI n) (e3 : ∀ j, j < 48 → s 53 j = nI 0) (hr : pi_fr [52, 53] s σ) : z_CP ((((W.sF 8 (z_u W.th 2 1)).sF 4 (z_u W.fo 2 f)).sF 5 (z_u W.si 2 n)).sI 9 (z_c48 2 48 W.it)) s := z_CP.mk
  (wk := h.wk.sheet hf hn)
  (fi := (congrFun (hr 0 (by decide)) 7).trans h.fi)
  (m0 := (congrFun (hr 2 (by decide)) 1).trans h.m0)
  (n0 := (congrFun (hr 2 (by decide)) 2).trans h.n0)
  (m1 := (congrFun (hr 4 (by decide)) 1).trans h.m1)
  (n1 := (congrFun (hr 4 (by decide)) 2).trans h.n1)
  (t0 := fun k hk1 => by
    rw [hr 3 (by decide)]
    exact h.t0 k hk1)
  (t1 := fun k hk1 => by
    rw [hr 5 (by decide)]
    exact h.t1 k hk1)
  (nine := (congrFun (hr 12 (by decide)) 3).trans h.nine)
  (rt := fun k hk1 => by
    rw [hr 13 (by decide)]
    exact h.rt k hk1)
  (hd := fun k hk1 => by
    rw [hr 14 (by decide)]
    exact h.hd k hk1)
  (pr := fun k hk1 => by
    rw [hr 15 (by decide)]
    exact h.pr k hk1)
  (mf := (congrFun (hr 17 (by decide)) 4).trans h.mf)
  (nf := (congrFun (hr 17 (by decide)) 5).trans h.nf)
  (fa := fun i hk1 => by
    rw [hr 18 (by decide), hr 19 (by decide), hr 20 (by decide), hr 21 (by decide)]
    exact h.fa i hk1)
  (mw := (congrFun (hr 22 (by decide)) 4).trans h.mw)
  (nw := (congrFun (hr 22 (by decide)) 5).trans h.nw)
  (sw := fun i hk1 => by
    rw [hr 23 (by decide), hr 24 (by decide)]
    exact h.sw i hk1)
  (mc := (congrFun (hr 27 (by decide)) 4).trans h.mc)
  (nc := (congrFun (hr 27 (by decide)) 5).trans h.nc)
  (ca := fun i hk1 => by
    rw [hr 28 (by decide), hr 29 (by decide)]
    exact h.ca i hk1)
  (rn := fun k hk1 => by
    rw [hr 32 (by decide)]
    exact h.rn k hk1)
  (sf0 := (congrFun (hr 48 (by decide)) 1).trans h.sf0)
  (ss0 := (congrFun (hr 48 (by decide)) 2).trans h.ss0)
  (si0 := fun j hk1 => by
    rw [hr 49 (by decide)]
    exact (h.si0 j hk1).trans (z_c48_at 2 W.it 48 _ (fun q hq => z_48 hk1 hq (by omega))).symm)
  (sf1 := (congrFun (hr 50 (by decide)) 1).trans h.sf1)
  (ss1 := (congrFun (hr 50 (by decide)) 2).trans h.ss1)
  (si1 := fun j hk1 => by
    rw [hr 51 (by decide)]
    exact (h.si1 j hk1).trans (z_c48_at 2 W.it 48 _ (fun q hq => z_48 hk1 hq (by omega))).symm)
  (sf2 := e1)
  (ss2 := e2)
  (si2 := fun j hk1 => (e3 j hk1).trans (z_c48_in 2 W.it 48 j hk1).symm)
  (sf3 := (congrFun (hr 54 (by decide)) 1).trans h.sf3)
  (ss3 := (congrFun (hr 54 (by decide)) 2).trans h.ss3)
  (si3 := fun j hk1 => by
    rw [hr 55 (by decide)]
    exact (h.si3 j hk1).trans (z_c48_at 2 W.it 48 _ (fun q hq => z_48 hk1 hq (by omega))).symm)
theorem z_CP.lose2 {W : zW} {s σ : pi_S} (h : z_CP W σ)  (e1 : s 52 1 = σ 52 1) (e2 : s 52 2 = -1) (hr : pi_fr [52] s σ) : z_CP (W.sF 8 (z_u W.th 2 0)) s := z_CP.mk
  (wk := h.wk.lose)
  (fi := (congrFun (hr 0 (by decide)) 7).trans h.fi)
  (m0 := (congrFun (hr 2 (by decide)) 1).trans h.m0)
  (n0 := (congrFun (hr 2 (by decide)) 2).trans h.n0)
  (m1 := (congrFun (hr 4 (by decide)) 1).trans h.m1)
  (n1 := (congrFun (hr 4 (by decide)) 2).trans h.n1)
  (t0 := fun k hk1 => by
    rw [hr 3 (by decide)]
    exact h.t0 k hk1)
  (t1 := fun k hk1 => by
    rw [hr 5 (by decide)]
    exact h.t1 k hk1)
  (nine := (congrFun (hr 12 (by decide)) 3).trans h.nine)
  (rt := fun k hk1 => by
    rw [hr 13 (by decide)]
    exact h.rt k hk1)
  (hd := fun k hk1 => by
    rw [hr 14 (by decide)]
    exact h.hd k hk1)
  (pr := fun k hk1 => by
    rw [hr 15 (by decide)]
    exact h.pr k hk1)
  (mf := (congrFun (hr 17 (by decide)) 4).trans h.mf)
  (nf := (congrFun (hr 17 (by decide)) 5).trans h.nf)
  (fa := fun i hk1 => by
    rw [hr 18 (by decide), hr 19 (by decide), hr 20 (by decide), hr 21 (by decide)]
    exact h.fa i hk1)
  (mw := (congrFun (hr 22 (by decide)) 4).trans h.mw)
  (nw := (congrFun (hr 22 (by decide)) 5).trans h.nw)
  (sw := fun i hk1 => by
    rw [hr 23 (by decide), hr 24 (by decide)]
    exact h.sw i hk1)
  (mc := (congrFun (hr 27 (by decide)) 4).trans h.mc)
  (nc := (congrFun (hr 27 (by decide)) 5).trans h.nc)
  (ca := fun i hk1 => by
    rw [hr 28 (by decide), hr 29 (by decide)]
    exact h.ca i hk1)
  (rn := fun k hk1 => by
    rw [hr 32 (by decide)]
    exact h.rn k hk1)
  (sf0 := (congrFun (hr 48 (by decide)) 1).trans h.sf0)
  (ss0 := (congrFun (hr 48 (by decide)) 2).trans h.ss0)
  (si0 := fun j hk1 => by
    rw [hr 49 (by decide)]
    exact h.si0 j hk1)
  (sf1 := (congrFun (hr 50 (by decide)) 1).trans h.sf1)
  (ss1 := (congrFun (hr 50 (by decide)) 2).trans h.ss1)
  (si1 := fun j hk1 => by
    rw [hr 51 (by decide)]
    exact h.si1 j hk1)
  (sf2 := e1.trans h.sf2)
  (ss2 := e2)
  (si2 := fun j hk1 => by
    rw [hr 53 (by decide)]
    exact h.si2 j hk1)
  (sf3 := (congrFun (hr 54 (by decide)) 1).trans h.sf3)
  (ss3 := (congrFun (hr 54 (by decide)) 2).trans h.ss3)
  (si3 := fun j hk1 => by
    rw [hr 55 (by decide)]
    exact h.si3 j hk1)
theorem z_CP.it2 {W : zW} {s σ : pi_S} (h : z_CP W σ) {g : Nat → Int32} (e : ∀ j, j < 48 → s 53 j = g (48 * 2 + j)) (eo : ∀ i, (∀ q, q < 48 → i ≠ 48 * 2 + q) → g i = W.it i) (hr : pi_fr [53] s σ) : z_CP (W.sI 9 g) s := z_CP.mk
  (wk := h.wk.it_)
  (fi := (congrFun (hr 0 (by decide)) 7).trans h.fi)
  (m0 := (congrFun (hr 2 (by decide)) 1).trans h.m0)
  (n0 := (congrFun (hr 2 (by decide)) 2).trans h.n0)
  (m1 := (congrFun (hr 4 (by decide)) 1).trans h.m1)
  (n1 := (congrFun (hr 4 (by decide)) 2).trans h.n1)
  (t0 := fun k hk1 => by
    rw [hr 3 (by decide)]
    exact h.t0 k hk1)
  (t1 := fun k hk1 => by
    rw [hr 5 (by decide)]
    exact h.t1 k hk1)
  (nine := (congrFun (hr 12 (by decide)) 3).trans h.nine)
  (rt := fun k hk1 => by
    rw [hr 13 (by decide)]
    exact h.rt k hk1)
  (hd := fun k hk1 => by
    rw [hr 14 (by decide)]
    exact h.hd k hk1)
  (pr := fun k hk1 => by
    rw [hr 15 (by decide)]
    exact h.pr k hk1)
  (mf := (congrFun (hr 17 (by decide)) 4).trans h.mf)
  (nf := (congrFun (hr 17 (by decide)) 5).trans h.nf)
  (fa := fun i hk1 => by
    rw [hr 18 (by decide), hr 19 (by decide), hr 20 (by decide), hr 21 (by decide)]
    exact h.fa i hk1)
  (mw := (congrFun (hr 22 (by decide)) 4).trans h.mw)
  (nw := (congrFun (hr 22 (by decide)) 5).trans h.nw)
  (sw := fun i hk1 => by
    rw [hr 23 (by decide), hr 24 (by decide)]
    exact h.sw i hk1)
  (mc := (congrFun (hr 27 (by decide)) 4).trans h.mc)
  (nc := (congrFun (hr 27 (by decide)) 5).trans h.nc)
  (ca := fun i hk1 => by
    rw [hr 28 (by decide), hr 29 (by decide)]
    exact h.ca i hk1)
  (rn := fun k hk1 => by
    rw [hr 32 (by decide)]
    exact h.rn k hk1)
  (sf0 := (congrFun (hr 48 (by decide)) 1).trans h.sf0)
  (ss0 := (congrFun (hr 48 (by decide)) 2).trans h.ss0)
  (si0 := fun j hk1 => by
    rw [hr 49 (by decide)]
    exact (h.si0 j hk1).trans (eo _ (fun q hq => z_48 hk1 hq (by omega))).symm)
  (sf1 := (congrFun (hr 50 (by decide)) 1).trans h.sf1)
  (ss1 := (congrFun (hr 50 (by decide)) 2).trans h.ss1)
  (si1 := fun j hk1 => by
    rw [hr 51 (by decide)]
    exact (h.si1 j hk1).trans (eo _ (fun q hq => z_48 hk1 hq (by omega))).symm)
  (sf2 := (congrFun (hr 52 (by decide)) 1).trans h.sf2)
  (ss2 := (congrFun (hr 52 (by decide)) 2).trans h.ss2)
  (si2 := e)
  (sf3 := (congrFun (hr 54 (by decide)) 1).trans h.sf3)
  (ss3 := (congrFun (hr 54 (by decide)) 2).trans h.ss3)
  (si3 := fun j hk1 => by
    rw [hr 55 (by decide)]
    exact (h.si3 j hk1).trans (eo _ (fun q hq => z_48 hk1 hq (by omega))).symm)
theorem z_CP.sheet3 {W : zW} {s σ : pi_S} (h : z_CP W σ) {f n : Nat} (hf : f < 3) (hn : n ≤ 48) (e1 : s 54 1 = nI f) (e2 : s 54 2 = nI n) (e3 : ∀ j, j < 48 → s 55 j = nI 0) (hr : pi_fr [54, 55] s σ) : z_CP ((((W.sF 8 (z_u W.th 3 1)).sF 4 (z_u W.fo 3 f)).sF 5 (z_u W.si 3 n)).sI 9 (z_c48 3 48 W.it)) s := z_CP.mk
  (wk := h.wk.sheet hf hn)
  (fi := (congrFun (hr 0 (by decide)) 7).trans h.fi)
  (m0 := (congrFun (hr 2 (by decide)) 1).trans h.m0)
  (n0 := (congrFun (hr 2 (by decide)) 2).trans h.n0)
  (m1 := (congrFun (hr 4 (by decide)) 1).trans h.m1)
  (n1 := (congrFun (hr 4 (by decide)) 2).trans h.n1)
  (t0 := fun k hk1 => by
    rw [hr 3 (by decide)]
    exact h.t0 k hk1)
  (t1 := fun k hk1 => by
    rw [hr 5 (by decide)]
    exact h.t1 k hk1)
  (nine := (congrFun (hr 12 (by decide)) 3).trans h.nine)
  (rt := fun k hk1 => by
    rw [hr 13 (by decide)]
    exact h.rt k hk1)
  (hd := fun k hk1 => by
    rw [hr 14 (by decide)]
    exact h.hd k hk1)
  (pr := fun k hk1 => by
    rw [hr 15 (by decide)]
    exact h.pr k hk1)
  (mf := (congrFun (hr 17 (by decide)) 4).trans h.mf)
  (nf := (congrFun (hr 17 (by decide)) 5).trans h.nf)
  (fa := fun i hk1 => by
    rw [hr 18 (by decide), hr 19 (by decide), hr 20 (by decide), hr 21 (by decide)]
    exact h.fa i hk1)
  (mw := (congrFun (hr 22 (by decide)) 4).trans h.mw)
  (nw := (congrFun (hr 22 (by decide)) 5).trans h.nw)
  (sw := fun i hk1 => by
    rw [hr 23 (by decide), hr 24 (by decide)]
    exact h.sw i hk1)
  (mc := (congrFun (hr 27 (by decide)) 4).trans h.mc)
  (nc := (congrFun (hr 27 (by decide)) 5).trans h.nc)
  (ca := fun i hk1 => by
    rw [hr 28 (by decide), hr 29 (by decide)]
    exact h.ca i hk1)
  (rn := fun k hk1 => by
    rw [hr 32 (by decide)]
    exact h.rn k hk1)
  (sf0 := (congrFun (hr 48 (by decide)) 1).trans h.sf0)
  (ss0 := (congrFun (hr 48 (by decide)) 2).trans h.ss0)
  (si0 := fun j hk1 => by
    rw [hr 49 (by decide)]
    exact (h.si0 j hk1).trans (z_c48_at 3 W.it 48 _ (fun q hq => z_48 hk1 hq (by omega))).symm)
  (sf1 := (congrFun (hr 50 (by decide)) 1).trans h.sf1)
  (ss1 := (congrFun (hr 50 (by decide)) 2).trans h.ss1)
  (si1 := fun j hk1 => by
    rw [hr 51 (by decide)]
    exact (h.si1 j hk1).trans (z_c48_at 3 W.it 48 _ (fun q hq => z_48 hk1 hq (by omega))).symm)
  (sf2 := (congrFun (hr 52 (by decide)) 1).trans h.sf2)
  (ss2 := (congrFun (hr 52 (by decide)) 2).trans h.ss2)
  (si2 := fun j hk1 => by
    rw [hr 53 (by decide)]
    exact (h.si2 j hk1).trans (z_c48_at 3 W.it 48 _ (fun q hq => z_48 hk1 hq (by omega))).symm)
  (sf3 := e1)
  (ss3 := e2)
  (si3 := fun j hk1 => (e3 j hk1).trans (z_c48_in 3 W.it 48 j hk1).symm)
theorem z_CP.lose3 {W : zW} {s σ : pi_S} (h : z_CP W σ)  (e1 : s 54 1 = σ 54 1) (e2 : s 54 2 = -1) (hr : pi_fr [54] s σ) : z_CP (W.sF 8 (z_u W.th 3 0)) s := z_CP.mk
  (wk := h.wk.lose)
  (fi := (congrFun (hr 0 (by decide)) 7).trans h.fi)
  (m0 := (congrFun (hr 2 (by decide)) 1).trans h.m0)
  (n0 := (congrFun (hr 2 (by decide)) 2).trans h.n0)
  (m1 := (congrFun (hr 4 (by decide)) 1).trans h.m1)
  (n1 := (congrFun (hr 4 (by decide)) 2).trans h.n1)
  (t0 := fun k hk1 => by
    rw [hr 3 (by decide)]
    exact h.t0 k hk1)
  (t1 := fun k hk1 => by
    rw [hr 5 (by decide)]
    exact h.t1 k hk1)
  (nine := (congrFun (hr 12 (by decide)) 3).trans h.nine)
  (rt := fun k hk1 => by
    rw [hr 13 (by decide)]
    exact h.rt k hk1)
  (hd := fun k hk1 => by
    rw [hr 14 (by decide)]
    exact h.hd k hk1)
  (pr := fun k hk1 => by
    rw [hr 15 (by decide)]
    exact h.pr k hk1)
  (mf := (congrFun (hr 17 (by decide)) 4).trans h.mf)
  (nf := (congrFun (hr 17 (by decide)) 5).trans h.nf)
  (fa := fun i hk1 => by
    rw [hr 18 (by decide), hr 19 (by decide), hr 20 (by decide), hr 21 (by decide)]
    exact h.fa i hk1)
  (mw := (congrFun (hr 22 (by decide)) 4).trans h.mw)
  (nw := (congrFun (hr 22 (by decide)) 5).trans h.nw)
  (sw := fun i hk1 => by
    rw [hr 23 (by decide), hr 24 (by decide)]
    exact h.sw i hk1)
  (mc := (congrFun (hr 27 (by decide)) 4).trans h.mc)
  (nc := (congrFun (hr 27 (by decide)) 5).trans h.nc)
  (ca := fun i hk1 => by
    rw [hr 28 (by decide), hr 29 (by decide)]
    exact h.ca i hk1)
  (rn := fun k hk1 => by
    rw [hr 32 (by decide)]
    exact h.rn k hk1)
  (sf0 := (congrFun (hr 48 (by decide)) 1).trans h.sf0)
  (ss0 := (congrFun (hr 48 (by decide)) 2).trans h.ss0)
  (si0 := fun j hk1 => by
    rw [hr 49 (by decide)]
    exact h.si0 j hk1)
  (sf1 := (congrFun (hr 50 (by decide)) 1).trans h.sf1)
  (ss1 := (congrFun (hr 50 (by decide)) 2).trans h.ss1)
  (si1 := fun j hk1 => by
    rw [hr 51 (by decide)]
    exact h.si1 j hk1)
  (sf2 := (congrFun (hr 52 (by decide)) 1).trans h.sf2)
  (ss2 := (congrFun (hr 52 (by decide)) 2).trans h.ss2)
  (si2 := fun j hk1 => by
    rw [hr 53 (by decide)]
    exact h.si2 j hk1)
  (sf3 := e1.trans h.sf3)
  (ss3 := e2)
  (si3 := fun j hk1 => by
    rw [hr 55 (by decide)]
    exact h.si3 j hk1)
theorem z_CP.it3 {W : zW} {s σ : pi_S} (h : z_CP W σ) {g : Nat → Int32} (e : ∀ j, j < 48 → s 55 j = g (48 * 3 + j)) (eo : ∀ i, (∀ q, q < 48 → i ≠ 48 * 3 + q) → g i = W.it i) (hr : pi_fr [55] s σ) : z_CP (W.sI 9 g) s := z_CP.mk
  (wk := h.wk.it_)
  (fi := (congrFun (hr 0 (by decide)) 7).trans h.fi)
  (m0 := (congrFun (hr 2 (by decide)) 1).trans h.m0)
  (n0 := (congrFun (hr 2 (by decide)) 2).trans h.n0)
  (m1 := (congrFun (hr 4 (by decide)) 1).trans h.m1)
  (n1 := (congrFun (hr 4 (by decide)) 2).trans h.n1)
  (t0 := fun k hk1 => by
    rw [hr 3 (by decide)]
    exact h.t0 k hk1)
  (t1 := fun k hk1 => by
    rw [hr 5 (by decide)]
    exact h.t1 k hk1)
  (nine := (congrFun (hr 12 (by decide)) 3).trans h.nine)
  (rt := fun k hk1 => by
    rw [hr 13 (by decide)]
    exact h.rt k hk1)
  (hd := fun k hk1 => by
    rw [hr 14 (by decide)]
    exact h.hd k hk1)
  (pr := fun k hk1 => by
    rw [hr 15 (by decide)]
    exact h.pr k hk1)
  (mf := (congrFun (hr 17 (by decide)) 4).trans h.mf)
  (nf := (congrFun (hr 17 (by decide)) 5).trans h.nf)
  (fa := fun i hk1 => by
    rw [hr 18 (by decide), hr 19 (by decide), hr 20 (by decide), hr 21 (by decide)]
    exact h.fa i hk1)
  (mw := (congrFun (hr 22 (by decide)) 4).trans h.mw)
  (nw := (congrFun (hr 22 (by decide)) 5).trans h.nw)
  (sw := fun i hk1 => by
    rw [hr 23 (by decide), hr 24 (by decide)]
    exact h.sw i hk1)
  (mc := (congrFun (hr 27 (by decide)) 4).trans h.mc)
  (nc := (congrFun (hr 27 (by decide)) 5).trans h.nc)
  (ca := fun i hk1 => by
    rw [hr 28 (by decide), hr 29 (by decide)]
    exact h.ca i hk1)
  (rn := fun k hk1 => by
    rw [hr 32 (by decide)]
    exact h.rn k hk1)
  (sf0 := (congrFun (hr 48 (by decide)) 1).trans h.sf0)
  (ss0 := (congrFun (hr 48 (by decide)) 2).trans h.ss0)
  (si0 := fun j hk1 => by
    rw [hr 49 (by decide)]
    exact (h.si0 j hk1).trans (eo _ (fun q hq => z_48 hk1 hq (by omega))).symm)
  (sf1 := (congrFun (hr 50 (by decide)) 1).trans h.sf1)
  (ss1 := (congrFun (hr 50 (by decide)) 2).trans h.ss1)
  (si1 := fun j hk1 => by
    rw [hr 51 (by decide)]
    exact (h.si1 j hk1).trans (eo _ (fun q hq => z_48 hk1 hq (by omega))).symm)
  (sf2 := (congrFun (hr 52 (by decide)) 1).trans h.sf2)
  (ss2 := (congrFun (hr 52 (by decide)) 2).trans h.ss2)
  (si2 := fun j hk1 => by
    rw [hr 53 (by decide)]
    exact (h.si2 j hk1).trans (eo _ (fun q hq => z_48 hk1 hq (by omega))).symm)
  (sf3 := (congrFun (hr 54 (by decide)) 1).trans h.sf3)
  (ss3 := (congrFun (hr 54 (by decide)) 2).trans h.ss3)
  (si3 := e)
theorem z_CT.of2 {W : zW} {s σ : pi_S} (h : z_CT W σ) (hr : pi_fr [0, 2, 3, 4, 5, 12, 13, 14, 15, 16, 17, 18, 19, 20, 21, 22, 23, 24, 25, 26, 27, 28, 29, 30, 31, 32, 33, 34, 35, 36, 37, 38, 39, 40, 41, 42, 43, 44, 45, 46, 47, 48, 49, 50, 51, 52, 53, 54, 55] s σ) : z_CT W s := z_CT.mk
  (d := (congrFun (hr 1 (by decide)) 8).trans h.d)
  (st := (congrFun (hr 1 (by decide)) 9).trans h.st)
  (f0 := (congrFun (hr 1 (by decide)) 10).trans h.f0)
  (f1 := (congrFun (hr 1 (by decide)) 11).trans h.f1)
  (hh := fun k hk1 => by
    rw [hr 6 (by decide)]
    exact h.hh k hk1)
  (ul := fun k hk1 => by
    rw [hr 7 (by decide), hr 8 (by decide)]
    exact h.ul k hk1)
  (dd := fun i hk1 => by
    rw [hr 9 (by decide)]
    exact h.dd i hk1)
  (sd := fun i hk1 => by
    rw [hr 10 (by decide)]
    exact h.sd i hk1)
  (fs := fun i hk1 => by
    rw [hr 11 (by decide)]
    exact h.fs i hk1)
theorem z_TL.of {s σ : pi_S} (h : z_TL σ) (hr : pi_fr [0, 1, 2, 3, 4, 5, 6, 7, 8, 9, 10, 11, 12, 13, 14, 15, 16, 17, 18, 19, 20, 21, 22, 23, 24, 25, 26, 27, 28, 29, 30, 31, 32, 33, 34, 37, 38, 41, 42, 43, 44, 45, 46, 47, 48, 49, 50, 51, 52, 53, 54, 55] s σ) : z_TL s :=
  ⟨fun k hk => (congrFun (hr 35 (by decide)) k).trans (h.1 k hk), fun k hk => (congrFun (hr 36 (by decide)) k).trans (h.2.1 k hk), fun k hk => (congrFun (hr 39 (by decide)) k).trans (h.2.2.1 k hk), fun k hk => (congrFun (hr 40 (by decide)) k).trans (h.2.2.2 k hk)⟩
