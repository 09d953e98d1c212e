/-! the class's own orders -/
def z_od1 (h : Nat → Int32) (v d : Nat) (s : (Nat → Nat) × Nat) : (Nat → Nat) × Nat := if h d = nI v then (z_u s.1 s.2 d, s.2 + 1) else s
def z_od2 (h : Nat → Int32) (v nd : Nat) (s : (Nat → Nat) × Nat) : (Nat → Nat) × Nat := pi_lp (z_od1 h v) nd s
def z_od (h : Nat → Int32) (nd i : Nat) : (Nat → Nat) × Nat := pi_lp (fun i s => z_od2 h (10 - (i + 1)) nd s) i (fun _ => 0, 0)
def z_dd (W : zW) : Nat → Nat := (z_od W.hh W.nd 10).1
def z_os1 (up : Nat → Nat) (d k : Nat) (s : (Nat → Nat) × Nat) : (Nat → Nat) × Nat := if up k = d then (z_u s.1 s.2 k, s.2 + 1) else s
def z_os2 (up : Nat → Nat) (ns d : Nat) (s : (Nat → Nat) × Nat) : (Nat → Nat) × Nat := pi_lp (z_os1 up d) ns s
def z_os (up : Nat → Nat) (ns : Nat) (dd : Nat → Nat) (i : Nat) : (Nat → Nat) × Nat := pi_lp (fun i s => z_os2 up ns (dd i) s) i (fun _ => 0, 0)
def z_sd (W : zW) : Nat → Nat := (z_os W.up W.ns (z_dd W) W.nd).1
def z_sz (W : zW) (k : Nat) : Int32 := if W.th k = 0 then -1 else nI (W.si k)
/-- what the class keeps, but for what the texts say -/
def z_CP (W : zW) (σ : pi_S) : Prop :=
  (z_wk W) ∧ (σ 0 7 = W.fi) ∧ (σ 2 1 = nI 8) ∧ (σ 2 2 = nI W.n0) ∧ (σ 4 1 = nI 40) ∧ (σ 4 2 = nI W.n1) ∧ (∀ k, k < W.n0 → σ 3 k = W.tx (0 + k)) ∧ (∀ k, k < W.n1 → σ 5 k = W.tx (40 + k)) ∧ (σ 12 3 = nI W.nine) ∧ (∀ k, k < 5 → σ 13 k = W.rt k) ∧ (∀ k, k < 8 → σ 14 k = W.hd k) ∧ (∀ k, k < 8 → σ 15 k = W.pr k) ∧ (σ 17 4 = nI 20) ∧ (σ 17 5 = nI W.nf) ∧ (∀ i, i < W.nf → σ 18 i = W.fm i ∧ σ 19 i = nI (W.fd i) ∧ σ 20 i = nI (W.fk i) ∧ σ 21 i = W.fn i) ∧ (σ 22 4 = nI 24) ∧ (σ 22 5 = nI W.nw) ∧ (∀ i, i < W.nw → σ 23 i = W.sm i ∧ σ 24 i = nI (W.ws i)) ∧ (σ 27 4 = nI 8) ∧ (σ 27 5 = nI W.nc) ∧ (∀ i, i < W.nc → σ 28 i = W.cm i ∧ σ 29 i = nI (W.cd i)) ∧ (∀ k, k < 60 → σ 32 k = W.rn k) ∧ (σ 48 1 = nI (W.fo 0)) ∧ (σ 48 2 = z_sz W 0) ∧ (∀ j, j < 48 → σ 49 j = W.it (48 * 0 + j)) ∧ (σ 50 1 = nI (W.fo 1)) ∧ (σ 50 2 = z_sz W 1) ∧ (∀ j, j < 48 → σ 51 j = W.it (48 * 1 + j)) ∧ (σ 52 1 = nI (W.fo 2)) ∧ (σ 52 2 = z_sz W 2) ∧ (∀ j, j < 48 → σ 53 j = W.it (48 * 2 + j)) ∧ (σ 54 1 = nI (W.fo 3)) ∧ (σ 54 2 = z_sz W 3) ∧ (∀ j, j < 48 → σ 55 j = W.it (48 * 3 + j))
theorem z_CP.wk {W : zW} {σ : pi_S} (h : z_CP W σ) : z_wk W := h.1
theorem z_CP.fi {W : zW} {σ : pi_S} (h : z_CP W σ) : σ 0 7 = W.fi := h.2.1
theorem z_CP.m0 {W : zW} {σ : pi_S} (h : z_CP W σ) : σ 2 1 = nI 8 := h.2.2.1
theorem z_CP.n0 {W : zW} {σ : pi_S} (h : z_CP W σ) : σ 2 2 = nI W.n0 := h.2.2.2.1
theorem z_CP.m1 {W : zW} {σ : pi_S} (h : z_CP W σ) : σ 4 1 = nI 40 := h.2.2.2.2.1
theorem z_CP.n1 {W : zW} {σ : pi_S} (h : z_CP W σ) : σ 4 2 = nI W.n1 := h.2.2.2.2.2.1
theorem z_CP.t0 {W : zW} {σ : pi_S} (h : z_CP W σ) : ∀ k, k < W.n0 → σ 3 k = W.tx (0 + k) := h.2.2.2.2.2.2.1
theorem z_CP.t1 {W : zW} {σ : pi_S} (h : z_CP W σ) : ∀ k, k < W.n1 → σ 5 k = W.tx (40 + k) := h.2.2.2.2.2.2.2.1
theorem z_CP.nine {W : zW} {σ : pi_S} (h : z_CP W σ) : σ 12 3 = nI W.nine := h.2.2.2.2.2.2.2.2.1
theorem z_CP.rt {W : zW} {σ : pi_S} (h : z_CP W σ) : ∀ k, k < 5 → σ 13 k = W.rt k := h.2.2.2.2.2.2.2.2.2.1
theorem z_CP.hd {W : zW} {σ : pi_S} (h : z_CP W σ) : ∀ k, k < 8 → σ 14 k = W.hd k := h.2.2.2.2.2.2.2.2.2.2.1
theorem z_CP.pr {W : zW} {σ : pi_S} (h : z_CP W σ) : ∀ k, k < 8 → σ 15 k = W.pr k := h.2.2.2.2.2.2.2.2.2.2.2.1
theorem z_CP.mf {W : zW} {σ : pi_S} (h : z_CP W σ) : σ 17 4 = nI 20 := h.2.2.2.2.2.2.2.2.2.2.2.2.1
theorem z_CP.nf {W : zW} {σ : pi_S} (h : z_CP W σ) : σ 17 5 = nI W.nf := h.2.2.2.2.2.2.2.2.2.2.2.2.2.1
theorem z_CP.fa {W : zW} {σ : pi_S} (h : z_CP W σ) : ∀ i, i < W.nf → σ 18 i = W.fm i ∧ σ 19 i = nI (W.fd i) ∧ σ 20 i = nI (W.fk i) ∧ σ 21 i = W.fn i := h.2.2.2.2.2.2.2.2.2.2.2.2.2.2.1
theorem z_CP.mw {W : zW} {σ : pi_S} (h : z_CP W σ) : σ 22 4 = nI 24 := h.2.2.2.2.2.2.2.2.2.2.2.2.2.2.2.1
theorem z_CP.nw {W : zW} {σ : pi_S} (h : z_CP W σ) : σ 22 5 = nI W.nw := h.2.2.2.2.2.2.2.2.2.2.2.2.2.2.2.2.1
theorem z_CP.sw {W : zW} {σ : pi_S} (h : z_CP W σ) : ∀ i, i < W.nw → σ 23 i = W.sm i ∧ σ 24 i = nI (W.ws i) := h.2.2.2.2.2.2.2.2.2.2.2.2.2.2.2.2.2.1
theorem z_CP.mc {W : zW} {σ : pi_S} (h : z_CP W σ) : σ 27 4 = nI 8 := h.2.2.2.2.2.2.2.2.2.2.2.2.2.2.2.2.2.2.1
theorem z_CP.nc {W : zW} {σ : pi_S} (h : z_CP W σ) : σ 27 5 = nI W.nc := h.2.2.2.2.2.2.2.2.2.2.2.2.2.2.2.2.2.2.2.1
theorem z_CP.ca {W : zW} {σ : pi_S} (h : z_CP W σ) : ∀ i, i < W.nc → σ 28 i = W.cm i ∧ σ 29 i = nI (W.cd i) := h.2.2.2.2.2.2.2.2.2.2.2.2.2.2.2.2.2.2.2.2.1
theorem z_CP.rn {W : zW} {σ : pi_S} (h : z_CP W σ) : ∀ k, k < 60 → σ 32 k = W.rn k := h.2.2.2.2.2.2.2.2.2.2.2.2.2.2.2.2.2.2.2.2.2.1
theorem z_CP.sf0 {W : zW} {σ : pi_S} (h : z_CP W σ) : σ 48 1 = nI (W.fo 0) := h.2.2.2.2.2.2.2.2.2.2.2.2.2.2.2.2.2.2.2.2.2.2.1
theorem z_CP.ss0 {W : zW} {σ : pi_S} (h : z_CP W σ) : σ 48 2 = z_sz W 0 := h.2.2.2.2.2.2.2.2.2.2.2.2.2.2.2.2.2.2.2.2.2.2.2.1
theorem z_CP.si0 {W : zW} {σ : pi_S} (h : z_CP W σ) : ∀ j, j < 48 → σ 49 j = W.it (48 * 0 + j) := h.2.2.2.2.2.2.2.2.2.2.2.2.2.2.2.2.2.2.2.2.2.2.2.2.1
theorem z_CP.sf1 {W : zW} {σ : pi_S} (h : z_CP W σ) : σ 50 1 = nI (W.fo 1) := h.2.2.2.2.2.2.2.2.2.2.2.2.2.2.2.2.2.2.2.2.2.2.2.2.2.1
theorem z_CP.ss1 {W : zW} {σ : pi_S} (h : z_CP W σ) : σ 50 2 = z_sz W 1 := h.2.2.2.2.2.2.2.2.2.2.2.2.2.2.2.2.2.2.2.2.2.2.2.2.2.2.1
theorem z_CP.si1 {W : zW} {σ : pi_S} (h : z_CP W σ) : ∀ j, j < 48 → σ 51 j = W.it (48 * 1 + j) := h.2.2.2.2.2.2.2.2.2.2.2.2.2.2.2.2.2.2.2.2.2.2.2.2.2.2.2.1
theorem z_CP.sf2 {W : zW} {σ : pi_S} (h : z_CP W σ) : σ 52 1 = nI (W.fo 2) := h.2.2.2.2.2.2.2.2.2.2.2.2.2.2.2.2.2.2.2.2.2.2.2.2.2.2.2.2.1
theorem z_CP.ss2 {W : zW} {σ : pi_S} (h : z_CP W σ) : σ 52 2 = z_sz W 2 := h.2.2.2.2.2.2.2.2.2.2.2.2.2.2.2.2.2.2.2.2.2.2.2.2.2.2.2.2.2.1
theorem z_CP.si2 {W : zW} {σ : pi_S} (h : z_CP W σ) : ∀ j, j < 48 → σ 53 j = W.it (48 * 2 + j) := h.2.2.2.2.2.2.2.2.2.2.2.2.2.2.2.2.2.2.2.2.2.2.2.2.2.2.2.2.2.2.1
theorem z_CP.sf3 {W : zW} {σ : pi_S} (h : z_CP W σ) : σ 54 1 = nI (W.fo 3) := h.2.2.2.2.2.2.2.2.2.2.2.2.2.2.2.2.2.2.2.2.2.2.2.2.2.2.2.2.2.2.2.1
theorem z_CP.ss3 {W : zW} {σ : pi_S} (h : z_CP W σ) : σ 54 2 = z_sz W 3 := h.2.2.2.2.2.2.2.2.2.2.2.2.2.2.2.2.2.2.2.2.2.2.2.2.2.2.2.2.2.2.2.2.1
theorem z_CP.si3 {W : zW} {σ : pi_S} (h : z_CP W σ) : ∀ j, j < 48 → σ 55 j = W.it (48 * 3 + j) := h.2.2.2.2.2.2.2.2.2.2.2.2.2.2.2.2.2.2.2.2.2.2.2.2.2.2.2.2.2.2.2.2.2
theorem z_CP.mk {W : zW} {σ : pi_S} (wk : z_wk W) (fi : σ 0 7 = W.fi) (m0 : σ 2 1 = nI 8) (n0 : σ 2 2 = nI W.n0) (m1 : σ 4 1 = nI 40) (n1 : σ 4 2 = nI W.n1) (t0 : ∀ k, k < W.n0 → σ 3 k = W.tx (0 + k)) (t1 : ∀ k, k < W.n1 → σ 5 k = W.tx (40 + k)) (nine : σ 12 3 = nI W.nine) (rt : ∀ k, k < 5 → σ 13 k = W.rt k) (hd : ∀ k, k < 8 → σ 14 k = W.hd k) (pr : ∀ k, k < 8 → σ 15 k = W.pr k) (mf : σ 17 4 = nI 20) (nf : σ 17 5 = nI W.nf) (fa : ∀ i, i < W.nf → σ 18 i = W.fm i ∧ σ 19 i = nI (W.fd i) ∧ σ 20 i = nI (W.fk i) ∧ σ 21 i = W.fn i) (mw : σ 22 4 = nI 24) (nw : σ 22 5 = nI W.nw) (sw : ∀ i, i < W.nw → σ 23 i = W.sm i ∧ σ 24 i = nI (W.ws i)) (mc : σ 27 4 = nI 8) (nc : σ 27 5 = nI W.nc) (ca : ∀ i, i < W.nc → σ 28 i = W.cm i ∧ σ 29 i = nI (W.cd i)) (rn : ∀ k, k < 60 → σ 32 k = W.rn k) (sf0 : σ 48 1 = nI (W.fo 0)) (ss0 : σ 48 2 = z_sz W 0) (si0 : ∀ j, j < 48 → σ 49 j = W.it (48 * 0 + j)) (sf1 : σ 50 1 = nI (W.fo 1)) (ss1 : σ 50 2 = z_sz W 1) (si1 : ∀ j, j < 48 → σ 51 j = W.it (48 * 1 + j)) (sf2 : σ 52 1 = nI (W.fo 2)) (ss2 : σ 52 2 = z_sz W 2) (si2 : ∀ j, j < 48 → σ 53 j = W.it (48 * 2 + j)) (sf3 : σ 54 1 = nI (W.fo 3)) (ss3 : σ 54 2 = z_sz W 3) (si3 : ∀ j, j < 48 → σ 55 j = W.it (48 * 3 + j)) : z_CP W σ := ⟨wk, fi, m0, n0, m1, n1, t0, t1, nine, rt, hd, pr, mf, nf, fa, mw, nw, sw, mc, nc, ca, rn, sf0, ss0, si0, sf1, ss1, si1, sf2, ss2, si2, sf3, ss3, si3⟩
/-- what the texts say -/
def z_CT (W : zW) (σ : pi_S) : Prop :=
  (σ 1 8 = nI W.nd) ∧ (σ 1 9 = nI W.ns) ∧ (σ 1 10 = W.f0) ∧ (σ 1 11 = W.f1) ∧ (∀ k, k < W.nd → σ 6 k = W.hh k) ∧ (∀ k, k < W.ns → σ 7 k = nI (W.up k) ∧ σ 8 k = nI (W.lo k)) ∧ (∀ i, i < W.nd → σ 9 i = nI (z_dd W i) ∧ z_dd W i < W.nd) ∧ (∀ i, i < W.ns → σ 10 i = nI (z_sd W i) ∧ z_sd W i < W.ns) ∧ (∀ i, i < W.nd → σ 11 i = z_nv W.ns (z_fi W.up i W.ns W.ns))
theorem z_CT.d {W : zW} {σ : pi_S} (h : z_CT W σ) : σ 1 8 = nI W.nd := h.1
theorem z_CT.st {W : zW} {σ : pi_S} (h : z_CT W σ) : σ 1 9 = nI W.ns := h.2.1
theorem z_CT.f0 {W : zW} {σ : pi_S} (h : z_CT W σ) : σ 1 10 = W.f0 := h.2.2.1
theorem z_CT.f1 {W : zW} {σ : pi_S} (h : z_CT W σ) : σ 1 11 = W.f1 := h.2.2.2.1
theorem z_CT.hh {W : zW} {σ : pi_S} (h : z_CT W σ) : ∀ k, k < W.nd → σ 6 k = W.hh k := h.2.2.2.2.1
theorem z_CT.ul {W : zW} {σ : pi_S} (h : z_CT W σ) : ∀ k, k < W.ns → σ 7 k = nI (W.up k) ∧ σ 8 k = nI (W.lo k) := h.2.2.2.2.2.1
theorem z_CT.dd {W : zW} {σ : pi_S} (h : z_CT W σ) : ∀ i, i < W.nd → σ 9 i = nI (z_dd W i) ∧ z_dd W i < W.nd := h.2.2.2.2.2.2.1
theorem z_CT.sd {W : zW} {σ : pi_S} (h : z_CT W σ) : ∀ i, i < W.ns → σ 10 i = nI (z_sd W i) ∧ z_sd W i < W.ns := h.2.2.2.2.2.2.2.1
theorem z_CT.fs {W : zW} {σ : pi_S} (h : z_CT W σ) : ∀ i, i < W.nd → σ 11 i = z_nv W.ns (z_fi W.up i W.ns W.ns) := h.2.2.2.2.2.2.2.2
theorem z_CT.mk {W : zW} {σ : pi_S} (d : σ 1 8 = nI W.nd) (st : σ 1 9 = nI W.ns) (f0 : σ 1 10 = W.f0) (f1 : σ 1 11 = W.f1) (hh : ∀ k, k < W.nd → σ 6 k = W.hh k) (ul : ∀ k, k < W.ns → σ 7 k = nI (W.up k) ∧ σ 8 k = nI (W.lo k)) (dd : ∀ i, i < W.nd → σ 9 i = nI (z_dd W i) ∧ z_dd W i < W.nd) (sd : ∀ i, i < W.ns → σ 10 i = nI (z_sd W i) ∧ z_sd W i < W.ns) (fs : ∀ i, i < W.nd → σ 11 i = z_nv W.ns (z_fi W.up i W.ns W.ns)) : z_CT W σ := ⟨d, st, f0, f1, hh, ul, dd, sd, fs⟩
def z_CK (W : zW) (σ : pi_S) : Prop :=
  (z_CP W σ) ∧ (z_CT W σ)
theorem z_CK.p {W : zW} {σ : pi_S} (h : z_CK W σ) : z_CP W σ := h.1
theorem z_CK.t {W : zW} {σ : pi_S} (h : z_CK W σ) : z_CT W σ := h.2
theorem z_CK.mk {W : zW} {σ : pi_S} (p : z_CP W σ) (t : z_CT W σ) : z_CK W σ := ⟨p, t⟩
def z_CR (W : zW) (σ : pi_S) : Prop :=
  (z_CK W σ) ∧ (σ 35 = (z_A W).1.1.1) ∧ (σ 36 = (z_A W).1.1.2) ∧ (σ 33 4 = (z_A W).1.2) ∧ (∀ k, 40 ≤ k → σ 39 k = nI 0) ∧ (∀ k, 40 ≤ k → σ 40 k = nI 0)
theorem z_CR.k {W : zW} {σ : pi_S} (h : z_CR W σ) : z_CK W σ := h.1
theorem z_CR.b {W : zW} {σ : pi_S} (h : z_CR W σ) : σ 35 = (z_A W).1.1.1 := h.2.1
theorem z_CR.y {W : zW} {σ : pi_S} (h : z_CR W σ) : σ 36 = (z_A W).1.1.2 := h.2.2.1
theorem z_CR.a {W : zW} {σ : pi_S} (h : z_CR W σ) : σ 33 4 = (z_A W).1.2 := h.2.2.2.1
theorem z_CR.jc {W : zW} {σ : pi_S} (h : z_CR W σ) : ∀ k, 40 ≤ k → σ 39 k = nI 0 := h.2.2.2.2.1
theorem z_CR.jd {W : zW} {σ : pi_S} (h : z_CR W σ) : ∀ k, 40 ≤ k → σ 40 k = nI 0 := h.2.2.2.2.2
theorem z_CR.mk {W : zW} {σ : pi_S} (k : z_CK W σ) (b : σ 35 = (z_A W).1.1.1) (y : σ 36 = (z_A W).1.1.2) (a : σ 33 4 = (z_A W).1.2) (jc : ∀ k, 40 ≤ k → σ 39 k = nI 0) (jd : ∀ k, 40 ≤ k → σ 40 k = nI 0) : z_CR W σ := ⟨k, b, y, a, jc, jd⟩
abbrev z_CC : List Nat := [0, 1, 2, 3, 4, 5, 6, 7, 8, 9, 10, 11, 12, 13, 14, 15, 16, 17, 18, 19, 20, 21, 22, 23, 24, 25, 26, 27, 28, 29, 30, 31, 32, 33, 34, 35, 36, 37, 38, 39, 40, 41, 42, 43, 44, 45, 46, 47, 48, 49, 50, 51, 52, 53, 54, 55]
theorem z_CP.of {W : zW} {s σ : pi_S} (h : z_CP W σ) (hr : pi_fr [1, 6, 7, 8, 9, 10, 11, 33, 35, 36, 37, 39, 40, 41, 42, 43, 44, 45, 46] s σ) : z_CP W s := z_CP.mk
  (wk := h.wk)
  (fi := (congrFun (hr 0 (by decide)) 7).trans h.fi)
  (m0 := (congrFun (hr 2 (by decide)) 1).trans h.m0)
  (n0 := (congrFun (hr 2 (by decide)) 2).trans h.n0)
  (m1 := (congrFun (hr 4 (by decide)) 1).trans h.m1)
  (n1 := (congrFun (hr 4 (by decide)) 2).trans h.n1)
  (t0 := fun k hk1 => by
    rw [hr 3 (by decide)]
    exact h.t0 k hk1)
  (t1 := fun k hk1 => by
    rw [hr 5 (by decide)]
    exact h.t1 k hk1)
  (nine := (congrFun (hr 12 (by decide)) 3).trans h.nine)
  (rt := fun k hk1 => by
    rw [hr 13 (by decide)]
    exact h.rt k hk1)
  (hd := fun k hk1 => by
    rw [hr 14 (by decide)]
    exact h.hd k hk1)
  (pr := fun k hk1 => by
    rw [hr 15 (by decide)]
    exact h.pr k hk1)
  (mf := (congrFun (hr 17 (by decide)) 4).trans h.mf)
  (nf := (congrFun (hr 17 (by decide)) 5).trans h.nf)
  (fa := fun i hk1 => by
    rw [hr 18 (by decide), hr 19 (by decide), hr 20 (by decide), hr 21 (by decide)]
    exact h.fa i hk1)
  (mw := (congrFun (hr 22 (by decide)) 4).trans h.mw)
  (nw := (congrFun (hr 22 (by decide)) 5).trans h.nw)
  (sw := fun i hk1 => by
    rw [hr 23 (by decide), hr 24 (by decide)]
    exact h.sw i hk1)
  (mc := (congrFun (hr 27 (by decide)) 4).trans h.mc)
  (nc := (congrFun (hr 27 (by decide)) 5).trans h.nc)
  (ca := fun i hk1 => by
    rw [hr 28 (by decide), hr 29 (by decide)]
    exact h.ca i hk1)
  (rn := fun k hk1 => by
    rw [hr 32 (by decide)]
    exact h.rn k hk1)
  (sf0 := (congrFun (hr 48 (by decide)) 1).trans h.sf0)
  (ss0 := (congrFun (hr 48 (by decide)) 2).trans h.ss0)
  (si0 := fun j hk1 => by
    rw [hr 49 (by decide)]
    exact h.si0 j hk1)
  (sf1 := (congrFun (hr 50 (by decide)) 1).trans h.sf1)
  (ss1 := (congrFun (hr 50 (by decide)) 2).trans h.ss1)
  (si1 := fun j hk1 => by
    rw [hr 51 (by decide)]
    exact h.si1 j hk1)
  (sf2 := (congrFun (hr 52 (by decide)) 1).trans h.sf2)
  (ss2 := (congrFun (hr 52 (by decide)) 2).trans h.ss2)
  (si2 := fun j hk1 => by
    rw [hr 53 (by decide)]
    exact h.si2 j hk1)
  (sf3 := (congrFun (hr 54 (by decide)) 1).trans h.sf3)
  (ss3 := (congrFun (hr 54 (by decide)) 2).trans h.ss3)
  (si3 := fun j hk1 => by
    rw [hr 55 (by decide)]
    exact h.si3 j hk1)
theorem z_CT.of {W : zW} {s σ : pi_S} (h : z_CT W σ) (hr : pi_fr [33, 35, 36, 37, 39, 40, 41, 42, 43, 44, 45, 46] s σ) : z_CT W s := z_CT.mk
  (d := (congrFun (hr 1 (by decide)) 8).trans h.d)
  (st := (congrFun (hr 1 (by decide)) 9).trans h.st)
  (f0 := (congrFun (hr 1 (by decide)) 10).trans h.f0)
  (f1 := (congrFun (hr 1 (by decide)) 11).trans h.f1)
  (hh := fun k hk1 => by
    rw [hr 6 (by decide)]
    exact h.hh k hk1)
  (ul := fun k hk1 => by
    rw [hr 7 (by decide), hr 8 (by decide)]
    exact h.ul k hk1)
  (dd := fun i hk1 => by
    rw [hr 9 (by decide)]
    exact h.dd i hk1)
  (sd := fun i hk1 => by
    rw [hr 10 (by decide)]
    exact h.sd i hk1)
  (fs := fun i hk1 => by
    rw [hr 11 (by decide)]
    exact h.fs i hk1)
theorem z_CK.of {W : zW} {s σ : pi_S} (h : z_CK W σ) (hr : pi_fr [33, 35, 36, 37, 39, 40, 41, 42, 43, 44, 45, 46] s σ) : z_CK W s := z_CK.mk (h.p.of (pi_fr_tr hr (by decide) pi_fr_rf)) (h.t.of hr)
theorem z_BL {a b : Nat} (h : a < b) (hb : b < 2 ^ 31) : (0 : Int32) ≤ nI a ∧ nI a < nI b :=
  ⟨show nI 0 ≤ nI a from (nI_leI (by omega) (by omega)).mpr (by omega), (nI_ltI (by omega) (by omega)).mpr h⟩
theorem z_BN {a b : Nat} (h : ¬ a < b) (ha : a < 2 ^ 31) (hb : b < 2 ^ 31) : ¬ ((0 : Int32) ≤ nI a ∧ nI a < nI b) := fun q => h ((nI_ltI ha hb).mp q.2)
theorem z_B_bl {a : Int32} {n : Nat} (hn : n < 2 ^ 30) : ((0 : Int32) ≤ a ∧ a < nI n) ↔ z_B n a := by
  constructor
  · rintro ⟨h1, h2⟩
    obtain ⟨j, hj, rfl⟩ := nI_of (x := a) (fun q => Int32.not_lt.mpr h1 q)
    exact ⟨j, (nI_ltI hj (by omega)).mp h2, rfl⟩
  · rintro ⟨k, hk, rfl⟩
    exact z_BL hk (by omega)
theorem z_Bm {n : Nat} (hn : n < 2 ^ 31) : ¬ ((0 : Int32) ≤ -1 ∧ -1 < nI n) := fun q => absurd q.1 (by decide)
