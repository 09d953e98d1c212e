/-! the world in numbers -/
def zW : Type := (Nat → Nat) × (Nat → Nat → Nat) × (Nat → Nat → Int32) × (Nat → Int32)
def zW.n0 (W : zW) : Nat := W.1 0
def zW.n1 (W : zW) : Nat := W.1 1
def zW.nine (W : zW) : Nat := W.1 2
def zW.nf (W : zW) : Nat := W.1 3
def zW.nw (W : zW) : Nat := W.1 4
def zW.nc (W : zW) : Nat := W.1 5
def zW.nd (W : zW) : Nat := W.1 6
def zW.ns (W : zW) : Nat := W.1 7
def zW.fd (W : zW) : Nat → Nat := W.2.1 0
def zW.fk (W : zW) : Nat → Nat := W.2.1 1
def zW.ws (W : zW) : Nat → Nat := W.2.1 2
def zW.cd (W : zW) : Nat → Nat := W.2.1 3
def zW.fo (W : zW) : Nat → Nat := W.2.1 4
def zW.si (W : zW) : Nat → Nat := W.2.1 5
def zW.up (W : zW) : Nat → Nat := W.2.1 6
def zW.lo (W : zW) : Nat → Nat := W.2.1 7
def zW.th (W : zW) : Nat → Nat := W.2.1 8
def zW.tx (W : zW) : Nat → Int32 := W.2.2.1 0
def zW.rt (W : zW) : Nat → Int32 := W.2.2.1 1
def zW.hd (W : zW) : Nat → Int32 := W.2.2.1 2
def zW.pr (W : zW) : Nat → Int32 := W.2.2.1 3
def zW.fm (W : zW) : Nat → Int32 := W.2.2.1 4
def zW.fn (W : zW) : Nat → Int32 := W.2.2.1 5
def zW.sm (W : zW) : Nat → Int32 := W.2.2.1 6
def zW.cm (W : zW) : Nat → Int32 := W.2.2.1 7
def zW.rn (W : zW) : Nat → Int32 := W.2.2.1 8
def zW.it (W : zW) : Nat → Int32 := W.2.2.1 9
def zW.hh (W : zW) : Nat → Int32 := W.2.2.1 10
def zW.fi (W : zW) : Int32 := W.2.2.2 0
def zW.f0 (W : zW) : Int32 := W.2.2.2 1
def zW.f1 (W : zW) : Int32 := W.2.2.2 2
/-- the doors and the streets are what the texts say -/
def z_wd (W : zW) : Prop :=
  (W.n0 ≤ 8) ∧ (W.n1 ≤ 40) ∧ (z_dr W.n0 (fun k => W.tx (0 + k)) W.nd W.f0) ∧ (∀ k, W.hh k = z_fg W.n0 (fun k => W.tx (0 + k)) k) ∧ (z_sr W.n1 (fun k => W.tx (40 + k)) W.hh W.nd W.ns W.f1) ∧ (∀ k, k < W.ns → z_fg W.n1 (fun k => W.tx (40 + k)) (3 * k) = nI (W.up k) ∧ z_fg W.n1 (fun k => W.tx (40 + k)) (3 * k + 1) = nI (W.lo k) ∧ W.up k < W.nd ∧ W.lo k < W.nd ∧ W.hh (W.lo k) < W.hh (W.up k))
theorem z_wd.n0 {W : zW} (h : z_wd W) : W.n0 ≤ 8 := h.1
theorem z_wd.n1 {W : zW} (h : z_wd W) : W.n1 ≤ 40 := h.2.1
theorem z_wd.dr {W : zW} (h : z_wd W) : z_dr W.n0 (fun k => W.tx (0 + k)) W.nd W.f0 := h.2.2.1
theorem z_wd.hh {W : zW} (h : z_wd W) : ∀ k, W.hh k = z_fg W.n0 (fun k => W.tx (0 + k)) k := h.2.2.2.1
theorem z_wd.sr {W : zW} (h : z_wd W) : z_sr W.n1 (fun k => W.tx (40 + k)) W.hh W.nd W.ns W.f1 := h.2.2.2.2.1
theorem z_wd.us {W : zW} (h : z_wd W) : ∀ k, k < W.ns → z_fg W.n1 (fun k => W.tx (40 + k)) (3 * k) = nI (W.up k) ∧ z_fg W.n1 (fun k => W.tx (40 + k)) (3 * k + 1) = nI (W.lo k) ∧ W.up k < W.nd ∧ W.lo k < W.nd ∧ W.hh (W.lo k) < W.hh (W.up k) := h.2.2.2.2.2
theorem z_wd.mk {W : zW} (n0 : W.n0 ≤ 8) (n1 : W.n1 ≤ 40) (dr : z_dr W.n0 (fun k => W.tx (0 + k)) W.nd W.f0) (hh : ∀ k, W.hh k = z_fg W.n0 (fun k => W.tx (0 + k)) k) (sr : z_sr W.n1 (fun k => W.tx (40 + k)) W.hh W.nd W.ns W.f1) (us : ∀ k, k < W.ns → z_fg W.n1 (fun k => W.tx (40 + k)) (3 * k) = nI (W.up k) ∧ z_fg W.n1 (fun k => W.tx (40 + k)) (3 * k + 1) = nI (W.lo k) ∧ W.up k < W.nd ∧ W.lo k < W.nd ∧ W.hh (W.lo k) < W.hh (W.up k)) : z_wd W := ⟨n0, n1, dr, hh, sr, us⟩
def z_wk (W : zW) : Prop :=
  (z_wd W) ∧ (W.nine < 60) ∧ (W.nf ≤ 21) ∧ (W.nw ≤ 24) ∧ (W.nc ≤ 8) ∧ (∀ i, i < W.nf → W.fd i < 8 ∧ W.fk i < 5 ∧ ∃ b, 1 ≤ b ∧ b ≤ 9 ∧ W.fn i = nI b) ∧ (∀ i, i < W.nw → W.ws i < 12) ∧ (∀ i, i < W.nc → W.cd i < 8) ∧ (∀ k, k < 5 → ∃ b, b ≤ 9 ∧ W.rt k = nI b) ∧ (∀ k, k < 8 → ∃ b, b ≤ 99 ∧ W.hd k = nI b) ∧ (∀ k, k < 8 → ∃ b, b ≤ 9 ∧ W.pr k = nI b) ∧ (∀ k, k < 4 → W.si k ≤ 48 ∧ W.fo k < 3 ∧ W.th k < 2)
theorem z_wk.wd {W : zW} (h : z_wk W) : z_wd W := h.1
theorem z_wk.nine {W : zW} (h : z_wk W) : W.nine < 60 := h.2.1
theorem z_wk.nf {W : zW} (h : z_wk W) : W.nf ≤ 21 := h.2.2.1
theorem z_wk.nw {W : zW} (h : z_wk W) : W.nw ≤ 24 := h.2.2.2.1
theorem z_wk.nc {W : zW} (h : z_wk W) : W.nc ≤ 8 := h.2.2.2.2.1
theorem z_wk.fa {W : zW} (h : z_wk W) : ∀ i, i < W.nf → W.fd i < 8 ∧ W.fk i < 5 ∧ ∃ b, 1 ≤ b ∧ b ≤ 9 ∧ W.fn i = nI b := h.2.2.2.2.2.1
theorem z_wk.sw {W : zW} (h : z_wk W) : ∀ i, i < W.nw → W.ws i < 12 := h.2.2.2.2.2.2.1
theorem z_wk.ca {W : zW} (h : z_wk W) : ∀ i, i < W.nc → W.cd i < 8 := h.2.2.2.2.2.2.2.1
theorem z_wk.rt {W : zW} (h : z_wk W) : ∀ k, k < 5 → ∃ b, b ≤ 9 ∧ W.rt k = nI b := h.2.2.2.2.2.2.2.2.1
theorem z_wk.hd {W : zW} (h : z_wk W) : ∀ k, k < 8 → ∃ b, b ≤ 99 ∧ W.hd k = nI b := h.2.2.2.2.2.2.2.2.2.1
theorem z_wk.pr {W : zW} (h : z_wk W) : ∀ k, k < 8 → ∃ b, b ≤ 9 ∧ W.pr k = nI b := h.2.2.2.2.2.2.2.2.2.2.1
theorem z_wk.si {W : zW} (h : z_wk W) : ∀ k, k < 4 → W.si k ≤ 48 ∧ W.fo k < 3 ∧ W.th k < 2 := h.2.2.2.2.2.2.2.2.2.2.2
theorem z_wk.mk {W : zW} (wd : z_wd W) (nine : W.nine < 60) (nf : W.nf ≤ 21) (nw : W.nw ≤ 24) (nc : W.nc ≤ 8) (fa : ∀ i, i < W.nf → W.fd i < 8 ∧ W.fk i < 5 ∧ ∃ b, 1 ≤ b ∧ b ≤ 9 ∧ W.fn i = nI b) (sw : ∀ i, i < W.nw → W.ws i < 12) (ca : ∀ i, i < W.nc → W.cd i < 8) (rt : ∀ k, k < 5 → ∃ b, b ≤ 9 ∧ W.rt k = nI b) (hd : ∀ k, k < 8 → ∃ b, b ≤ 99 ∧ W.hd k = nI b) (pr : ∀ k, k < 8 → ∃ b, b ≤ 9 ∧ W.pr k = nI b) (si : ∀ k, k < 4 → W.si k ≤ 48 ∧ W.fo k < 3 ∧ W.th k < 2) : z_wk W := ⟨wd, nine, nf, nw, nc, fa, sw, ca, rt, hd, pr, si⟩
def z_MR (W : zW) (σ : pi_S) : Prop :=
  (z_wk W) ∧ (σ 57 0 = nI W.n0) ∧ (σ 57 1 = nI W.n1) ∧ (σ 58 = W.tx) ∧ (σ 62 = W.rt) ∧ (σ 63 = W.hd) ∧ (σ 64 = W.pr) ∧ (σ 56 10 = nI W.nine) ∧ (σ 56 11 = nI W.nf) ∧ (∀ i, i < W.nf → σ 65 i = W.fm i ∧ σ 66 i = nI (W.fd i) ∧ σ 67 i = nI (W.fk i) ∧ σ 68 i = W.fn i) ∧ (σ 56 16 = nI W.nw) ∧ (∀ i, i < W.nw → σ 69 i = W.sm i ∧ σ 70 i = nI (W.ws i)) ∧ (σ 56 19 = nI W.nc) ∧ (∀ i, i < W.nc → σ 71 i = W.cm i ∧ σ 72 i = nI (W.cd i)) ∧ (σ 73 = W.rn) ∧ (∀ k, k < 4 → σ 77 k = nI (W.th k)) ∧ (∀ k, k < 4 → σ 78 k = nI (W.fo k)) ∧ (∀ k, k < 4 → σ 79 k = nI (W.si k)) ∧ (σ 80 = W.it) ∧ (σ 56 34 = W.fi) ∧ (∀ k, 40 ≤ k → σ 74 k = nI 0) ∧ (∀ k, 40 ≤ k → σ 75 k = nI 0)
theorem z_MR.wk {W : zW} {σ : pi_S} (h : z_MR W σ) : z_wk W := h.1
theorem z_MR.n0 {W : zW} {σ : pi_S} (h : z_MR W σ) : σ 57 0 = nI W.n0 := h.2.1
theorem z_MR.n1 {W : zW} {σ : pi_S} (h : z_MR W σ) : σ 57 1 = nI W.n1 := h.2.2.1
theorem z_MR.tx {W : zW} {σ : pi_S} (h : z_MR W σ) : σ 58 = W.tx := h.2.2.2.1
theorem z_MR.rt {W : zW} {σ : pi_S} (h : z_MR W σ) : σ 62 = W.rt := h.2.2.2.2.1
theorem z_MR.hd {W : zW} {σ : pi_S} (h : z_MR W σ) : σ 63 = W.hd := h.2.2.2.2.2.1
theorem z_MR.pr {W : zW} {σ : pi_S} (h : z_MR W σ) : σ 64 = W.pr := h.2.2.2.2.2.2.1
theorem z_MR.nine {W : zW} {σ : pi_S} (h : z_MR W σ) : σ 56 10 = nI W.nine := h.2.2.2.2.2.2.2.1
theorem z_MR.nf {W : zW} {σ : pi_S} (h : z_MR W σ) : σ 56 11 = nI W.nf := h.2.2.2.2.2.2.2.2.1
theorem z_MR.fa {W : zW} {σ : pi_S} (h : z_MR W σ) : ∀ i, i < W.nf → σ 65 i = W.fm i ∧ σ 66 i = nI (W.fd i) ∧ σ 67 i = nI (W.fk i) ∧ σ 68 i = W.fn i := h.2.2.2.2.2.2.2.2.2.1
theorem z_MR.nw {W : zW} {σ : pi_S} (h : z_MR W σ) : σ 56 16 = nI W.nw := h.2.2.2.2.2.2.2.2.2.2.1
theorem z_MR.sw {W : zW} {σ : pi_S} (h : z_MR W σ) : ∀ i, i < W.nw → σ 69 i = W.sm i ∧ σ 70 i = nI (W.ws i) := h.2.2.2.2.2.2.2.2.2.2.2.1
theorem z_MR.nc {W : zW} {σ : pi_S} (h : z_MR W σ) : σ 56 19 = nI W.nc := h.2.2.2.2.2.2.2.2.2.2.2.2.1
theorem z_MR.ca {W : zW} {σ : pi_S} (h : z_MR W σ) : ∀ i, i < W.nc → σ 71 i = W.cm i ∧ σ 72 i = nI (W.cd i) := h.2.2.2.2.2.2.2.2.2.2.2.2.2.1
theorem z_MR.rn {W : zW} {σ : pi_S} (h : z_MR W σ) : σ 73 = W.rn := h.2.2.2.2.2.2.2.2.2.2.2.2.2.2.1
theorem z_MR.th {W : zW} {σ : pi_S} (h : z_MR W σ) : ∀ k, k < 4 → σ 77 k = nI (W.th k) := h.2.2.2.2.2.2.2.2.2.2.2.2.2.2.2.1
theorem z_MR.fo {W : zW} {σ : pi_S} (h : z_MR W σ) : ∀ k, k < 4 → σ 78 k = nI (W.fo k) := h.2.2.2.2.2.2.2.2.2.2.2.2.2.2.2.2.1
theorem z_MR.si {W : zW} {σ : pi_S} (h : z_MR W σ) : ∀ k, k < 4 → σ 79 k = nI (W.si k) := h.2.2.2.2.2.2.2.2.2.2.2.2.2.2.2.2.2.1
theorem z_MR.it {W : zW} {σ : pi_S} (h : z_MR W σ) : σ 80 = W.it := h.2.2.2.2.2.2.2.2.2.2.2.2.2.2.2.2.2.2.1
theorem z_MR.fi {W : zW} {σ : pi_S} (h : z_MR W σ) : σ 56 34 = W.fi := h.2.2.2.2.2.2.2.2.2.2.2.2.2.2.2.2.2.2.2.1
theorem z_MR.j4 {W : zW} {σ : pi_S} (h : z_MR W σ) : ∀ k, 40 ≤ k → σ 74 k = nI 0 := h.2.2.2.2.2.2.2.2.2.2.2.2.2.2.2.2.2.2.2.2.1
theorem z_MR.j5 {W : zW} {σ : pi_S} (h : z_MR W σ) : ∀ k, 40 ≤ k → σ 75 k = nI 0 := h.2.2.2.2.2.2.2.2.2.2.2.2.2.2.2.2.2.2.2.2.2
theorem z_MR.mk {W : zW} {σ : pi_S} (wk : z_wk W) (n0 : σ 57 0 = nI W.n0) (n1 : σ 57 1 = nI W.n1) (tx : σ 58 = W.tx) (rt : σ 62 = W.rt) (hd : σ 63 = W.hd) (pr : σ 64 = W.pr) (nine : σ 56 10 = nI W.nine) (nf : σ 56 11 = nI W.nf) (fa : ∀ i, i < W.nf → σ 65 i = W.fm i ∧ σ 66 i = nI (W.fd i) ∧ σ 67 i = nI (W.fk i) ∧ σ 68 i = W.fn i) (nw : σ 56 16 = nI W.nw) (sw : ∀ i, i < W.nw → σ 69 i = W.sm i ∧ σ 70 i = nI (W.ws i)) (nc : σ 56 19 = nI W.nc) (ca : ∀ i, i < W.nc → σ 71 i = W.cm i ∧ σ 72 i = nI (W.cd i)) (rn : σ 73 = W.rn) (th : ∀ k, k < 4 → σ 77 k = nI (W.th k)) (fo : ∀ k, k < 4 → σ 78 k = nI (W.fo k)) (si : ∀ k, k < 4 → σ 79 k = nI (W.si k)) (it : σ 80 = W.it) (fi : σ 56 34 = W.fi) (j4 : ∀ k, 40 ≤ k → σ 74 k = nI 0) (j5 : ∀ k, 40 ≤ k → σ 75 k = nI 0) : z_MR W σ := ⟨wk, n0, n1, tx, rt, hd, pr, nine, nf, fa, nw, sw, nc, ca, rn, th, fo, si, it, fi, j4, j5⟩
abbrev z_RC : List Nat := [56, 57, 58, 59, 60, 61, 62, 63, 64, 65, 66, 67, 68, 69, 70, 71, 72, 73, 74, 75, 76, 77, 78, 79, 80, 81]
theorem z_MR.of {W : zW} {s σ : pi_S} (h : z_MR W σ) (hr : pi_fr [56, 59, 60, 61, 74, 75, 76] s σ) (hs : pi_fs 56 [2, 4, 25, 26, 28] s σ) (j4 : ∀ k, 40 ≤ k → s 74 k = nI 0) (j5 : ∀ k, 40 ≤ k → s 75 k = nI 0) : z_MR W s := z_MR.mk
  (wk := h.wk)
  (n0 := (congrFun (hr 57 (by decide)) 0).trans h.n0)
  (n1 := (congrFun (hr 57 (by decide)) 1).trans h.n1)
  (tx := (hr 58 (by decide)).trans h.tx)
  (rt := (hr 62 (by decide)).trans h.rt)
  (hd := (hr 63 (by decide)).trans h.hd)
  (pr := (hr 64 (by decide)).trans h.pr)
  (nine := (hs 10 (by decide)).trans h.nine)
  (nf := (hs 11 (by decide)).trans h.nf)
  (fa := fun i hi => by
    rw [hr 65 (by decide), hr 66 (by decide), hr 67 (by decide), hr 68 (by decide)]
    exact h.fa i hi)
  (nw := (hs 16 (by decide)).trans h.nw)
  (sw := fun i hi => by
    rw [hr 69 (by decide), hr 70 (by decide)]
    exact h.sw i hi)
  (nc := (hs 19 (by decide)).trans h.nc)
  (ca := fun i hi => by
    rw [hr 71 (by decide), hr 72 (by decide)]
    exact h.ca i hi)
  (rn := (hr 73 (by decide)).trans h.rn)
  (th := fun k hk => (congrFun (hr 77 (by decide)) k).trans (h.th k hk))
  (fo := fun k hk => (congrFun (hr 78 (by decide)) k).trans (h.fo k hk))
  (si := fun k hk => (congrFun (hr 79 (by decide)) k).trans (h.si k hk))
  (it := (hr 80 (by decide)).trans h.it)
  (fi := (hs 34 (by decide)).trans h.fi)
  (j4 := j4)
  (j5 := j5)
theorem z_MR.of0 {W : zW} {s σ : pi_S} (h : z_MR W σ) (hr : pi_fr [56, 59, 60, 61, 76] s σ) (hs : pi_fs 56 [2, 4, 25, 26, 28] s σ) : z_MR W s :=
  h.of (pi_fr_tr hr (by decide) pi_fr_rf) hs (fun k hk => (congrFun (hr 74 (by decide)) k).trans (h.j4 k hk)) (fun k hk => (congrFun (hr 75 (by decide)) k).trans (h.j5 k hk))
/-- the reference has read its texts -/
def z_MT (W : zW) (σ : pi_S) : Prop :=
  (z_MR W σ) ∧ (σ 56 2 = nI W.nd) ∧ (σ 56 4 = nI W.ns) ∧ (∀ k, k < W.nd → σ 59 k = W.hh k) ∧ (∀ k, k < W.ns → σ 60 k = nI (W.up k) ∧ σ 61 k = nI (W.lo k))
theorem z_MT.mr {W : zW} {σ : pi_S} (h : z_MT W σ) : z_MR W σ := h.1
theorem z_MT.d2 {W : zW} {σ : pi_S} (h : z_MT W σ) : σ 56 2 = nI W.nd := h.2.1
theorem z_MT.d4 {W : zW} {σ : pi_S} (h : z_MT W σ) : σ 56 4 = nI W.ns := h.2.2.1
theorem z_MT.h {W : zW} {σ : pi_S} (h : z_MT W σ) : ∀ k, k < W.nd → σ 59 k = W.hh k := h.2.2.2.1
theorem z_MT.st {W : zW} {σ : pi_S} (h : z_MT W σ) : ∀ k, k < W.ns → σ 60 k = nI (W.up k) ∧ σ 61 k = nI (W.lo k) := h.2.2.2.2
theorem z_MT.mk {W : zW} {σ : pi_S} (mr : z_MR W σ) (d2 : σ 56 2 = nI W.nd) (d4 : σ 56 4 = nI W.ns) (h : ∀ k, k < W.nd → σ 59 k = W.hh k) (st : ∀ k, k < W.ns → σ 60 k = nI (W.up k) ∧ σ 61 k = nI (W.lo k)) : z_MT W σ := ⟨mr, d2, d4, h, st⟩
theorem z_dr_le {n nd : Nat} {f : Nat → Int32} {flt : Int32} (h : z_dr n f nd flt) : nd ≤ n := by
  rcases h with ⟨k, -, -, -, -, rfl⟩ | ⟨-, -, rfl⟩ <;> omega
theorem z_sr_le {n nd ns : Nat} {f h : Nat → Int32} {flt : Int32} (q : z_sr n f h nd ns flt) : ns ≤ 12 ∧ ∀ k, k < ns → z_sB n f h nd k := by
  rcases q with ⟨-, -, rfl⟩ | ⟨-, J, hJ, hp, hE⟩
  · exact ⟨by omega, fun k hk => absurd hk (Nat.not_lt_zero k)⟩
  · rcases hE with ⟨-, -, rfl⟩ | ⟨-, -, -, -, rfl⟩ | ⟨a, b, -, -, rfl⟩ | ⟨-, -, -, -, -, rfl⟩
    · exact ⟨by omega, fun k hk => absurd hk (Nat.not_lt_zero k)⟩
    · exact ⟨by omega, fun k hk => absurd hk (Nat.not_lt_zero k)⟩
    · refine ⟨by omega, fun k hk => ?_⟩
      rcases Nat.lt_or_ge k J with q | q
      · exact (hp k q).1
      · have : k = J := by omega
        rw [this]; exact b
    · exact ⟨by omega, fun k hk => absurd hk (Nat.not_lt_zero k)⟩
theorem z_wd.nd8 {W : zW} (h : z_wd W) : W.nd ≤ 8 := Nat.le_trans (z_dr_le h.dr) h.n0
theorem z_wd.ns12 {W : zW} (h : z_wd W) : W.ns ≤ 12 := (z_sr_le h.sr).1
theorem z_sr_c {n nd ns : Nat} {f h h' : Nat → Int32} {flt : Int32} (q : z_sr n f h nd ns flt) (e : ∀ k, k < nd → h k = h' k) : z_sr n f h' nd ns flt := by
  have eB : ∀ j, z_sB n f h nd j ↔ z_sB n f h' nd j := by
    intro j
    constructor
    · rintro ⟨a, b, ha, hb, q1, q2, q3⟩
      exact ⟨a, b, ha, hb, q1, q2, by rw [← e a ha, ← e b hb]; exact q3⟩
    · rintro ⟨a, b, ha, hb, q1, q2, q3⟩
      exact ⟨a, b, ha, hb, q1, q2, by rw [e a ha, e b hb]; exact q3⟩
  rcases q with h0 | ⟨h0, J, hJ, hp, hE⟩
  · exact Or.inl h0
  · refine Or.inr ⟨h0, J, hJ, fun j hj => ?_, ?_⟩
    · have := hp j hj
      exact ⟨(eB j).mp this.1, this.2⟩
    · have := eB J
      unfold z_sE at hE ⊢
      rw [← this]
      exact hE
theorem z_MT.tw {W : zW} {σ : pi_S} (h : z_MT W σ) : z_tw σ W.nd W.ns W.up W.lo :=
  ⟨h.d2, h.d4, h.mr.wk.wd.nd8, h.mr.wk.wd.ns12, fun k hk => ⟨(h.st k hk).1, (h.st k hk).2, (h.mr.wk.wd.us k hk).2.2.1, (h.mr.wk.wd.us k hk).2.2.2.1⟩⟩
theorem z_MT.of {W : zW} {s σ : pi_S} (h : z_MT W σ) (hr : pi_fr [56, 74, 75, 76] s σ) (hs : pi_fs 56 [25, 26, 28] s σ) (j4 : ∀ k, 40 ≤ k → s 74 k = nI 0) (j5 : ∀ k, 40 ≤ k → s 75 k = nI 0) : z_MT W s := z_MT.mk
  (mr := h.mr.of (pi_fr_tr hr (by decide) pi_fr_rf) (pi_fs_ca hs (by decide) pi_fs_rf) j4 j5)
  (d2 := (hs 2 (by decide)).trans h.d2)
  (d4 := (hs 4 (by decide)).trans h.d4)
  (h := fun k hk => (congrFun (hr 59 (by decide)) k).trans (h.h k hk))
  (st := fun k hk => by
    rw [hr 60 (by decide), hr 61 (by decide)]
    exact h.st k hk)
theorem z_MT.of0 {W : zW} {s σ : pi_S} (h : z_MT W σ) (hr : pi_fr [56, 76] s σ) (hs : pi_fs 56 [25, 26, 28] s σ) : z_MT W s :=
  h.of (pi_fr_tr hr (by decide) pi_fr_rf) hs (fun k hk => (congrFun (hr 74 (by decide)) k).trans (h.mr.j4 k hk)) (fun k hk => (congrFun (hr 75 (by decide)) k).trans (h.mr.j5 k hk))
/-- runs as the world tells, but for the rain in NINE, a sweep left out, and a row of more sweeps -/
def z_R (W : zW) (wet but : Int32) (rm : Nat) (rw_ : Nat → Nat) (n : Nat) : (zH × Int32) × Bool := z_runs W.nd W.ns W.up W.lo W.hd W.hh W.rn W.nf W.fm W.fd W.fk W.fn W.nw W.sm W.ws but W.nc W.cm W.cd W.nine wet rm rw_ n
def z_A (W : zW) : (zH × Int32) × Bool := z_R W (-1) (-1) 0 (fun _ => 0) (W.nine + 1)
theorem pi_lp_c {α : Type} {f g : Nat → α → α} : ∀ n, (∀ i, i < n → ∀ s, f i s = g i s) → ∀ s, pi_lp f n s = pi_lp g n s := by
  intro n
  induction n with
  | zero => intro _ s; rfl
  | succ n ih =>
    intro h s
    show f n (pi_lp f n s) = g n (pi_lp g n s)
    rw [ih (fun i hi => h i (by omega)) s, h n (by omega)]
theorem z_rain_h {h h' : Nat → Int32} {nd ns : Nat} {up lo : Nat → Nat} (e : ∀ k, k < nd → h k = h' k) (i : Nat) (s : zH) : z_rain h nd ns up lo i s = z_rain h' nd ns up lo i s :=
  pi_lp_c i (fun i _ s => pi_lp_c nd (fun d hd s => by rw [z_r1, z_r1, e d hd]) s) s
theorem z_runs_c {nd ns : Nat} {up lo : Nat → Nat} {hold h h' rains : Nat → Int32} {nf : Nat} {fm fm' : Nat → Int32} {fd fk : Nat → Nat} {fn fn' : Nat → Int32} {nw : Nat} {sm sm' : Nat → Int32} {ws : Nat → Nat} {but : Int32} {nc : Nat} {cm cm' : Nat → Int32} {cd : Nat → Nat} {nine : Nat} {wet : Int32} {rm : Nat} {rw_ : Nat → Nat} (n : Nat)
    (e0 : ∀ k, k < nd → h k = h' k) (e1 : ∀ k, k < nf → fm k = fm' k ∧ fn k = fn' k) (e2 : ∀ k, k < nw → sm k = sm' k) (e3 : ∀ k, k < nc → cm k = cm' k) :
    z_runs nd ns up lo hold h rains nf fm fd fk fn nw sm ws but nc cm cd nine wet rm rw_ n = z_runs nd ns up lo hold h' rains nf fm' fd fk fn' nw sm' ws but nc cm' cd nine wet rm rw_ n := by
  refine pi_lp_c n (fun m _ t => ?_) z_t0
  have a1 : ∀ s, z_falls (nI m) nd fm fd fk fn nf s = z_falls (nI m) nd fm' fd fk fn' nf s := fun s => pi_lp_c nf (fun i hi s => by
    show (if fm i = _ then _ else _) = (if fm' i = _ then _ else _)
    rw [(e1 i hi).1, (e1 i hi).2]) s
  have a2 : ∀ s, z_m2 h rains nd ns up lo nine wet m s = z_m2 h' rains nd ns up lo nine wet m s := fun s => by rw [z_m2, z_m2, z_rain_h e0]
  have a3 : ∀ s, z_sws (nI m) but sm ws ns up lo hold nw s = z_sws (nI m) but sm' ws ns up lo hold nw s := fun s => pi_lp_c nw (fun i hi s => by
    show (if sm i = _ then _ else _) = (if sm' i = _ then _ else _)
    rw [e2 i hi]) s
  have a4 : ∀ s, z_cts (nI m) nd cm cd nc s = z_cts (nI m) nd cm' cd nc s := fun s => pi_lp_c nc (fun i hi s => by
    show (if cm i = _ then _ else _) = (if cm' i = _ then _ else _)
    rw [e3 i hi]) s
  rw [z_min, z_min, a1, a2, a3, a4]
/-- an end that every step keeps -/
theorem pi_lp_ind {α : Type} {f : Nat → α → α} {P : α → Prop} : ∀ n, (∀ i, i < n → ∀ s, P s → P (f i s)) → ∀ s, P s → P (pi_lp f n s) := by
  intro n
  induction n with
  | zero => intro _ s h; exact h
  | succ n ih =>
    intro h s hs
    exact h n (by omega) _ (ih (fun i hi => h i (by omega)) s hs)
/-- what holds of all that lies, minute by minute -/
theorem z_R_ind {W : zW} (hk : z_wk W) {wet but : Int32} {rm : Nat} {rw_ : Nat → Nat} (P : Nat → zH → Prop) (h0 : P 0 (fun _ => nI 0, fun _ => nI 0))
    (hf : ∀ m s, P m s → P (m + 1) (z_falls (nI m) W.nd W.fm W.fd W.fk W.fn W.nf s)) (hg : ∀ m k s, k < W.ns → P m s → P m (z_gd (W.up k) (W.lo k) s)) (ht : ∀ m d s, d < W.nd → P m s → P m (z_tk d s)) (n : Nat) : P n (z_R W wet but rm rw_ n).1.1 := by
  induction n with
  | zero => exact h0
  | succ m ih =>
    have b1 := hf m _ ih
    have b2 : P (m + 1) (z_m2 W.hh W.rn W.nd W.ns W.up W.lo W.nine wet m (z_falls (nI m) W.nd W.fm W.fd W.fk W.fn W.nf (z_R W wet but rm rw_ m).1.1)) := by
      rw [z_m2]
      split
      · refine pi_lp_ind 10 (fun i _ s hs => pi_lp_ind W.nd (fun d hd s hs => ?_) s hs) _ b1
        rw [z_r1]
        split
        · split
          · exact hs
          · have := z_fi_le W.up d W.ns W.ns
            exact hg _ _ _ (by omega) hs
        · exact hs
      · exact b1
    have b3 : P (m + 1) (z_sws (nI m) but W.sm W.ws W.ns W.up W.lo W.hd W.nw (z_m2 W.hh W.rn W.nd W.ns W.up W.lo W.nine wet m (z_falls (nI m) W.nd W.fm W.fd W.fk W.fn W.nf (z_R W wet but rm rw_ m).1.1), (z_R W wet but rm rw_ m).1.2)).1 := by
      refine pi_lp_ind (P := fun (z : zH × Int32) => P (m + 1) z.1) W.nw (fun i _ s hs => ?_) _ b2
      show P (m + 1) (ite _ _ _ : zH × Int32).1
      split
      · split
        · exact hs
        · cases hb : z_may W.ns W.up W.lo W.hd s.1.1 (W.ws i) with
          | true => exact hg _ _ _ (of_decide_eq_true hb).1 hs
          | false => exact hs
      · exact hs
    have b4 : ∀ t : zH × Bool, P (m + 1) t.1 → P (m + 1) (z_m4 W.hd W.ns W.up W.lo W.nine rm rw_ m t).1 := by
      intro t h
      rw [z_m4]
      split
      · refine pi_lp_ind (P := fun (z : zH × Bool) => P (m + 1) z.1) rm (fun i _ s hs => ?_) t h
        show P (m + 1) (cond _ _ _)
        cases hb : s.2 && z_may W.ns W.up W.lo W.hd s.1.1 (rw_ i) with
        | true => exact hg _ _ _ (of_decide_eq_true (Bool.and_eq_true_iff.mp hb).2).1 hs
        | false => exact hs
      · exact h
    refine pi_lp_ind (P := fun z => P (m + 1) z) W.nc (fun i hi s hs => ?_) _ (b4 _ b3)
    show P (m + 1) (ite _ _ _)
    split
    · split
      · exact ht _ _ _ (by assumption) hs
      · exact hs
    · exact hs
theorem z_upd_ge {f : Nat → Int32} {j n : Nat} {x : Int32} (hj : j < n) (h : ∀ k, n ≤ k → f k = nI 0) : ∀ k, n ≤ k → upd f j x k = nI 0 := fun k hk => (if_neg (by omega)).trans (h k hk)
theorem z_R_tail {W : zW} (hk : z_wk W) (wet but : Int32) (rm : Nat) (rw_ : Nat → Nat) (n : Nat) : (∀ k, 40 ≤ k → (z_R W wet but rm rw_ n).1.1.1 k = nI 0) ∧ ∀ k, 40 ≤ k → (z_R W wet but rm rw_ n).1.1.2 k = nI 0 := by
  have hnd := hk.wd.nd8
  refine z_R_ind hk (fun _ (s : zH) => (∀ k, 40 ≤ k → s.1 k = nI 0) ∧ ∀ k, 40 ≤ k → s.2 k = nI 0) ⟨fun _ _ => rfl, fun _ _ => rfl⟩ ?_ ?_ ?_ n
  · intro m s hs
    refine pi_lp_ind (P := fun (s : zH) => (∀ k, 40 ≤ k → s.1 k = nI 0) ∧ ∀ k, 40 ≤ k → s.2 k = nI 0) W.nf (fun i hi s hs => ?_) s hs
    have := hk.fa i hi
    show (∀ k, 40 ≤ k → (ite _ _ _ : zH).1 k = nI 0) ∧ ∀ k, 40 ≤ k → (ite _ _ _ : zH).2 k = nI 0
    split
    · split
      · exact ⟨z_upd_ge (by omega) hs.1, z_upd_ge (by omega) hs.2⟩
      · exact hs
    · exact hs
  · intro m k s hk2 hs
    have := hk.wd.us k hk2
    refine pi_lp_ind (P := fun (s : zH) => (∀ k, 40 ≤ k → s.1 k = nI 0) ∧ ∀ k, 40 ≤ k → s.2 k = nI 0) 5 (fun i hi s hs => ?_) s hs
    exact ⟨z_upd_ge (by omega) (z_upd_ge (by omega) hs.1), z_upd_ge (by omega) (z_upd_ge (by omega) hs.2)⟩
  · intro m d s hd hs
    refine pi_lp_ind (P := fun (s : zH) => (∀ k, 40 ≤ k → s.1 k = nI 0) ∧ ∀ k, 40 ≤ k → s.2 k = nI 0) 5 (fun i hi s hs => ?_) s hs
    exact ⟨z_upd_ge (by omega) hs.1, z_upd_ge (by omega) hs.2⟩
