def z_u {α : Type} (f : Nat → α) (k : Nat) (v : α) : Nat → α := fun j => if j = k then v else f j
theorem z_u_s {α : Type} (f : Nat → α) (k : Nat) (v : α) : z_u f k v k = v := if_pos rfl
theorem z_u_n {α : Type} (f : Nat → α) {k j : Nat} (v : α) (h : j ≠ k) : z_u f k v j = f j := if_neg h
def zW.sN (W : zW) (i v : Nat) : zW := (z_u W.1 i v, W.2)
def zW.sF (W : zW) (i : Nat) (f : Nat → Nat) : zW := (W.1, z_u W.2.1 i f, W.2.2)
def zW.sI (W : zW) (i : Nat) (f : Nat → Int32) : zW := (W.1, W.2.1, z_u W.2.2.1 i f, W.2.2.2)
def zW.sS (W : zW) (i : Nat) (x : Int32) : zW := (W.1, W.2.1, W.2.2.1, z_u W.2.2.2 i x)
/-- one more fall -/
def zW.fall (W : zW) (mi : Int32) (dr kd : Nat) (n : Int32) : zW := ((((W.sN 3 (W.nf + 1)).sI 4 (z_u W.fm W.nf mi)).sF 0 (z_u W.fd W.nf dr)).sF 1 (z_u W.fk W.nf kd)).sI 5 (z_u W.fn W.nf n)
theorem z_wk.fall {W : zW} (h : z_wk W) (hnf : W.nf ≤ 20) {mi : Int32} {dr kd b : Nat} (hd : dr < 8) (hkd : kd < 5) (h1 : 1 ≤ b) (h9 : b ≤ 9) : z_wk (W.fall mi dr kd (nI b)) := z_wk.mk
  (wd := z_wd.mk h.wd.n0 h.wd.n1 h.wd.dr h.wd.hh h.wd.sr h.wd.us)
  (nine := h.nine)
  (nf := show W.nf + 1 ≤ 21 by omega)
  (nw := h.nw)
  (nc := h.nc)
  (fa := fun i hi => by
    have hi1 : i < W.nf + 1 := hi
    show z_u W.fd W.nf dr i < 8 ∧ z_u W.fk W.nf kd i < 5 ∧ ∃ b', 1 ≤ b' ∧ b' ≤ 9 ∧ z_u W.fn W.nf (nI b) i = nI b'
    by_cases q : i = W.nf
    · rw [q, z_u_s, z_u_s, z_u_s]
      exact ⟨hd, hkd, b, h1, h9, rfl⟩
    · rw [z_u_n _ _ q, z_u_n _ _ q, z_u_n _ _ q]
      exact h.fa i (by omega))
  (sw := h.sw)
  (ca := h.ca)
  (rt := h.rt)
  (hd := h.hd)
  (pr := h.pr)
  (si := h.si)
theorem z_upd_s (f : Nat → Int32) (k : Nat) (x : Int32) : upd f k x k = x := if_pos rfl
theorem z_upd_n (f : Nat → Int32) {k j : Nat} (x : Int32) (h : j ≠ k) : upd f k x j = f j := if_neg h
theorem z_MR.fall {W : zW} {s σ : pi_S} (h : z_MR W σ) (hnf : W.nf ≤ 20) {mi : Int32} {dr kd b : Nat} (hd : dr < 8) (hkd : kd < 5) (h1 : 1 ≤ b) (h9 : b ≤ 9)
    (e5 : s 65 = upd (σ 65) W.nf mi) (e6 : s 66 = upd (σ 66) W.nf (nI dr)) (e7 : s 67 = upd (σ 67) W.nf (nI kd)) (e8 : s 68 = upd (σ 68) W.nf (nI b)) (e11 : s 56 11 = nI (W.nf + 1)) (hs : pi_fs 56 [2, 4, 11, 25, 26, 28] s σ) (hr : pi_fr [56, 59, 60, 61, 65, 66, 67, 68, 76] s σ) : z_MR (W.fall mi dr kd (nI b)) s := z_MR.mk
  (wk := h.wk.fall hnf hd hkd h1 h9)
  (n0 := (congrFun (hr 57 (by decide)) 0).trans h.n0)
  (n1 := (congrFun (hr 57 (by decide)) 1).trans h.n1)
  (tx := (hr 58 (by decide)).trans h.tx)
  (rt := (hr 62 (by decide)).trans h.rt)
  (hd := (hr 63 (by decide)).trans h.hd)
  (pr := (hr 64 (by decide)).trans h.pr)
  (nine := (hs 10 (by decide)).trans h.nine)
  (nf := e11)
  (fa := fun i hi => by
    have hi1 : i < W.nf + 1 := hi
    show s 65 i = z_u W.fm W.nf mi i ∧ s 66 i = nI (z_u W.fd W.nf dr i) ∧ s 67 i = nI (z_u W.fk W.nf kd i) ∧ s 68 i = z_u W.fn W.nf (nI b) i
    rw [e5, e6, e7, e8]
    by_cases q : i = W.nf
    · rw [q, z_u_s, z_u_s, z_u_s, z_u_s, z_upd_s, z_upd_s, z_upd_s, z_upd_s]
      exact ⟨rfl, rfl, rfl, rfl⟩
    · rw [z_u_n _ _ q, z_u_n _ _ q, z_u_n _ _ q, z_u_n _ _ q, z_upd_n _ _ q, z_upd_n _ _ q, z_upd_n _ _ q, z_upd_n _ _ q]
      exact h.fa i (by omega))
  (nw := (hs 16 (by decide)).trans h.nw)
  (sw := fun i hi => by
    rw [hr 69 (by decide), hr 70 (by decide)]
    exact h.sw i hi)
  (nc := (hs 19 (by decide)).trans h.nc)
  (ca := fun i hi => by
    rw [hr 71 (by decide), hr 72 (by decide)]
    exact h.ca i hi)
  (rn := (hr 73 (by decide)).trans h.rn)
  (th := fun k hk => (congrFun (hr 77 (by decide)) k).trans (h.th k hk))
  (fo := fun k hk => (congrFun (hr 78 (by decide)) k).trans (h.fo k hk))
  (si := fun k hk => (congrFun (hr 79 (by decide)) k).trans (h.si k hk))
  (it := (hr 80 (by decide)).trans h.it)
  (fi := (hs 34 (by decide)).trans h.fi)
  (j4 := fun k hk => (congrFun (hr 74 (by decide)) k).trans (h.j4 k hk))
  (j5 := fun k hk => (congrFun (hr 75 (by decide)) k).trans (h.j5 k hk))
theorem z_MT.fall {W : zW} {s σ : pi_S} (h : z_MT W σ) (hnf : W.nf ≤ 20) {mi : Int32} {dr kd b : Nat} (hd : dr < 8) (hkd : kd < 5) (h1 : 1 ≤ b) (h9 : b ≤ 9)
    (e5 : s 65 = upd (σ 65) W.nf mi) (e6 : s 66 = upd (σ 66) W.nf (nI dr)) (e7 : s 67 = upd (σ 67) W.nf (nI kd)) (e8 : s 68 = upd (σ 68) W.nf (nI b)) (e11 : s 56 11 = nI (W.nf + 1)) (hs : pi_fs 56 [11, 25, 26, 28] s σ) (hr : pi_fr [56, 65, 66, 67, 68, 76] s σ) : z_MT (W.fall mi dr kd (nI b)) s := z_MT.mk
  (mr := h.mr.fall hnf hd hkd h1 h9 e5 e6 e7 e8 e11 (pi_fs_ca hs (by decide) pi_fs_rf) (pi_fr_tr hr (by decide) pi_fr_rf))
  (d2 := (hs 2 (by decide)).trans h.d2)
  (d4 := (hs 4 (by decide)).trans h.d4)
  (h := fun k hk => (congrFun (hr 59 (by decide)) k).trans (h.h k hk))
  (st := fun k hk => by
    rw [hr 60 (by decide), hr 61 (by decide)]
    exact h.st k hk)
/-- the last fall taken back -/
theorem z_MT.unfall {W : zW} {s σ : pi_S} {mi : Int32} {dr kd : Nat} {n : Int32} (h : z_MT (W.fall mi dr kd n) σ) (hk : z_wk W) (e11 : s 56 11 = nI W.nf) (hs : pi_fs 56 [11] s σ) (hr : pi_fr [56] s σ) : z_MT W s := z_MT.mk
  (mr := z_MR.mk
    (wk := hk)
    (n0 := (congrFun (hr 57 (by decide)) 0).trans h.mr.n0)
    (n1 := (congrFun (hr 57 (by decide)) 1).trans h.mr.n1)
    (tx := (hr 58 (by decide)).trans h.mr.tx)
    (rt := (hr 62 (by decide)).trans h.mr.rt)
    (hd := (hr 63 (by decide)).trans h.mr.hd)
    (pr := (hr 64 (by decide)).trans h.mr.pr)
    (nine := (hs 10 (by decide)).trans h.mr.nine)
    (nf := e11)
    (fa := fun i hi => by
      have q := h.mr.fa i (show i < W.nf + 1 by omega)
      have q : σ 65 i = z_u W.fm W.nf mi i ∧ σ 66 i = nI (z_u W.fd W.nf dr i) ∧ σ 67 i = nI (z_u W.fk W.nf kd i) ∧ σ 68 i = z_u W.fn W.nf n i := q
      have hn : i ≠ W.nf := by omega
      rw [z_u_n _ _ hn, z_u_n _ _ hn, z_u_n _ _ hn, z_u_n _ _ hn] at q
      rw [hr 65 (by decide), hr 66 (by decide), hr 67 (by decide), hr 68 (by decide)]
      exact q)
    (nw := (hs 16 (by decide)).trans h.mr.nw)
    (sw := fun i hi => by
      rw [hr 69 (by decide), hr 70 (by decide)]
      exact h.mr.sw i hi)
    (nc := (hs 19 (by decide)).trans h.mr.nc)
    (ca := fun i hi => by
      rw [hr 71 (by decide), hr 72 (by decide)]
      exact h.mr.ca i hi)
    (rn := (hr 73 (by decide)).trans h.mr.rn)
    (th := fun k hk => (congrFun (hr 77 (by decide)) k).trans (h.mr.th k hk))
    (fo := fun k hk => (congrFun (hr 78 (by decide)) k).trans (h.mr.fo k hk))
    (si := fun k hk => (congrFun (hr 79 (by decide)) k).trans (h.mr.si k hk))
    (it := (hr 80 (by decide)).trans h.mr.it)
    (fi := (hs 34 (by decide)).trans h.mr.fi)
    (j4 := fun k hk => (congrFun (hr 74 (by decide)) k).trans (h.mr.j4 k hk))
    (j5 := fun k hk => (congrFun (hr 75 (by decide)) k).trans (h.mr.j5 k hk)))
  (d2 := (hs 2 (by decide)).trans h.d2)
  (d4 := (hs 4 (by decide)).trans h.d4)
  (h := fun k hk => (congrFun (hr 59 (by decide)) k).trans (h.h k hk))
  (st := fun k hk => by
    rw [hr 60 (by decide), hr 61 (by decide)]
    exact h.st k hk)
def z_who (W : zW) (mi : Int32) (kd dr n : Nat) : Int32 := pi_lp (fun d b => b ||| (if (z_A (W.fall mi d kd (nI 1))).1.1.1 (5 * dr + kd) = (z_A W).1.1.1 (5 * dr + kd) + nI 1 then nI 1 <<< (nI d &&& 31) else nI 0)) n (nI 0)
theorem z_who_s (W : zW) (mi : Int32) (kd dr n : Nat) : z_who W mi kd dr (n + 1) = z_who W mi kd dr n ||| (if (z_A (W.fall mi n kd (nI 1))).1.1.1 (5 * dr + kd) = (z_A W).1.1.1 (5 * dr + kd) + nI 1 then nI 1 <<< (nI n &&& 31) else nI 0) := rfl
/-! bits, and what one comes to -/
def z_bt (b k : Int32) : Bool := decide ((b >>> (k &&& 31)) &&& nI 1 = nI 1)
def z_rc1 (up lo : Nat → Nat) (dr : Nat) (cut : Int32) (k : Nat) (b : Int32) : Int32 := b ||| (if z_bt cut (nI k) = true then nI 0 else if up k = dr then nI 1 <<< (nI (lo k) &&& 31) else if z_bt b (nI (up k)) = true then nI 1 <<< (nI (lo k) &&& 31) else nI 0)
def z_rch (up lo : Nat → Nat) (ns : Nat) (dr : Nat) (cut : Int32) (n : Nat) : Int32 := pi_lp (fun _ b => pi_lp (z_rc1 up lo dr cut) ns b) n (nI 0)
def z_rc (up lo : Nat → Nat) (ns : Nat) (dr : Nat) (cut : Int32) : Int32 := z_rch up lo ns dr cut 8
theorem z_rc1_s (up lo : Nat → Nat) (dr : Nat) (cut : Int32) (n : Nat) (b : Int32) : pi_lp (z_rc1 up lo dr cut) (n + 1) b = pi_lp (z_rc1 up lo dr cut) n b ||| (if z_bt cut (nI n) = true then nI 0 else if up n = dr then nI 1 <<< (nI (lo n) &&& 31) else if z_bt (pi_lp (z_rc1 up lo dr cut) n b) (nI (up n)) = true then nI 1 <<< (nI (lo n) &&& 31) else nI 0) := rfl
def z_net (up lo : Nat → Nat) (ns : Nat) (dr : Nat) (n : Nat) : Int32 := pi_lp (fun d b => b ||| (if z_bt (z_rc up lo ns d (nI 0)) (nI dr) = true then nI 1 <<< (nI d &&& 31) else nI 0)) n (nI 0)
theorem z_net_s (up lo : Nat → Nat) (ns : Nat) (dr : Nat) (n : Nat) : z_net up lo ns dr (n + 1) = z_net up lo ns dr n ||| (if z_bt (z_rc up lo ns n (nI 0)) (nI dr) = true then nI 1 <<< (nI n &&& 31) else nI 0) := rfl
def z_ones (b : Int32) : Int32 := pi_lp (fun k n => n + (b >>> (nI k &&& 31) &&& nI 1)) 12 (nI 0)
def z_ct1 (up lo : Nat → Nat) (ns : Nat) (a : Nat) (b : Int32) (k : Nat) (best : Int32) : Int32 := if best = -1 ∨ z_ones (nI k) < z_ones best then (if z_bt (z_rc up lo ns a (nI k)) b = true then best else nI k) else best
def z_ct (up lo : Nat → Nat) (ns : Nat) (a : Nat) (b : Int32) (n : Nat) : Int32 := pi_lp (z_ct1 up lo ns a b) n (-1)
theorem z_ct_s (up lo : Nat → Nat) (ns : Nat) (a : Nat) (b : Int32) (n : Nat) : z_ct up lo ns a b (n + 1) = if z_ct up lo ns a b n = -1 ∨ z_ones (nI n) < z_ones (z_ct up lo ns a b n) then (if z_bt (z_rc up lo ns a (nI n)) b = true then z_ct up lo ns a b n else nI n) else z_ct up lo ns a b n := rfl
