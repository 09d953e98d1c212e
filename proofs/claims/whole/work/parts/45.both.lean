theorem pi_J_type {W : zW} {σ : pi_S} (hJ : z_J W σ) (a b : Int32) : z_Z Value.int W σ 61 105 [some (.ref 0), some (.int a), some (.int b), none] [some (.ref 56), some (.int a), some (.int b)] := by
  obtain ⟨hR, hM, hn⟩ := hJ
  have hk := hM.wk
  by_cases q : z_B 2 a ∧ z_B 256 b
  · obtain ⟨⟨k, hk2, rfl⟩, c, hc, rfl⟩ := q
    rcases (show k = 0 ∨ k = 1 by omega) with rfl | rfl
    · by_cases w : W.n0 = 8
      · refine z_Zc _ ?_ _ (fun xs L d => pi_X_type0_full (d := d + 2) hR hc w) (fun xs L d τ hm => pi_P_type0_full (d := d + 2) hm hc w)
        exact (hn)
      · have hlt : W.n0 < 8 := by have := hk.wd.n0; omega
        obtain ⟨V, hw⟩ := z_wd_ex (((W.sN 0 (W.n0 + 1)).sI 0 (upd W.tx (0 + W.n0) (nI c)))) (hlt) (hk.wd.n1)
        refine z_Zc _ ?_ _ (fun xs L d => pi_X_type0 (d := d + 2) hR hc hlt hw) (fun xs L d τ hm => pi_P_type0 (d := d + 2) hm hc hlt hw)
        exact (hn)
    · by_cases w : W.n1 = 40
      · refine z_Zc _ ?_ _ (fun xs L d => pi_X_type1_full (d := d + 2) hR hc w) (fun xs L d τ hm => pi_P_type1_full (d := d + 2) hm hc w)
        exact (hn)
      · have hlt : W.n1 < 40 := by have := hk.wd.n1; omega
        obtain ⟨V, hw⟩ := z_wd_ex (((W.sN 1 (W.n1 + 1)).sI 0 (upd W.tx (40 + W.n1) (nI c)))) (hk.wd.n0) (hlt)
        refine z_Zc _ ?_ _ (fun xs L d => pi_X_type1 (d := d + 2) hR hc hlt hw) (fun xs L d τ hm => pi_P_type1 (d := d + 2) hm hc hlt hw)
        exact (hn)
  · exact z_Zq hn _ (fun xs L d => pi_X_type_bad (d := d + 2) hR q) (fun xs L d τ hm => pi_P_type_bad (d := d + 2) hm q)
theorem pi_J_wipe {W : zW} {σ : pi_S} (hJ : z_J W σ) (a : Int32) : z_Z Value.int W σ 62 106 [some (.ref 0), some (.int a), none] [some (.ref 56), some (.int a), none] := by
  obtain ⟨hR, hM, hn⟩ := hJ
  have hk := hM.wk
  by_cases q : z_B 2 a
  · obtain ⟨k, hk2, rfl⟩ := q
    rcases (show k = 0 ∨ k = 1 by omega) with rfl | rfl
    · obtain ⟨V, hw⟩ := z_wd_ex (W.sN 0 0) (Nat.zero_le 8) (hk.wd.n1)
      refine z_Zc _ ?_ _ (fun xs L d => pi_X_wipe0 (d := d + 2) hR hw) (fun xs L d τ hm => pi_P_wipe0 (d := d + 2) hm hw)
      exact (hn)
    · obtain ⟨V, hw⟩ := z_wd_ex (W.sN 1 0) (hk.wd.n0) (Nat.zero_le 40)
      refine z_Zc _ ?_ _ (fun xs L d => pi_X_wipe1 (d := d + 2) hR hw) (fun xs L d τ hm => pi_P_wipe1 (d := d + 2) hm hw)
      exact (hn)
  · exact z_Zq hn _ (fun xs L d => pi_X_wipe_bad (d := d + 2) hR q) (fun xs L d τ hm => pi_P_wipe_bad (d := d + 2) hm q)
theorem pi_J_fault {W : zW} {σ : pi_S} (hJ : z_J W σ) (a : Int32) : z_Z Value.int W σ 63 112 [some (.ref 0), some (.int a)] [some (.ref 56), some (.int a)] := by
  obtain ⟨hR, hM, hn⟩ := hJ
  have hk := hM.wk
  by_cases q : z_B 2 a
  · obtain ⟨k, hk2, rfl⟩ := q
    rcases (show k = 0 ∨ k = 1 by omega) with rfl | rfl
    · exact z_Zq hn _ (fun xs L d => pi_X_fault0 (d := d + 2) hR ) (fun xs L d τ hm => pi_P_fault0 (d := d + 2) hm )
    · exact z_Zq hn _ (fun xs L d => pi_X_fault1 (d := d + 2) hR ) (fun xs L d τ hm => pi_P_fault1 (d := d + 2) hm )
  · exact z_Zq hn _ (fun xs L d => pi_X_fault_bad (d := d + 2) hR q) (fun xs L d τ hm => pi_P_fault_bad (d := d + 2) hm q)
theorem pi_J_height {W : zW} {σ : pi_S} (hJ : z_J W σ) (a : Int32) : z_Z Value.int W σ 64 117 [some (.ref 0), some (.int a)] [some (.ref 56), some (.int a)] := by
  obtain ⟨hR, hM, hn⟩ := hJ
  have hk := hM.wk
  by_cases q : z_B W.nd a
  · obtain ⟨k, hk2, rfl⟩ := q
    exact z_Zq hn _ (fun xs L d => pi_X_height (d := d + 2) hR hk2) (fun xs L d τ hm => pi_P_height (d := d + 2) hm hk2)
  · exact z_Zq hn _ (fun xs L d => pi_X_height_bad (d := d + 2) hR q) (fun xs L d τ hm => pi_P_height_bad (d := d + 2) hm q)
theorem pi_J_street {W : zW} {σ : pi_S} (hJ : z_J W σ) (a b : Int32) : z_Z Value.int W σ 65 118 [some (.ref 0), some (.int a), some (.int b)] [some (.ref 56), some (.int a), some (.int b)] := by
  obtain ⟨hR, hM, hn⟩ := hJ
  have hk := hM.wk
  by_cases q : z_B W.ns a ∧ z_B 2 b
  · obtain ⟨⟨k, hk2, rfl⟩, w, hw, rfl⟩ := q
    rcases (show w = 0 ∨ w = 1 by omega) with rfl | rfl
    · exact z_Zq hn _ (fun xs L d => pi_X_street0 (d := d + 2) hR hk2) (fun xs L d τ hm => pi_P_street0 (d := d + 2) hm hk2)
    · exact z_Zq hn _ (fun xs L d => pi_X_street1 (d := d + 2) hR hk2) (fun xs L d τ hm => pi_P_street1 (d := d + 2) hm hk2)
  · exact z_Zq hn _ (fun xs L d => pi_X_street_bad (d := d + 2) hR q) (fun xs L d τ hm => pi_P_street_bad (d := d + 2) hm q)
theorem pi_J_set {W : zW} {σ : pi_S} (hJ : z_J W σ) (a b c : Int32) : z_Z Value.int W σ 66 119 [some (.ref 0), some (.int a), some (.int b), some (.int c)] [some (.ref 56), some (.int a), some (.int b), some (.int c), none, none, none] := by
  obtain ⟨hR, hM, hn⟩ := hJ
  have hk := hM.wk
  by_cases q : z_B 4 a
  · obtain ⟨k, hk2, rfl⟩ := q
    rcases (show k = 0 ∨ k = 1 ∨ k = 2 ∨ k = 3 by omega) with rfl | rfl | rfl | rfl
    · by_cases w : z_B 5 b ∧ z_B 10 c
      · obtain ⟨⟨x, hx, rfl⟩, y, hy, rfl⟩ := w
        refine z_Zc _ ?_ _ (fun xs L d => pi_X_set0 (d := d + 2) hR hx (by omega)) (fun xs L d τ hm => pi_P_set0 (d := d + 2) hm hx (by omega))
        exact (hn)
      · refine z_Zc _ ?_ _ (fun xs L d => pi_X_set0_bad (d := d + 2) hR w) (fun xs L d τ hm => pi_P_set0_bad (d := d + 2) hm (fun z => w z.2))
        exact (hn)
    · by_cases w : z_B 8 b ∧ z_B 100 c
      · obtain ⟨⟨x, hx, rfl⟩, y, hy, rfl⟩ := w
        refine z_Zc _ ?_ _ (fun xs L d => pi_X_set1 (d := d + 2) hR hx (by omega)) (fun xs L d τ hm => pi_P_set1 (d := d + 2) hm hx (by omega))
        exact (hn)
      · refine z_Zc _ ?_ _ (fun xs L d => pi_X_set1_bad (d := d + 2) hR w) (fun xs L d τ hm => pi_P_set1_bad (d := d + 2) hm (fun z => w z.2))
        exact (hn)
    · by_cases w : z_B 8 b ∧ z_P 9 c
      · obtain ⟨⟨x, hx, rfl⟩, y, hy1, hy, rfl⟩ := w
        refine z_Zc _ ?_ _ (fun xs L d => pi_X_set2 (d := d + 2) hR hx (by omega) hy1) (fun xs L d τ hm => pi_P_set2 (d := d + 2) hm hx (by omega) hy1)
        exact (hn)
      · refine z_Zc _ ?_ _ (fun xs L d => pi_X_set2_bad (d := d + 2) hR w) (fun xs L d τ hm => pi_P_set2_bad (d := d + 2) hm (fun z => w z.2))
        exact (hn)
    · by_cases w : z_B 1 b ∧ z_B 60 c
      · obtain ⟨⟨x, hx, rfl⟩, y, hy, rfl⟩ := w
        obtain rfl : x = 0 := by omega
        refine z_Zc _ ?_ _ (fun xs L d => pi_X_set3 (d := d + 2) hR hy) (fun xs L d τ hm => pi_P_set3 (d := d + 2) hm hy)
        exact (hn)
      · refine z_Zc _ ?_ _ (fun xs L d => pi_X_set3_bad (d := d + 2) hR w) (fun xs L d τ hm => pi_P_set3_bad (d := d + 2) hm (fun z => w z.2))
        exact (hn)
  · refine z_Zc _ ?_ _ (fun xs L d => pi_X_setx_bad (d := d + 2) hR q) (fun xs L d τ hm => pi_P_setx_bad (d := d + 2) hm q)
    exact (hn)
theorem pi_J_read {W : zW} {σ : pi_S} (hJ : z_J W σ) (a : Int32) : z_Z Value.int W σ 67 120 [some (.ref 0), some (.int a), none] [some (.ref 56), some (.int a), none] := by
  obtain ⟨hR, hM, hn⟩ := hJ
  have hk := hM.wk
  by_cases q : z_B 4 a
  · obtain ⟨k, hk2, rfl⟩ := q
    rcases (show k = 0 ∨ k = 1 ∨ k = 2 ∨ k = 3 by omega) with rfl | rfl | rfl | rfl
    · by_cases w : W.th 0 = 0
      · refine z_Zc _ ?_ _ (fun xs L d => pi_X_read0_null (d := d + 2) hR w) (fun xs L d τ hm => pi_P_read_null (d := d + 2) hm (k := 0) hk2 w)
        exact (hn)
      · obtain ⟨N, hN⟩ := z_rs_ex (W := W) 0
        refine z_Zc _ ?_ _ (fun xs L d => pi_X_read0 (d := d + 2) hR w hN) (fun xs L d τ hm => pi_P_read (d := d + 2) hm (k := 0) hk2 w hN)
        exact (hn)
    · by_cases w : W.th 1 = 0
      · refine z_Zc _ ?_ _ (fun xs L d => pi_X_read1_null (d := d + 2) hR w) (fun xs L d τ hm => pi_P_read_null (d := d + 2) hm (k := 1) hk2 w)
        exact (hn)
      · obtain ⟨N, hN⟩ := z_rs_ex (W := W) 1
        refine z_Zc _ ?_ _ (fun xs L d => pi_X_read1 (d := d + 2) hR w hN) (fun xs L d τ hm => pi_P_read (d := d + 2) hm (k := 1) hk2 w hN)
        exact (hn)
    · by_cases w : W.th 2 = 0
      · refine z_Zc _ ?_ _ (fun xs L d => pi_X_read2_null (d := d + 2) hR w) (fun xs L d τ hm => pi_P_read_null (d := d + 2) hm (k := 2) hk2 w)
        exact (hn)
      · obtain ⟨N, hN⟩ := z_rs_ex (W := W) 2
        refine z_Zc _ ?_ _ (fun xs L d => pi_X_read2 (d := d + 2) hR w hN) (fun xs L d τ hm => pi_P_read (d := d + 2) hm (k := 2) hk2 w hN)
        exact (hn)
    · by_cases w : W.th 3 = 0
      · refine z_Zc _ ?_ _ (fun xs L d => pi_X_read3_null (d := d + 2) hR w) (fun xs L d τ hm => pi_P_read_null (d := d + 2) hm (k := 3) hk2 w)
        exact (hn)
      · obtain ⟨N, hN⟩ := z_rs_ex (W := W) 3
        refine z_Zc _ ?_ _ (fun xs L d => pi_X_read3 (d := d + 2) hR w hN) (fun xs L d τ hm => pi_P_read (d := d + 2) hm (k := 3) hk2 w hN)
        exact (hn)
  · exact z_Zq hn _ (fun xs L d => pi_X_read_bad (d := d + 2) hR q) (fun xs L d τ hm => pi_P_read_bad (d := d + 2) hm q)
theorem pi_J_fall {W : zW} {σ : pi_S} (hJ : z_J W σ) (a b c e : Int32) : z_Z Value.int W σ 68 121 [some (.ref 0), some (.int a), some (.int b), some (.int c), some (.int e)] [some (.ref 56), some (.int a), some (.int b), some (.int c), some (.int e)] := by
  obtain ⟨hR, hM, hn⟩ := hJ
  have hk := hM.wk
  by_cases q : z_B 60 a ∧ z_B 8 b ∧ z_B 5 c ∧ z_P 9 e
  · obtain ⟨⟨m, hm60, rfl⟩, ⟨x, hx, rfl⟩, ⟨y, hy, rfl⟩, z, hz1, hz, rfl⟩ := q
    by_cases w : W.nf = 20
    · refine z_Zc _ ?_ _ (fun xs L d => pi_X_fall_full (d := d + 2) hR hm60 hx hy hz1 hz w) (fun xs L d τ hm => pi_P_fall_full (d := d + 2) hm hm60 hx hy hz1 hz w)
      exact (hn)
    · have hlt : W.nf < 20 := by omega
      refine z_Zc _ ?_ _ (fun xs L d => pi_X_fall (d := d + 2) hR hm60 hx hy hz1 hz hlt) (fun xs L d τ hm => pi_P_fall (d := d + 2) hm hm60 hx hy hz1 hz hlt)
      exact (show W.nf + 1 ≤ 20 from hlt)
  · exact z_Zq hn _ (fun xs L d => pi_X_fall_bad (d := d + 2) hR q) (fun xs L d τ hm => pi_P_fall_bad (d := d + 2) hm q)
theorem pi_J_sweep {W : zW} {σ : pi_S} (hJ : z_J W σ) (a b : Int32) : z_Z Value.int W σ 69 122 [some (.ref 0), some (.int a), some (.int b)] [some (.ref 56), some (.int a), some (.int b)] := by
  obtain ⟨hR, hM, hn⟩ := hJ
  have hk := hM.wk
  by_cases q : z_B 60 a ∧ z_B 12 b
  · obtain ⟨⟨m, hm60, rfl⟩, x, hx, rfl⟩ := q
    by_cases w : W.nw = 24
    · refine z_Zc _ ?_ _ (fun xs L d => pi_X_sweep_full (d := d + 2) hR hm60 hx w) (fun xs L d τ hm => pi_P_sweep_full (d := d + 2) hm hm60 hx w)
      exact (hn)
    · have hlt : W.nw < 24 := by have := hk.nw; omega
      refine z_Zc _ ?_ _ (fun xs L d => pi_X_sweep (d := d + 2) hR hm60 hx hlt) (fun xs L d τ hm => pi_P_sweep (d := d + 2) hm hm60 hx hlt)
      exact (hn)
  · exact z_Zq hn _ (fun xs L d => pi_X_sweep_bad (d := d + 2) hR q) (fun xs L d τ hm => pi_P_sweep_bad (d := d + 2) hm q)
theorem pi_J_cart {W : zW} {σ : pi_S} (hJ : z_J W σ) (a b : Int32) : z_Z Value.int W σ 70 123 [some (.ref 0), some (.int a), some (.int b)] [some (.ref 56), some (.int a), some (.int b)] := by
  obtain ⟨hR, hM, hn⟩ := hJ
  have hk := hM.wk
  by_cases q : z_B 60 a ∧ z_B 8 b
  · obtain ⟨⟨m, hm60, rfl⟩, x, hx, rfl⟩ := q
    by_cases w : W.nc = 8
    · refine z_Zc _ ?_ _ (fun xs L d => pi_X_cart_full (d := d + 2) hR hm60 hx w) (fun xs L d τ hm => pi_P_cart_full (d := d + 2) hm hm60 hx w)
      exact (hn)
    · have hlt : W.nc < 8 := by have := hk.nc; omega
      refine z_Zc _ ?_ _ (fun xs L d => pi_X_cart (d := d + 2) hR hm60 hx hlt) (fun xs L d τ hm => pi_P_cart (d := d + 2) hm hm60 hx hlt)
      exact (hn)
  · exact z_Zq hn _ (fun xs L d => pi_X_cart_bad (d := d + 2) hR q) (fun xs L d τ hm => pi_P_cart_bad (d := d + 2) hm q)
theorem pi_J_rain {W : zW} {σ : pi_S} (hJ : z_J W σ) (a b : Int32) : z_Z Value.int W σ 71 124 [some (.ref 0), some (.int a), some (.int b), none] [some (.ref 56), some (.int a), some (.int b), none] := by
  obtain ⟨hR, hM, hn⟩ := hJ
  have hk := hM.wk
  by_cases q : z_B 60 a ∧ z_B 2 b
  · obtain ⟨⟨m, hm60, rfl⟩, x, hx, rfl⟩ := q
    refine z_Zc _ ?_ _ (fun xs L d => pi_X_rain (d := d + 2) hR hm60 hx) (fun xs L d τ hm => pi_P_rain (d := d + 2) hm hm60 hx)
    exact (hn)
  · exact z_Zq hn _ (fun xs L d => pi_X_rain_bad (d := d + 2) hR q) (fun xs L d τ hm => pi_P_rain_bad (d := d + 2) hm q)
theorem pi_J_undo {W : zW} {σ : pi_S} (hJ : z_J W σ) (a : Int32) : z_Z Value.int W σ 72 125 [some (.ref 0), some (.int a)] [some (.ref 56), some (.int a), none] := by
  obtain ⟨hR, hM, hn⟩ := hJ
  have hk := hM.wk
  by_cases q : z_B 3 a
  · obtain ⟨k, hk2, rfl⟩ := q
    rcases (show k = 0 ∨ k = 1 ∨ k = 2 by omega) with rfl | rfl | rfl
    · by_cases w : W.nf = 0
      · refine z_Zc _ ?_ _ (fun xs L d => pi_X_undo0_no (d := d + 2) hR w) (fun xs L d τ hm => pi_P_undo0_no (d := d + 2) hm w)
        exact (hn)
      · refine z_Zc _ ?_ _ (fun xs L d => pi_X_undo0 (d := d + 2) hR w) (fun xs L d τ hm => pi_P_undo0 (d := d + 2) hm w)
        exact (show W.nf - 1 ≤ 20 by omega)
    · by_cases w : W.nw = 0
      · refine z_Zc _ ?_ _ (fun xs L d => pi_X_undo1_no (d := d + 2) hR w) (fun xs L d τ hm => pi_P_undo1_no (d := d + 2) hm w)
        exact (hn)
      · refine z_Zc _ ?_ _ (fun xs L d => pi_X_undo1 (d := d + 2) hR w) (fun xs L d τ hm => pi_P_undo1 (d := d + 2) hm w)
        exact (hn)
    · by_cases w : W.nc = 0
      · refine z_Zc _ ?_ _ (fun xs L d => pi_X_undo2_no (d := d + 2) hR w) (fun xs L d τ hm => pi_P_undo2_no (d := d + 2) hm w)
        exact (hn)
      · refine z_Zc _ ?_ _ (fun xs L d => pi_X_undo2 (d := d + 2) hR w) (fun xs L d τ hm => pi_P_undo2 (d := d + 2) hm w)
        exact (hn)
  · exact z_Zq hn _ (fun xs L d => pi_X_undo_bad (d := d + 2) hR q) (fun xs L d τ hm => pi_P_undo_bad (d := d + 2) hm q)
theorem pi_J_lies {W : zW} {σ : pi_S} (hJ : z_J W σ) (a b c : Int32) : z_Z Value.int W σ 73 134 [some (.ref 0), some (.int a), some (.int b), some (.int c), none] [some (.ref 56), some (.int a), some (.int b), some (.int c)] := by
  obtain ⟨hR, hM, hn⟩ := hJ
  have hk := hM.wk
  by_cases q : z_B W.nd a ∧ z_B (W.nine + 1) b ∧ z_B1 5 c
  · obtain ⟨⟨x, hx, rfl⟩, ⟨m, hm9, rfl⟩, rfl | ⟨k, hk5, rfl⟩⟩ := q
    · exact z_Zq hn _ (fun xs L d => pi_X_lies0 (d := d + 2) hR hx hm9) (fun xs L d τ hm => pi_P_lies0 (d := d + 2) hm hx hm9)
    · exact z_Zq hn _ (fun xs L d => pi_X_lies1 (d := d + 2) hR hx hm9 hk5) (fun xs L d τ hm => pi_P_lies1 (d := d + 2) hm hx hm9 hk5)
  · exact z_Zq hn _ (fun xs L d => pi_X_lies_bad (d := d + 2) hR q) (fun xs L d τ hm => pi_P_lies_bad (d := d + 2) hm q)
theorem pi_J_fine {W : zW} {σ : pi_S} (hJ : z_J W σ) (a : Int32) : z_Z Value.int W σ 74 138 [some (.ref 0), some (.int a)] [some (.ref 56), some (.int a)] := by
  obtain ⟨hR, hM, hn⟩ := hJ
  have hk := hM.wk
  by_cases q : a = -1 ∨ z_B W.nd a
  · obtain rfl | ⟨x, hx, rfl⟩ := q
    · exact z_Zq hn _ (fun xs L d => pi_X_fine0 (d := d + 2) hR ) (fun xs L d τ hm => pi_P_fine0 (d := d + 2) hm )
    · exact z_Zq hn _ (fun xs L d => pi_X_fine1 (d := d + 2) hR hx) (fun xs L d τ hm => pi_P_fine1 (d := d + 2) hm hx)
  · exact z_Zq hn _ (fun xs L d => pi_X_fine_bad (d := d + 2) hR q) (fun xs L d τ hm => pi_P_fine_bad (d := d + 2) hm q)
theorem pi_J_judged {W : zW} {σ : pi_S} (hJ : z_J W σ) : z_Z Value.int W σ 75 140 [some (.ref 0)] [some (.ref 56)] := by
  obtain ⟨hR, hM, hn⟩ := hJ
  have hk := hM.wk
  exact z_Zq hn _ (fun xs L d => pi_X_judged (d := d + 2) hR ) (fun xs L d τ hm => pi_P_judged (d := d + 2) hm )
theorem pi_J_least {W : zW} {σ : pi_S} (hJ : z_J W σ) (a b : Int32) : z_Z Value.int W σ 76 142 [some (.ref 0), some (.int a), some (.int b)] [some (.ref 56), some (.int a), some (.int b)] := by
  obtain ⟨hR, hM, hn⟩ := hJ
  have hk := hM.wk
  by_cases q : z_B 4 a ∧ z_B1 3 b
  · obtain ⟨⟨k, hk4, rfl⟩, rfl | ⟨i, hi, rfl⟩⟩ := q
    · exact z_Zq hn _ (fun xs L d => pi_X_least0 (d := d + 2) hR hk4) (fun xs L d τ hm => pi_P_least0 (d := d + 2) hm hk4)
    · exact z_Zq hn _ (fun xs L d => pi_X_least1 (d := d + 2) hR hk4 hi) (fun xs L d τ hm => pi_P_least1 (d := d + 2) hm hk4 hi)
  · exact z_Zq hn _ (fun xs L d => pi_X_least_bad (d := d + 2) hR q) (fun xs L d τ hm => pi_P_least_bad (d := d + 2) hm q)
theorem pi_J_nets {W : zW} {σ : pi_S} (hJ : z_J W σ) (a b : Int32) : z_Z Value.int W σ 77 145 [some (.ref 0), some (.int a), some (.int b)] [some (.ref 56), some (.int a), some (.int b)] := by
  obtain ⟨hR, hM, hn⟩ := hJ
  have hk := hM.wk
  by_cases q : z_B W.nd a ∧ z_B 2 b
  · obtain ⟨⟨k, hk2, rfl⟩, w, hw, rfl⟩ := q
    rcases (show w = 0 ∨ w = 1 by omega) with rfl | rfl
    · exact z_Zq hn _ (fun xs L d => pi_X_nets0 (d := d + 2) hR hk2) (fun xs L d τ hm => pi_P_nets0 (d := d + 2) hm hk2)
    · exact z_Zq hn _ (fun xs L d => pi_X_nets1 (d := d + 2) hR hk2) (fun xs L d τ hm => pi_P_nets1 (d := d + 2) hm hk2)
  · exact z_Zq hn _ (fun xs L d => pi_X_nets_bad (d := d + 2) hR q) (fun xs L d τ hm => pi_P_nets_bad (d := d + 2) hm q)
theorem pi_J_cut {W : zW} {σ : pi_S} (hJ : z_J W σ) (a b c : Int32) : z_Z Value.int W σ 78 147 [some (.ref 0), some (.int a), some (.int b), some (.int c), none] [some (.ref 56), some (.int a), some (.int b), some (.int c)] := by
  obtain ⟨hR, hM, hn⟩ := hJ
  have hk := hM.wk
  by_cases q : z_B W.nd a ∧ z_B W.nd b ∧ ¬ a = b ∧ z_B 2 c
  · obtain ⟨⟨x, hx, rfl⟩, ⟨y, hy, rfl⟩, hxy, w, hw, rfl⟩ := q
    have hxy2 : ¬ x = y := fun z => hxy (congrArg nI z)
    rcases (show w = 0 ∨ w = 1 by omega) with rfl | rfl
    · exact z_Zq hn _ (fun xs L d => pi_X_cut0 (d := d + 2) hR hx hy hxy2) (fun xs L d τ hm => pi_P_cut0 (d := d + 2) hm hx hy hxy2)
    · exact z_Zq hn _ (fun xs L d => pi_X_cut1 (d := d + 2) hR hx hy hxy2) (fun xs L d τ hm => pi_P_cut1 (d := d + 2) hm hx hy hxy2)
  · exact z_Zq hn _ (fun xs L d => pi_X_cut_bad (d := d + 2) hR q) (fun xs L d τ hm => pi_P_cut_bad (d := d + 2) hm q)
theorem pi_J_bribe {W : zW} {σ : pi_S} (hJ : z_J W σ) (a b : Int32) : z_Z Value.int W σ 79 149 [some (.ref 0), some (.int a), some (.int b), none, none, none, none] [some (.ref 56), some (.int a), some (.int b)] := by
  obtain ⟨hR, hM, hn⟩ := hJ
  have hk := hM.wk
  by_cases q : z_B W.ns a ∧ z_B 3 b
  · obtain ⟨⟨k, hk2, rfl⟩, w, hw, rfl⟩ := q
    rcases (show w = 0 ∨ w = 1 ∨ w = 2 by omega) with rfl | rfl | rfl
    · exact z_Zq hn _ (fun xs L d => pi_X_bribe0 (d := d + 2) hR hk2) (fun xs L d τ hm => pi_P_bribe0 (d := d + 2) hm hk2)
    · exact z_Zq hn _ (fun xs L d => pi_X_bribe1 (d := d + 2) hR hk2) (fun xs L d τ hm => pi_P_bribe1 (d := d + 2) hm hk2)
    · exact z_Zq hn _ (fun xs L d => pi_X_bribe2 (d := d + 2) hR hk2) (fun xs L d τ hm => pi_P_bribe2 (d := d + 2) hm hk2)
  · exact z_Zq hn _ (fun xs L d => pi_X_bribe_bad (d := d + 2) hR q) (fun xs L d τ hm => pi_P_bribe_bad (d := d + 2) hm q)
theorem pi_J_rests {W : zW} {σ : pi_S} (hJ : z_J W σ) : z_Z Value.int W σ 80 151 [some (.ref 0), none, none] [some (.ref 56)] := by
  obtain ⟨hR, hM, hn⟩ := hJ
  have hk := hM.wk
  exact z_Zq hn _ (fun xs L d => pi_X_rests (d := d + 1) hR ) (fun xs L d τ hm => pi_P_rests (d := d + 2) hm )
theorem pi_J_odds {W : zW} {σ : pi_S} (hJ : z_J W σ) (a b : Int32) : z_Z Value.long W σ 81 154 [some (.ref 0), some (.int a), some (.int b), none, none] [some (.ref 56), some (.int a), some (.int b)] := by
  obtain ⟨hR, hM, hn⟩ := hJ
  have hk := hM.wk
  by_cases q : z_B 17 a ∧ z_B 2 b
  · obtain ⟨⟨x, hx, rfl⟩, w, hw, rfl⟩ := q
    obtain ⟨t, ht, hmean⟩ := z_mean_nn hk (-1) (x := x) (by omega)
    rcases (show w = 0 ∨ w = 1 by omega) with rfl | rfl
    · exact z_Zq hn _ (fun xs L d => pi_X_odds0 (d := d + 2) hR hx hmean ht) (fun xs L d τ hm => pi_P_odds0 (d := d + 2) hm hx hmean ht)
    · exact z_Zq hn _ (fun xs L d => pi_X_odds1 (d := d + 2) hR hx hmean ht) (fun xs L d τ hm => pi_P_odds1 (d := d + 2) hm hx hmean ht)
  · exact z_Zq hn _ (fun xs L d => pi_X_odds_bad (d := d + 2) hR q) (fun xs L d τ hm => by rw [← z_bad_l]; exact pi_P_odds_bad (d := d + 2) hm q)
theorem pi_J_waits {W : zW} {σ : pi_S} (hJ : z_J W σ) (a : Int32) : z_Z Value.int W σ 82 155 [some (.ref 0), some (.int a), none] [some (.ref 56), some (.int a)] := by
  obtain ⟨hR, hM, hn⟩ := hJ
  have hk := hM.wk
  by_cases q : z_B 17 a
  · obtain ⟨x, hx, rfl⟩ := q
    by_cases w : W.nw = 0
    · exact z_Zq hn _ (fun xs L d => pi_X_waits0 (d := d + 2) hR hx w) (fun xs L d τ hm => pi_P_waits0 (d := d + 2) hm hx w)
    · exact z_Zq hn _ (fun xs L d => pi_X_waits1 (d := d + 2) hR hx w) (fun xs L d τ hm => pi_P_waits1 (d := d + 2) hm hx w)
  · exact z_Zq hn _ (fun xs L d => pi_X_waits_bad (d := d + 2) hR q) (fun xs L d τ hm => pi_P_waits_bad (d := d + 2) hm q)
theorem pi_J_who {W : zW} {σ : pi_S} (hJ : z_J W σ) (a b c : Int32) : z_Z Value.int W σ 83 157 [some (.ref 0), some (.int a), some (.int b), some (.int c), none, none, none] [some (.ref 56), some (.int a), some (.int b), some (.int c)] := by
  obtain ⟨hR, hM, hn⟩ := hJ
  have hk := hM.wk
  by_cases q : z_B (W.nine + 1) a ∧ z_B 5 b ∧ z_B W.nd c
  · obtain ⟨⟨x, hx, rfl⟩, ⟨y, hy, rfl⟩, z, hz, rfl⟩ := q
    exact z_Zq hn _ (fun xs L d => pi_X_who (d := d + 2) hR hx hy hz) (fun xs L d τ hm => pi_P_who (d := d + 2) hm hn hx hy hz)
  · exact z_Zq hn _ (fun xs L d => pi_X_who_bad (d := d + 2) hR q) (fun xs L d τ hm => pi_P_who_bad (d := d + 2) hm q)
theorem pi_J_origin {W : zW} {σ : pi_S} (hJ : z_J W σ) (a b : Int32) : z_Z Value.int W σ 84 159 [some (.ref 0), some (.int a), some (.int b)] [some (.ref 56), some (.int a), some (.int b)] := by
  obtain ⟨hR, hM, hn⟩ := hJ
  have hk := hM.wk
  by_cases q : z_B W.nd a ∧ z_B 5 b
  · obtain ⟨⟨x, hx, rfl⟩, y, hy, rfl⟩ := q
    exact z_Zq hn _ (fun xs L d => pi_X_origin (d := d + 2) hR hx hy) (fun xs L d τ hm => pi_P_origin (d := d + 2) hm hx hy)
  · exact z_Zq hn _ (fun xs L d => pi_X_origin_bad (d := d + 2) hR q) (fun xs L d τ hm => pi_P_origin_bad (d := d + 2) hm q)
theorem pi_J_best {W : zW} {σ : pi_S} (hJ : z_J W σ) : z_Z Value.int W σ 85 161 [some (.ref 0), none, none, none, none] [some (.ref 56)] := by
  obtain ⟨hR, hM, hn⟩ := hJ
  have hk := hM.wk
  exact z_Zq hn _ (fun xs L d => pi_X_best (d := d + 2) hR ) (fun xs L d τ hm => pi_P_best (d := d + 2) hm )
theorem pi_J_sheet {W : zW} {σ : pi_S} (hJ : z_J W σ) (a b c : Int32) : z_Z Value.int W σ 86 164 [some (.ref 0), some (.int a), some (.int b), some (.int c)] [some (.ref 56), some (.int a), some (.int b), some (.int c), none] := by
  obtain ⟨hR, hM, hn⟩ := hJ
  have hk := hM.wk
  by_cases q : z_B 4 a ∧ z_B 3 b ∧ c ≤ nI 48
  · obtain ⟨⟨k, hk4, rfl⟩, ⟨f, hf, rfl⟩, h48⟩ := q
    by_cases w : c < 0
    · refine z_Zc _ ?_ _ (fun xs L d => pi_X_sheet_neg (d := d + 2) hR hk4 hf h48 w) (fun xs L d τ hm => pi_P_sheet_neg (d := d + 2) hm hk4 hf h48 w)
      exact (hn)
    · obtain ⟨n, hn48, rfl⟩ := z_i48 h48 w
      rcases (show k = 0 ∨ k = 1 ∨ k = 2 ∨ k = 3 by omega) with rfl | rfl | rfl | rfl
      · refine z_Zc _ ?_ _ (fun xs L d => pi_X_sheet0 (d := d + 2) hR hf hn48) (fun xs L d τ hm => pi_P_sheet (d := d + 2) hm (k := 0) hk4 hf hn48)
        exact (hn)
      · refine z_Zc _ ?_ _ (fun xs L d => pi_X_sheet1 (d := d + 2) hR hf hn48) (fun xs L d τ hm => pi_P_sheet (d := d + 2) hm (k := 1) hk4 hf hn48)
        exact (hn)
      · refine z_Zc _ ?_ _ (fun xs L d => pi_X_sheet2 (d := d + 2) hR hf hn48) (fun xs L d τ hm => pi_P_sheet (d := d + 2) hm (k := 2) hk4 hf hn48)
        exact (hn)
      · refine z_Zc _ ?_ _ (fun xs L d => pi_X_sheet3 (d := d + 2) hR hf hn48) (fun xs L d τ hm => pi_P_sheet (d := d + 2) hm (k := 3) hk4 hf hn48)
        exact (hn)
  · exact z_Zq hn _ (fun xs L d => pi_X_sheet_bad (d := d + 2) hR q) (fun xs L d τ hm => pi_P_sheet_bad (d := d + 2) hm q)
theorem pi_J_lose {W : zW} {σ : pi_S} (hJ : z_J W σ) (a : Int32) : z_Z Value.int W σ 87 165 [some (.ref 0), some (.int a), none, none] [some (.ref 56), some (.int a)] := by
  obtain ⟨hR, hM, hn⟩ := hJ
  have hk := hM.wk
  by_cases q : z_B 4 a
  · obtain ⟨k, hk4, rfl⟩ := q
    rcases (show k = 0 ∨ k = 1 ∨ k = 2 ∨ k = 3 by omega) with rfl | rfl | rfl | rfl
    · by_cases w : W.th 0 = 0
      · refine z_Zc _ ?_ _ (fun xs L d => pi_X_lose0_null (d := d + 2) hR w) (fun xs L d τ hm => pi_P_lose_null (d := d + 2) hm (k := 0) hk4 w)
        exact (hn)
      · refine z_Zc _ ?_ _ (fun xs L d => pi_X_lose0 (d := d + 2) hR w) (fun xs L d τ hm => pi_P_lose (d := d + 2) hm (k := 0) hk4 w)
        exact (hn)
    · by_cases w : W.th 1 = 0
      · refine z_Zc _ ?_ _ (fun xs L d => pi_X_lose1_null (d := d + 2) hR w) (fun xs L d τ hm => pi_P_lose_null (d := d + 2) hm (k := 1) hk4 w)
        exact (hn)
      · refine z_Zc _ ?_ _ (fun xs L d => pi_X_lose1 (d := d + 2) hR w) (fun xs L d τ hm => pi_P_lose (d := d + 2) hm (k := 1) hk4 w)
        exact (hn)
    · by_cases w : W.th 2 = 0
      · refine z_Zc _ ?_ _ (fun xs L d => pi_X_lose2_null (d := d + 2) hR w) (fun xs L d τ hm => pi_P_lose_null (d := d + 2) hm (k := 2) hk4 w)
        exact (hn)
      · refine z_Zc _ ?_ _ (fun xs L d => pi_X_lose2 (d := d + 2) hR w) (fun xs L d τ hm => pi_P_lose (d := d + 2) hm (k := 2) hk4 w)
        exact (hn)
    · by_cases w : W.th 3 = 0
      · refine z_Zc _ ?_ _ (fun xs L d => pi_X_lose3_null (d := d + 2) hR w) (fun xs L d τ hm => pi_P_lose_null (d := d + 2) hm (k := 3) hk4 w)
        exact (hn)
      · refine z_Zc _ ?_ _ (fun xs L d => pi_X_lose3 (d := d + 2) hR w) (fun xs L d τ hm => pi_P_lose (d := d + 2) hm (k := 3) hk4 w)
        exact (hn)
  · exact z_Zq hn _ (fun xs L d => pi_X_lose_bad (d := d + 2) hR q) (fun xs L d τ hm => pi_P_lose_bad (d := d + 2) hm q)
theorem pi_J_put {W : zW} {σ : pi_S} (hJ : z_J W σ) (a b c e : Int32) : z_Z Value.int W σ 88 168 [some (.ref 0), some (.int a), some (.int b), some (.int c), some (.int e), none] [some (.ref 56), some (.int a), some (.int b), some (.int c), some (.int e), none] := by
  obtain ⟨hR, hM, hn⟩ := hJ
  have hk := hM.wk
  by_cases q : z_B 4 a ∧ z_B 3 b
  · obtain ⟨⟨k, hk4, rfl⟩, f, hf, rfl⟩ := q
    rcases (show k = 0 ∨ k = 1 ∨ k = 2 ∨ k = 3 by omega) with rfl | rfl | rfl | rfl
    · by_cases w : W.th 0 = 0
      · refine z_Zc _ ?_ _ (fun xs L d => pi_X_put0_1 (d := d + 2) hR hf w) (fun xs L d τ hm => pi_P_put1 (d := d + 2) hm (k := 0) hk4 hf w)
        exact (hn)
      · by_cases w3 : W.fo 0 = f
        · by_cases w2 : z_B (W.si 0) c
          · obtain ⟨i, hi, rfl⟩ := w2
            refine z_Zc _ ?_ _ (fun xs L d => pi_X_put0 (d := d + 2) hR hf w w3 hi) (fun xs L d τ hm => pi_P_put (d := d + 2) hm (k := 0) hk4 hf w w3 hi)
            exact (hn)
          · refine z_Zc _ ?_ _ (fun xs L d => pi_X_put0_2 (d := d + 2) hR hf w w3 w2) (fun xs L d τ hm => pi_P_put2 (d := d + 2) hm (k := 0) hk4 hf w w3 w2)
            exact (hn)
        · refine z_Zc _ ?_ _ (fun xs L d => pi_X_put0_3 (d := d + 2) hR hf w w3) (fun xs L d τ hm => pi_P_put3 (d := d + 2) hm (k := 0) hk4 hf w w3)
          exact (hn)
    · by_cases w : W.th 1 = 0
      · refine z_Zc _ ?_ _ (fun xs L d => pi_X_put1_1 (d := d + 2) hR hf w) (fun xs L d τ hm => pi_P_put1 (d := d + 2) hm (k := 1) hk4 hf w)
        exact (hn)
      · by_cases w3 : W.fo 1 = f
        · by_cases w2 : z_B (W.si 1) c
          · obtain ⟨i, hi, rfl⟩ := w2
            refine z_Zc _ ?_ _ (fun xs L d => pi_X_put1 (d := d + 2) hR hf w w3 hi) (fun xs L d τ hm => pi_P_put (d := d + 2) hm (k := 1) hk4 hf w w3 hi)
            exact (hn)
          · refine z_Zc _ ?_ _ (fun xs L d => pi_X_put1_2 (d := d + 2) hR hf w w3 w2) (fun xs L d τ hm => pi_P_put2 (d := d + 2) hm (k := 1) hk4 hf w w3 w2)
            exact (hn)
        · refine z_Zc _ ?_ _ (fun xs L d => pi_X_put1_3 (d := d + 2) hR hf w w3) (fun xs L d τ hm => pi_P_put3 (d := d + 2) hm (k := 1) hk4 hf w w3)
          exact (hn)
    · by_cases w : W.th 2 = 0
      · refine z_Zc _ ?_ _ (fun xs L d => pi_X_put2_1 (d := d + 2) hR hf w) (fun xs L d τ hm => pi_P_put1 (d := d + 2) hm (k := 2) hk4 hf w)
        exact (hn)
      · by_cases w3 : W.fo 2 = f
        · by_cases w2 : z_B (W.si 2) c
          · obtain ⟨i, hi, rfl⟩ := w2
            refine z_Zc _ ?_ _ (fun xs L d => pi_X_put2 (d := d + 2) hR hf w w3 hi) (fun xs L d τ hm => pi_P_put (d := d + 2) hm (k := 2) hk4 hf w w3 hi)
            exact (hn)
          · refine z_Zc _ ?_ _ (fun xs L d => pi_X_put2_2 (d := d + 2) hR hf w w3 w2) (fun xs L d τ hm => pi_P_put2 (d := d + 2) hm (k := 2) hk4 hf w w3 w2)
            exact (hn)
        · refine z_Zc _ ?_ _ (fun xs L d => pi_X_put2_3 (d := d + 2) hR hf w w3) (fun xs L d τ hm => pi_P_put3 (d := d + 2) hm (k := 2) hk4 hf w w3)
          exact (hn)
    · by_cases w : W.th 3 = 0
      · refine z_Zc _ ?_ _ (fun xs L d => pi_X_put3_1 (d := d + 2) hR hf w) (fun xs L d τ hm => pi_P_put1 (d := d + 2) hm (k := 3) hk4 hf w)
        exact (hn)
      · by_cases w3 : W.fo 3 = f
        · by_cases w2 : z_B (W.si 3) c
          · obtain ⟨i, hi, rfl⟩ := w2
            refine z_Zc _ ?_ _ (fun xs L d => pi_X_put3 (d := d + 2) hR hf w w3 hi) (fun xs L d τ hm => pi_P_put (d := d + 2) hm (k := 3) hk4 hf w w3 hi)
            exact (hn)
          · refine z_Zc _ ?_ _ (fun xs L d => pi_X_put3_2 (d := d + 2) hR hf w w3 w2) (fun xs L d τ hm => pi_P_put2 (d := d + 2) hm (k := 3) hk4 hf w w3 w2)
            exact (hn)
        · refine z_Zc _ ?_ _ (fun xs L d => pi_X_put3_3 (d := d + 2) hR hf w w3) (fun xs L d τ hm => pi_P_put3 (d := d + 2) hm (k := 3) hk4 hf w w3)
          exact (hn)
  · exact z_Zq hn _ (fun xs L d => pi_X_put_bad (d := d + 2) hR q) (fun xs L d τ hm => pi_P_put_bad (d := d + 2) hm q)
theorem pi_J_get {W : zW} {σ : pi_S} (hJ : z_J W σ) (a b c : Int32) : z_Z Value.int W σ 89 169 [some (.ref 0), some (.int a), some (.int b), some (.int c), none] [some (.ref 56), some (.int a), some (.int b), some (.int c), none] := by
  obtain ⟨hR, hM, hn⟩ := hJ
  have hk := hM.wk
  by_cases q : z_B 4 a ∧ z_B 3 b
  · obtain ⟨⟨k, hk4, rfl⟩, f, hf, rfl⟩ := q
    rcases (show k = 0 ∨ k = 1 ∨ k = 2 ∨ k = 3 by omega) with rfl | rfl | rfl | rfl
    · by_cases w : W.th 0 = 0
      · refine z_Zc _ ?_ _ (fun xs L d => pi_X_get0_1 (d := d + 2) hR hf w) (fun xs L d τ hm => pi_P_get1 (d := d + 2) hm (k := 0) hk4 hf w)
        exact (hn)
      · by_cases w3 : W.fo 0 = f
        · by_cases w2 : z_B (W.si 0) c
          · obtain ⟨i, hi, rfl⟩ := w2
            exact z_Zq hn _ (fun xs L d => pi_X_get0 (d := d + 2) hR hf w w3 hi) (fun xs L d τ hm => pi_P_get (d := d + 2) hm (k := 0) hk4 hf w w3 hi)
          · refine z_Zc _ ?_ _ (fun xs L d => pi_X_get0_2 (d := d + 2) hR hf w w3 w2) (fun xs L d τ hm => pi_P_get2 (d := d + 2) hm (k := 0) hk4 hf w w3 w2)
            exact (hn)
        · refine z_Zc _ ?_ _ (fun xs L d => pi_X_get0_3 (d := d + 2) hR hf w w3) (fun xs L d τ hm => pi_P_get3 (d := d + 2) hm (k := 0) hk4 hf w w3)
          exact (hn)
    · by_cases w : W.th 1 = 0
      · refine z_Zc _ ?_ _ (fun xs L d => pi_X_get1_1 (d := d + 2) hR hf w) (fun xs L d τ hm => pi_P_get1 (d := d + 2) hm (k := 1) hk4 hf w)
        exact (hn)
      · by_cases w3 : W.fo 1 = f
        · by_cases w2 : z_B (W.si 1) c
          · obtain ⟨i, hi, rfl⟩ := w2
            exact z_Zq hn _ (fun xs L d => pi_X_get1 (d := d + 2) hR hf w w3 hi) (fun xs L d τ hm => pi_P_get (d := d + 2) hm (k := 1) hk4 hf w w3 hi)
          · refine z_Zc _ ?_ _ (fun xs L d => pi_X_get1_2 (d := d + 2) hR hf w w3 w2) (fun xs L d τ hm => pi_P_get2 (d := d + 2) hm (k := 1) hk4 hf w w3 w2)
            exact (hn)
        · refine z_Zc _ ?_ _ (fun xs L d => pi_X_get1_3 (d := d + 2) hR hf w w3) (fun xs L d τ hm => pi_P_get3 (d := d + 2) hm (k := 1) hk4 hf w w3)
          exact (hn)
    · by_cases w : W.th 2 = 0
      · refine z_Zc _ ?_ _ (fun xs L d => pi_X_get2_1 (d := d + 2) hR hf w) (fun xs L d τ hm => pi_P_get1 (d := d + 2) hm (k := 2) hk4 hf w)
        exact (hn)
      · by_cases w3 : W.fo 2 = f
        · by_cases w2 : z_B (W.si 2) c
          · obtain ⟨i, hi, rfl⟩ := w2
            exact z_Zq hn _ (fun xs L d => pi_X_get2 (d := d + 2) hR hf w w3 hi) (fun xs L d τ hm => pi_P_get (d := d + 2) hm (k := 2) hk4 hf w w3 hi)
          · refine z_Zc _ ?_ _ (fun xs L d => pi_X_get2_2 (d := d + 2) hR hf w w3 w2) (fun xs L d τ hm => pi_P_get2 (d := d + 2) hm (k := 2) hk4 hf w w3 w2)
            exact (hn)
        · refine z_Zc _ ?_ _ (fun xs L d => pi_X_get2_3 (d := d + 2) hR hf w w3) (fun xs L d τ hm => pi_P_get3 (d := d + 2) hm (k := 2) hk4 hf w w3)
          exact (hn)
    · by_cases w : W.th 3 = 0
      · refine z_Zc _ ?_ _ (fun xs L d => pi_X_get3_1 (d := d + 2) hR hf w) (fun xs L d τ hm => pi_P_get1 (d := d + 2) hm (k := 3) hk4 hf w)
        exact (hn)
      · by_cases w3 : W.fo 3 = f
        · by_cases w2 : z_B (W.si 3) c
          · obtain ⟨i, hi, rfl⟩ := w2
            exact z_Zq hn _ (fun xs L d => pi_X_get3 (d := d + 2) hR hf w w3 hi) (fun xs L d τ hm => pi_P_get (d := d + 2) hm (k := 3) hk4 hf w w3 hi)
          · refine z_Zc _ ?_ _ (fun xs L d => pi_X_get3_2 (d := d + 2) hR hf w w3 w2) (fun xs L d τ hm => pi_P_get2 (d := d + 2) hm (k := 3) hk4 hf w w3 w2)
            exact (hn)
        · refine z_Zc _ ?_ _ (fun xs L d => pi_X_get3_3 (d := d + 2) hR hf w w3) (fun xs L d τ hm => pi_P_get3 (d := d + 2) hm (k := 3) hk4 hf w w3)
          exact (hn)
  · exact z_Zq hn _ (fun xs L d => pi_X_get_bad (d := d + 2) hR q) (fun xs L d τ hm => pi_P_get_bad (d := d + 2) hm q)
theorem pi_J_copy {W : zW} {σ : pi_S} (hJ : z_J W σ) (a b c e f : Int32) : z_Z Value.int W σ 90 170 [some (.ref 0), some (.int a), some (.int b), some (.int c), some (.int e), some (.int f), none, none] [some (.ref 56), some (.int a), some (.int b), some (.int c), some (.int e), some (.int f), none] := by
  obtain ⟨hR, hM, hn⟩ := hJ
  have hk := hM.wk
  by_cases q : z_B 4 a ∧ z_B 4 c
  · obtain ⟨⟨k, hk4, rfl⟩, k2, hk24, rfl⟩ := q
    rcases (show k = 0 ∨ k = 1 ∨ k = 2 ∨ k = 3 by omega) with rfl | rfl | rfl | rfl
    · rcases (show k2 = 0 ∨ k2 = 1 ∨ k2 = 2 ∨ k2 = 3 by omega) with rfl | rfl | rfl | rfl
      · by_cases w : W.th 0 = 0
        · refine z_Zc _ ?_ _ (fun xs L d => pi_X_copy00_null1 (d := d + 2) hR w) (fun xs L d τ hm => pi_P_copy_null1 (d := d + 2) hm (ks := 0) (kt := 0) hk4 hk24 w)
          exact (hn)
        · by_cases w2 : W.th 0 = 0
          · exact absurd w2 w
          · by_cases w4 : W.fo 0 = W.fo 0
            · by_cases wb : z_cp W 0 0 b e f
              · obtain ⟨i, j, n, rfl, rfl, rfl, hi, hj⟩ := wb
                refine z_Zc _ ?_ _ (fun xs L d => pi_X_copy00 (d := d + 2) hR w w2 w4 hi hj) (fun xs L d τ hm => pi_P_copy (d := d + 2) hm (ks := 0) (kt := 0) hk4 hk24 w w2 w4 hi hj)
                exact (hn)
              · refine z_Zc _ ?_ _ (fun xs L d => pi_X_copy00_index (d := d + 2) hR w w2 w4 wb) (fun xs L d τ hm => pi_P_copy_index (d := d + 2) hm (ks := 0) (kt := 0) hk4 hk24 w w2 w4 wb)
                exact (hn)
            · exact absurd rfl w4
      · by_cases w : W.th 0 = 0
        · refine z_Zc _ ?_ _ (fun xs L d => pi_X_copy01_null1 (d := d + 2) hR w) (fun xs L d τ hm => pi_P_copy_null1 (d := d + 2) hm (ks := 0) (kt := 1) hk4 hk24 w)
          exact (hn)
        · by_cases w2 : W.th 1 = 0
          · refine z_Zc _ ?_ _ (fun xs L d => pi_X_copy01_null2 (d := d + 2) hR w w2) (fun xs L d τ hm => pi_P_copy_null2 (d := d + 2) hm (ks := 0) (kt := 1) hk4 hk24 w w2)
            exact (hn)
          · by_cases w4 : W.fo 0 = W.fo 1
            · by_cases wb : z_cp W 0 1 b e f
              · obtain ⟨i, j, n, rfl, rfl, rfl, hi, hj⟩ := wb
                refine z_Zc _ ?_ _ (fun xs L d => pi_X_copy01 (d := d + 2) hR w w2 w4 hi hj) (fun xs L d τ hm => pi_P_copy (d := d + 2) hm (ks := 0) (kt := 1) hk4 hk24 w w2 w4 hi hj)
                exact (hn)
              · refine z_Zc _ ?_ _ (fun xs L d => pi_X_copy01_index (d := d + 2) hR w w2 w4 wb) (fun xs L d τ hm => pi_P_copy_index (d := d + 2) hm (ks := 0) (kt := 1) hk4 hk24 w w2 w4 wb)
                exact (hn)
            · refine z_Zc _ ?_ _ (fun xs L d => pi_X_copy01_store (d := d + 2) hR w w2 w4) (fun xs L d τ hm => pi_P_copy_store (d := d + 2) hm (ks := 0) (kt := 1) hk4 hk24 w w2 w4)
              exact (hn)
      · by_cases w : W.th 0 = 0
        · refine z_Zc _ ?_ _ (fun xs L d => pi_X_copy02_null1 (d := d + 2) hR w) (fun xs L d τ hm => pi_P_copy_null1 (d := d + 2) hm (ks := 0) (kt := 2) hk4 hk24 w)
          exact (hn)
        · by_cases w2 : W.th 2 = 0
          · refine z_Zc _ ?_ _ (fun xs L d => pi_X_copy02_null2 (d := d + 2) hR w w2) (fun xs L d τ hm => pi_P_copy_null2 (d := d + 2) hm (ks := 0) (kt := 2) hk4 hk24 w w2)
            exact (hn)
          · by_cases w4 : W.fo 0 = W.fo 2
            · by_cases wb : z_cp W 0 2 b e f
              · obtain ⟨i, j, n, rfl, rfl, rfl, hi, hj⟩ := wb
                refine z_Zc _ ?_ _ (fun xs L d => pi_X_copy02 (d := d + 2) hR w w2 w4 hi hj) (fun xs L d τ hm => pi_P_copy (d := d + 2) hm (ks := 0) (kt := 2) hk4 hk24 w w2 w4 hi hj)
                exact (hn)
              · refine z_Zc _ ?_ _ (fun xs L d => pi_X_copy02_index (d := d + 2) hR w w2 w4 wb) (fun xs L d τ hm => pi_P_copy_index (d := d + 2) hm (ks := 0) (kt := 2) hk4 hk24 w w2 w4 wb)
                exact (hn)
            · refine z_Zc _ ?_ _ (fun xs L d => pi_X_copy02_store (d := d + 2) hR w w2 w4) (fun xs L d τ hm => pi_P_copy_store (d := d + 2) hm (ks := 0) (kt := 2) hk4 hk24 w w2 w4)
              exact (hn)
      · by_cases w : W.th 0 = 0
        · refine z_Zc _ ?_ _ (fun xs L d => pi_X_copy03_null1 (d := d + 2) hR w) (fun xs L d τ hm => pi_P_copy_null1 (d := d + 2) hm (ks := 0) (kt := 3) hk4 hk24 w)
          exact (hn)
        · by_cases w2 : W.th 3 = 0
          · refine z_Zc _ ?_ _ (fun xs L d => pi_X_copy03_null2 (d := d + 2) hR w w2) (fun xs L d τ hm => pi_P_copy_null2 (d := d + 2) hm (ks := 0) (kt := 3) hk4 hk24 w w2)
            exact (hn)
          · by_cases w4 : W.fo 0 = W.fo 3
            · by_cases wb : z_cp W 0 3 b e f
              · obtain ⟨i, j, n, rfl, rfl, rfl, hi, hj⟩ := wb
                refine z_Zc _ ?_ _ (fun xs L d => pi_X_copy03 (d := d + 2) hR w w2 w4 hi hj) (fun xs L d τ hm => pi_P_copy (d := d + 2) hm (ks := 0) (kt := 3) hk4 hk24 w w2 w4 hi hj)
                exact (hn)
              · refine z_Zc _ ?_ _ (fun xs L d => pi_X_copy03_index (d := d + 2) hR w w2 w4 wb) (fun xs L d τ hm => pi_P_copy_index (d := d + 2) hm (ks := 0) (kt := 3) hk4 hk24 w w2 w4 wb)
                exact (hn)
            · refine z_Zc _ ?_ _ (fun xs L d => pi_X_copy03_store (d := d + 2) hR w w2 w4) (fun xs L d τ hm => pi_P_copy_store (d := d + 2) hm (ks := 0) (kt := 3) hk4 hk24 w w2 w4)
              exact (hn)
    · rcases (show k2 = 0 ∨ k2 = 1 ∨ k2 = 2 ∨ k2 = 3 by omega) with rfl | rfl | rfl | rfl
      · by_cases w : W.th 1 = 0
        · refine z_Zc _ ?_ _ (fun xs L d => pi_X_copy10_null1 (d := d + 2) hR w) (fun xs L d τ hm => pi_P_copy_null1 (d := d + 2) hm (ks := 1) (kt := 0) hk4 hk24 w)
          exact (hn)
        · by_cases w2 : W.th 0 = 0
          · refine z_Zc _ ?_ _ (fun xs L d => pi_X_copy10_null2 (d := d + 2) hR w w2) (fun xs L d τ hm => pi_P_copy_null2 (d := d + 2) hm (ks := 1) (kt := 0) hk4 hk24 w w2)
            exact (hn)
          · by_cases w4 : W.fo 1 = W.fo 0
            · by_cases wb : z_cp W 1 0 b e f
              · obtain ⟨i, j, n, rfl, rfl, rfl, hi, hj⟩ := wb
                refine z_Zc _ ?_ _ (fun xs L d => pi_X_copy10 (d := d + 2) hR w w2 w4 hi hj) (fun xs L d τ hm => pi_P_copy (d := d + 2) hm (ks := 1) (kt := 0) hk4 hk24 w w2 w4 hi hj)
                exact (hn)
              · refine z_Zc _ ?_ _ (fun xs L d => pi_X_copy10_index (d := d + 2) hR w w2 w4 wb) (fun xs L d τ hm => pi_P_copy_index (d := d + 2) hm (ks := 1) (kt := 0) hk4 hk24 w w2 w4 wb)
                exact (hn)
            · refine z_Zc _ ?_ _ (fun xs L d => pi_X_copy10_store (d := d + 2) hR w w2 w4) (fun xs L d τ hm => pi_P_copy_store (d := d + 2) hm (ks := 1) (kt := 0) hk4 hk24 w w2 w4)
              exact (hn)
      · by_cases w : W.th 1 = 0
        · refine z_Zc _ ?_ _ (fun xs L d => pi_X_copy11_null1 (d := d + 2) hR w) (fun xs L d τ hm => pi_P_copy_null1 (d := d + 2) hm (ks := 1) (kt := 1) hk4 hk24 w)
          exact (hn)
        · by_cases w2 : W.th 1 = 0
          · exact absurd w2 w
          · by_cases w4 : W.fo 1 = W.fo 1
            · by_cases wb : z_cp W 1 1 b e f
              · obtain ⟨i, j, n, rfl, rfl, rfl, hi, hj⟩ := wb
                refine z_Zc _ ?_ _ (fun xs L d => pi_X_copy11 (d := d + 2) hR w w2 w4 hi hj) (fun xs L d τ hm => pi_P_copy (d := d + 2) hm (ks := 1) (kt := 1) hk4 hk24 w w2 w4 hi hj)
                exact (hn)
              · refine z_Zc _ ?_ _ (fun xs L d => pi_X_copy11_index (d := d + 2) hR w w2 w4 wb) (fun xs L d τ hm => pi_P_copy_index (d := d + 2) hm (ks := 1) (kt := 1) hk4 hk24 w w2 w4 wb)
                exact (hn)
            · exact absurd rfl w4
      · by_cases w : W.th 1 = 0
        · refine z_Zc _ ?_ _ (fun xs L d => pi_X_copy12_null1 (d := d + 2) hR w) (fun xs L d τ hm => pi_P_copy_null1 (d := d + 2) hm (ks := 1) (kt := 2) hk4 hk24 w)
          exact (hn)
        · by_cases w2 : W.th 2 = 0
          · refine z_Zc _ ?_ _ (fun xs L d => pi_X_copy12_null2 (d := d + 2) hR w w2) (fun xs L d τ hm => pi_P_copy_null2 (d := d + 2) hm (ks := 1) (kt := 2) hk4 hk24 w w2)
            exact (hn)
          · by_cases w4 : W.fo 1 = W.fo 2
            · by_cases wb : z_cp W 1 2 b e f
              · obtain ⟨i, j, n, rfl, rfl, rfl, hi, hj⟩ := wb
                refine z_Zc _ ?_ _ (fun xs L d => pi_X_copy12 (d := d + 2) hR w w2 w4 hi hj) (fun xs L d τ hm => pi_P_copy (d := d + 2) hm (ks := 1) (kt := 2) hk4 hk24 w w2 w4 hi hj)
                exact (hn)
              · refine z_Zc _ ?_ _ (fun xs L d => pi_X_copy12_index (d := d + 2) hR w w2 w4 wb) (fun xs L d τ hm => pi_P_copy_index (d := d + 2) hm (ks := 1) (kt := 2) hk4 hk24 w w2 w4 wb)
                exact (hn)
            · refine z_Zc _ ?_ _ (fun xs L d => pi_X_copy12_store (d := d + 2) hR w w2 w4) (fun xs L d τ hm => pi_P_copy_store (d := d + 2) hm (ks := 1) (kt := 2) hk4 hk24 w w2 w4)
              exact (hn)
      · by_cases w : W.th 1 = 0
        · refine z_Zc _ ?_ _ (fun xs L d => pi_X_copy13_null1 (d := d + 2) hR w) (fun xs L d τ hm => pi_P_copy_null1 (d := d + 2) hm (ks := 1) (kt := 3) hk4 hk24 w)
          exact (hn)
        · by_cases w2 : W.th 3 = 0
          · refine z_Zc _ ?_ _ (fun xs L d => pi_X_copy13_null2 (d := d + 2) hR w w2) (fun xs L d τ hm => pi_P_copy_null2 (d := d + 2) hm (ks := 1) (kt := 3) hk4 hk24 w w2)
            exact (hn)
          · by_cases w4 : W.fo 1 = W.fo 3
            · by_cases wb : z_cp W 1 3 b e f
              · obtain ⟨i, j, n, rfl, rfl, rfl, hi, hj⟩ := wb
                refine z_Zc _ ?_ _ (fun xs L d => pi_X_copy13 (d := d + 2) hR w w2 w4 hi hj) (fun xs L d τ hm => pi_P_copy (d := d + 2) hm (ks := 1) (kt := 3) hk4 hk24 w w2 w4 hi hj)
                exact (hn)
              · refine z_Zc _ ?_ _ (fun xs L d => pi_X_copy13_index (d := d + 2) hR w w2 w4 wb) (fun xs L d τ hm => pi_P_copy_index (d := d + 2) hm (ks := 1) (kt := 3) hk4 hk24 w w2 w4 wb)
                exact (hn)
            · refine z_Zc _ ?_ _ (fun xs L d => pi_X_copy13_store (d := d + 2) hR w w2 w4) (fun xs L d τ hm => pi_P_copy_store (d := d + 2) hm (ks := 1) (kt := 3) hk4 hk24 w w2 w4)
              exact (hn)
    · rcases (show k2 = 0 ∨ k2 = 1 ∨ k2 = 2 ∨ k2 = 3 by omega) with rfl | rfl | rfl | rfl
      · by_cases w : W.th 2 = 0
        · refine z_Zc _ ?_ _ (fun xs L d => pi_X_copy20_null1 (d := d + 2) hR w) (fun xs L d τ hm => pi_P_copy_null1 (d := d + 2) hm (ks := 2) (kt := 0) hk4 hk24 w)
          exact (hn)
        · by_cases w2 : W.th 0 = 0
          · refine z_Zc _ ?_ _ (fun xs L d => pi_X_copy20_null2 (d := d + 2) hR w w2) (fun xs L d τ hm => pi_P_copy_null2 (d := d + 2) hm (ks := 2) (kt := 0) hk4 hk24 w w2)
            exact (hn)
          · by_cases w4 : W.fo 2 = W.fo 0
            · by_cases wb : z_cp W 2 0 b e f
              · obtain ⟨i, j, n, rfl, rfl, rfl, hi, hj⟩ := wb
                refine z_Zc _ ?_ _ (fun xs L d => pi_X_copy20 (d := d + 2) hR w w2 w4 hi hj) (fun xs L d τ hm => pi_P_copy (d := d + 2) hm (ks := 2) (kt := 0) hk4 hk24 w w2 w4 hi hj)
                exact (hn)
              · refine z_Zc _ ?_ _ (fun xs L d => pi_X_copy20_index (d := d + 2) hR w w2 w4 wb) (fun xs L d τ hm => pi_P_copy_index (d := d + 2) hm (ks := 2) (kt := 0) hk4 hk24 w w2 w4 wb)
                exact (hn)
            · refine z_Zc _ ?_ _ (fun xs L d => pi_X_copy20_store (d := d + 2) hR w w2 w4) (fun xs L d τ hm => pi_P_copy_store (d := d + 2) hm (ks := 2) (kt := 0) hk4 hk24 w w2 w4)
              exact (hn)
      · by_cases w : W.th 2 = 0
        · refine z_Zc _ ?_ _ (fun xs L d => pi_X_copy21_null1 (d := d + 2) hR w) (fun xs L d τ hm => pi_P_copy_null1 (d := d + 2) hm (ks := 2) (kt := 1) hk4 hk24 w)
          exact (hn)
        · by_cases w2 : W.th 1 = 0
          · refine z_Zc _ ?_ _ (fun xs L d => pi_X_copy21_null2 (d := d + 2) hR w w2) (fun xs L d τ hm => pi_P_copy_null2 (d := d + 2) hm (ks := 2) (kt := 1) hk4 hk24 w w2)
            exact (hn)
          · by_cases w4 : W.fo 2 = W.fo 1
            · by_cases wb : z_cp W 2 1 b e f
              · obtain ⟨i, j, n, rfl, rfl, rfl, hi, hj⟩ := wb
                refine z_Zc _ ?_ _ (fun xs L d => pi_X_copy21 (d := d + 2) hR w w2 w4 hi hj) (fun xs L d τ hm => pi_P_copy (d := d + 2) hm (ks := 2) (kt := 1) hk4 hk24 w w2 w4 hi hj)
                exact (hn)
              · refine z_Zc _ ?_ _ (fun xs L d => pi_X_copy21_index (d := d + 2) hR w w2 w4 wb) (fun xs L d τ hm => pi_P_copy_index (d := d + 2) hm (ks := 2) (kt := 1) hk4 hk24 w w2 w4 wb)
                exact (hn)
            · refine z_Zc _ ?_ _ (fun xs L d => pi_X_copy21_store (d := d + 2) hR w w2 w4) (fun xs L d τ hm => pi_P_copy_store (d := d + 2) hm (ks := 2) (kt := 1) hk4 hk24 w w2 w4)
              exact (hn)
      · by_cases w : W.th 2 = 0
        · refine z_Zc _ ?_ _ (fun xs L d => pi_X_copy22_null1 (d := d + 2) hR w) (fun xs L d τ hm => pi_P_copy_null1 (d := d + 2) hm (ks := 2) (kt := 2) hk4 hk24 w)
          exact (hn)
        · by_cases w2 : W.th 2 = 0
          · exact absurd w2 w
          · by_cases w4 : W.fo 2 = W.fo 2
            · by_cases wb : z_cp W 2 2 b e f
              · obtain ⟨i, j, n, rfl, rfl, rfl, hi, hj⟩ := wb
                refine z_Zc _ ?_ _ (fun xs L d => pi_X_copy22 (d := d + 2) hR w w2 w4 hi hj) (fun xs L d τ hm => pi_P_copy (d := d + 2) hm (ks := 2) (kt := 2) hk4 hk24 w w2 w4 hi hj)
                exact (hn)
              · refine z_Zc _ ?_ _ (fun xs L d => pi_X_copy22_index (d := d + 2) hR w w2 w4 wb) (fun xs L d τ hm => pi_P_copy_index (d := d + 2) hm (ks := 2) (kt := 2) hk4 hk24 w w2 w4 wb)
                exact (hn)
            · exact absurd rfl w4
      · by_cases w : W.th 2 = 0
        · refine z_Zc _ ?_ _ (fun xs L d => pi_X_copy23_null1 (d := d + 2) hR w) (fun xs L d τ hm => pi_P_copy_null1 (d := d + 2) hm (ks := 2) (kt := 3) hk4 hk24 w)
          exact (hn)
        · by_cases w2 : W.th 3 = 0
          · refine z_Zc _ ?_ _ (fun xs L d => pi_X_copy23_null2 (d := d + 2) hR w w2) (fun xs L d τ hm => pi_P_copy_null2 (d := d + 2) hm (ks := 2) (kt := 3) hk4 hk24 w w2)
            exact (hn)
          · by_cases w4 : W.fo 2 = W.fo 3
            · by_cases wb : z_cp W 2 3 b e f
              · obtain ⟨i, j, n, rfl, rfl, rfl, hi, hj⟩ := wb
                refine z_Zc _ ?_ _ (fun xs L d => pi_X_copy23 (d := d + 2) hR w w2 w4 hi hj) (fun xs L d τ hm => pi_P_copy (d := d + 2) hm (ks := 2) (kt := 3) hk4 hk24 w w2 w4 hi hj)
                exact (hn)
              · refine z_Zc _ ?_ _ (fun xs L d => pi_X_copy23_index (d := d + 2) hR w w2 w4 wb) (fun xs L d τ hm => pi_P_copy_index (d := d + 2) hm (ks := 2) (kt := 3) hk4 hk24 w w2 w4 wb)
                exact (hn)
            · refine z_Zc _ ?_ _ (fun xs L d => pi_X_copy23_store (d := d + 2) hR w w2 w4) (fun xs L d τ hm => pi_P_copy_store (d := d + 2) hm (ks := 2) (kt := 3) hk4 hk24 w w2 w4)
              exact (hn)
    · rcases (show k2 = 0 ∨ k2 = 1 ∨ k2 = 2 ∨ k2 = 3 by omega) with rfl | rfl | rfl | rfl
      · by_cases w : W.th 3 = 0
        · refine z_Zc _ ?_ _ (fun xs L d => pi_X_copy30_null1 (d := d + 2) hR w) (fun xs L d τ hm => pi_P_copy_null1 (d := d + 2) hm (ks := 3) (kt := 0) hk4 hk24 w)
          exact (hn)
        · by_cases w2 : W.th 0 = 0
          · refine z_Zc _ ?_ _ (fun xs L d => pi_X_copy30_null2 (d := d + 2) hR w w2) (fun xs L d τ hm => pi_P_copy_null2 (d := d + 2) hm (ks := 3) (kt := 0) hk4 hk24 w w2)
            exact (hn)
          · by_cases w4 : W.fo 3 = W.fo 0
            · by_cases wb : z_cp W 3 0 b e f
              · obtain ⟨i, j, n, rfl, rfl, rfl, hi, hj⟩ := wb
                refine z_Zc _ ?_ _ (fun xs L d => pi_X_copy30 (d := d + 2) hR w w2 w4 hi hj) (fun xs L d τ hm => pi_P_copy (d := d + 2) hm (ks := 3) (kt := 0) hk4 hk24 w w2 w4 hi hj)
                exact (hn)
              · refine z_Zc _ ?_ _ (fun xs L d => pi_X_copy30_index (d := d + 2) hR w w2 w4 wb) (fun xs L d τ hm => pi_P_copy_index (d := d + 2) hm (ks := 3) (kt := 0) hk4 hk24 w w2 w4 wb)
                exact (hn)
            · refine z_Zc _ ?_ _ (fun xs L d => pi_X_copy30_store (d := d + 2) hR w w2 w4) (fun xs L d τ hm => pi_P_copy_store (d := d + 2) hm (ks := 3) (kt := 0) hk4 hk24 w w2 w4)
              exact (hn)
      · by_cases w : W.th 3 = 0
        · refine z_Zc _ ?_ _ (fun xs L d => pi_X_copy31_null1 (d := d + 2) hR w) (fun xs L d τ hm => pi_P_copy_null1 (d := d + 2) hm (ks := 3) (kt := 1) hk4 hk24 w)
          exact (hn)
        · by_cases w2 : W.th 1 = 0
          · refine z_Zc _ ?_ _ (fun xs L d => pi_X_copy31_null2 (d := d + 2) hR w w2) (fun xs L d τ hm => pi_P_copy_null2 (d := d + 2) hm (ks := 3) (kt := 1) hk4 hk24 w w2)
            exact (hn)
          · by_cases w4 : W.fo 3 = W.fo 1
            · by_cases wb : z_cp W 3 1 b e f
              · obtain ⟨i, j, n, rfl, rfl, rfl, hi, hj⟩ := wb
                refine z_Zc _ ?_ _ (fun xs L d => pi_X_copy31 (d := d + 2) hR w w2 w4 hi hj) (fun xs L d τ hm => pi_P_copy (d := d + 2) hm (ks := 3) (kt := 1) hk4 hk24 w w2 w4 hi hj)
                exact (hn)
              · refine z_Zc _ ?_ _ (fun xs L d => pi_X_copy31_index (d := d + 2) hR w w2 w4 wb) (fun xs L d τ hm => pi_P_copy_index (d := d + 2) hm (ks := 3) (kt := 1) hk4 hk24 w w2 w4 wb)
                exact (hn)
            · refine z_Zc _ ?_ _ (fun xs L d => pi_X_copy31_store (d := d + 2) hR w w2 w4) (fun xs L d τ hm => pi_P_copy_store (d := d + 2) hm (ks := 3) (kt := 1) hk4 hk24 w w2 w4)
              exact (hn)
      · by_cases w : W.th 3 = 0
        · refine z_Zc _ ?_ _ (fun xs L d => pi_X_copy32_null1 (d := d + 2) hR w) (fun xs L d τ hm => pi_P_copy_null1 (d := d + 2) hm (ks := 3) (kt := 2) hk4 hk24 w)
          exact (hn)
        · by_cases w2 : W.th 2 = 0
          · refine z_Zc _ ?_ _ (fun xs L d => pi_X_copy32_null2 (d := d + 2) hR w w2) (fun xs L d τ hm => pi_P_copy_null2 (d := d + 2) hm (ks := 3) (kt := 2) hk4 hk24 w w2)
            exact (hn)
          · by_cases w4 : W.fo 3 = W.fo 2
            · by_cases wb : z_cp W 3 2 b e f
              · obtain ⟨i, j, n, rfl, rfl, rfl, hi, hj⟩ := wb
                refine z_Zc _ ?_ _ (fun xs L d => pi_X_copy32 (d := d + 2) hR w w2 w4 hi hj) (fun xs L d τ hm => pi_P_copy (d := d + 2) hm (ks := 3) (kt := 2) hk4 hk24 w w2 w4 hi hj)
                exact (hn)
              · refine z_Zc _ ?_ _ (fun xs L d => pi_X_copy32_index (d := d + 2) hR w w2 w4 wb) (fun xs L d τ hm => pi_P_copy_index (d := d + 2) hm (ks := 3) (kt := 2) hk4 hk24 w w2 w4 wb)
                exact (hn)
            · refine z_Zc _ ?_ _ (fun xs L d => pi_X_copy32_store (d := d + 2) hR w w2 w4) (fun xs L d τ hm => pi_P_copy_store (d := d + 2) hm (ks := 3) (kt := 2) hk4 hk24 w w2 w4)
              exact (hn)
      · by_cases w : W.th 3 = 0
        · refine z_Zc _ ?_ _ (fun xs L d => pi_X_copy33_null1 (d := d + 2) hR w) (fun xs L d τ hm => pi_P_copy_null1 (d := d + 2) hm (ks := 3) (kt := 3) hk4 hk24 w)
          exact (hn)
        · by_cases w2 : W.th 3 = 0
          · exact absurd w2 w
          · by_cases w4 : W.fo 3 = W.fo 3
            · by_cases wb : z_cp W 3 3 b e f
              · obtain ⟨i, j, n, rfl, rfl, rfl, hi, hj⟩ := wb
                refine z_Zc _ ?_ _ (fun xs L d => pi_X_copy33 (d := d + 2) hR w w2 w4 hi hj) (fun xs L d τ hm => pi_P_copy (d := d + 2) hm (ks := 3) (kt := 3) hk4 hk24 w w2 w4 hi hj)
                exact (hn)
              · refine z_Zc _ ?_ _ (fun xs L d => pi_X_copy33_index (d := d + 2) hR w w2 w4 wb) (fun xs L d τ hm => pi_P_copy_index (d := d + 2) hm (ks := 3) (kt := 3) hk4 hk24 w w2 w4 wb)
                exact (hn)
            · exact absurd rfl w4
  · exact z_Zq hn _ (fun xs L d => pi_X_copy_bad (d := d + 2) hR q) (fun xs L d τ hm => pi_P_copy_bad (d := d + 2) hm q)
theorem pi_J_write {W : zW} {σ : pi_S} (hJ : z_J W σ) (a b : Int32) : z_Z Value.int W σ 91 171 [some (.ref 0), some (.int a), some (.int b), none, none, none, none] [some (.ref 56), some (.int a), some (.int b), none] := by
  obtain ⟨hR, hM, hn⟩ := hJ
  have hk := hM.wk
  by_cases q : z_B (W.nine + 1) a ∧ z_B 4 b
  · obtain ⟨⟨m, hm9, rfl⟩, k, hk4, rfl⟩ := q
    rcases (show k = 0 ∨ k = 1 ∨ k = 2 ∨ k = 3 by omega) with rfl | rfl | rfl | rfl
    · by_cases w : W.th 0 = 0
      · refine z_Zc _ ?_ _ (fun xs L d => pi_X_write0_null (d := d + 2) hR hm9 w) (fun xs L d τ hm => pi_P_write_null (d := d + 2) hm (k := 0) hm9 hk4 w)
        exact (hn)
      · obtain ⟨N, hN⟩ := z_min_ex (W.si 0) W.nd
        rcases Nat.lt_or_eq_of_le (Nat.lt_succ_iff.mp hm9) with h9 | rfl
        · refine z_Zc _ ?_ _ (fun xs L d => pi_X_write0t (d := d + 2) hR h9 w hN) (fun xs L d τ hm => pi_P_write (d := d + 2) hm (k := 0) hm9 hk4 w hN)
          exact hn
        · refine z_Zc _ ?_ _ (fun xs L d => pi_X_write0c (d := d + 2) hR w hN) (fun xs L d τ hm => pi_P_write (d := d + 2) hm (k := 0) hm9 hk4 w hN)
          exact hn
    · by_cases w : W.th 1 = 0
      · refine z_Zc _ ?_ _ (fun xs L d => pi_X_write1_null (d := d + 2) hR hm9 w) (fun xs L d τ hm => pi_P_write_null (d := d + 2) hm (k := 1) hm9 hk4 w)
        exact (hn)
      · obtain ⟨N, hN⟩ := z_min_ex (W.si 1) W.nd
        rcases Nat.lt_or_eq_of_le (Nat.lt_succ_iff.mp hm9) with h9 | rfl
        · refine z_Zc _ ?_ _ (fun xs L d => pi_X_write1t (d := d + 2) hR h9 w hN) (fun xs L d τ hm => pi_P_write (d := d + 2) hm (k := 1) hm9 hk4 w hN)
          exact hn
        · refine z_Zc _ ?_ _ (fun xs L d => pi_X_write1c (d := d + 2) hR w hN) (fun xs L d τ hm => pi_P_write (d := d + 2) hm (k := 1) hm9 hk4 w hN)
          exact hn
    · by_cases w : W.th 2 = 0
      · refine z_Zc _ ?_ _ (fun xs L d => pi_X_write2_null (d := d + 2) hR hm9 w) (fun xs L d τ hm => pi_P_write_null (d := d + 2) hm (k := 2) hm9 hk4 w)
        exact (hn)
      · obtain ⟨N, hN⟩ := z_min_ex (W.si 2) W.nd
        rcases Nat.lt_or_eq_of_le (Nat.lt_succ_iff.mp hm9) with h9 | rfl
        · refine z_Zc _ ?_ _ (fun xs L d => pi_X_write2t (d := d + 2) hR h9 w hN) (fun xs L d τ hm => pi_P_write (d := d + 2) hm (k := 2) hm9 hk4 w hN)
          exact hn
        · refine z_Zc _ ?_ _ (fun xs L d => pi_X_write2c (d := d + 2) hR w hN) (fun xs L d τ hm => pi_P_write (d := d + 2) hm (k := 2) hm9 hk4 w hN)
          exact hn
    · by_cases w : W.th 3 = 0
      · refine z_Zc _ ?_ _ (fun xs L d => pi_X_write3_null (d := d + 2) hR hm9 w) (fun xs L d τ hm => pi_P_write_null (d := d + 2) hm (k := 3) hm9 hk4 w)
        exact (hn)
      · obtain ⟨N, hN⟩ := z_min_ex (W.si 3) W.nd
        rcases Nat.lt_or_eq_of_le (Nat.lt_succ_iff.mp hm9) with h9 | rfl
        · refine z_Zc _ ?_ _ (fun xs L d => pi_X_write3t (d := d + 2) hR h9 w hN) (fun xs L d τ hm => pi_P_write (d := d + 2) hm (k := 3) hm9 hk4 w hN)
          exact hn
        · refine z_Zc _ ?_ _ (fun xs L d => pi_X_write3c (d := d + 2) hR w hN) (fun xs L d τ hm => pi_P_write (d := d + 2) hm (k := 3) hm9 hk4 w hN)
          exact hn
  · exact z_Zq hn _ (fun xs L d => pi_X_write_bad (d := d + 2) hR q) (fun xs L d τ hm => pi_P_write_bad (d := d + 2) hm q)
theorem pi_J_count {W : zW} {σ : pi_S} (hJ : z_J W σ) (a : Int32) : z_Z Value.int W σ 92 173 [some (.ref 0), some (.int a)] [some (.ref 56), some (.int a)] := by
  obtain ⟨hR, hM, hn⟩ := hJ
  have hk := hM.wk
  by_cases q : z_B 9 a
  · obtain ⟨k, hk9, rfl⟩ := q
    rcases (show k = 0 ∨ k = 1 ∨ k = 2 ∨ k = 3 ∨ k = 4 ∨ k = 5 ∨ k = 6 ∨ k = 7 ∨ k = 8 by omega) with rfl | rfl | rfl | rfl | rfl | rfl | rfl | rfl | rfl
    · exact z_Zq hn _ (fun xs L d => pi_X_count0 (d := d + 2) hR ) (fun xs L d τ hm => pi_P_count0 (d := d + 2) hm )
    · exact z_Zq hn _ (fun xs L d => pi_X_count1 (d := d + 2) hR ) (fun xs L d τ hm => pi_P_count1 (d := d + 2) hm )
    · exact z_Zq hn _ (fun xs L d => pi_X_count2 (d := d + 2) hR ) (fun xs L d τ hm => pi_P_count2 (d := d + 2) hm )
    · exact z_Zq hn _ (fun xs L d => pi_X_count3 (d := d + 2) hR ) (fun xs L d τ hm => pi_P_count3 (d := d + 2) hm )
    · exact z_Zq hn _ (fun xs L d => pi_X_count4 (d := d + 2) hR ) (fun xs L d τ hm => pi_P_count4 (d := d + 2) hm )
    · exact z_Zq hn _ (fun xs L d => pi_X_count5 (d := d + 2) hR ) (fun xs L d τ hm => pi_P_count5 (d := d + 2) hm )
    · exact z_Zq hn _ (fun xs L d => pi_X_count6 (d := d + 2) hR ) (fun xs L d τ hm => pi_P_count6 (d := d + 2) hm )
    · exact z_Zq hn _ (fun xs L d => pi_X_count7 (d := d + 2) hR ) (fun xs L d τ hm => pi_P_count7 (d := d + 2) hm )
    · exact z_Zq hn _ (fun xs L d => pi_X_count8 (d := d + 2) hR ) (fun xs L d τ hm => pi_P_count8 (d := d + 2) hm )
  · exact z_Zq hn _ (fun xs L d => pi_X_count_bad (d := d + 2) hR q) (fun xs L d τ hm => pi_P_count_bad (d := d + 2) hm q)
theorem pi_J_digest {W : zW} {σ : pi_S} (hJ : z_J W σ) : z_Z Value.long W σ 93 174 [some (.ref 0), none, none, none, none] [some (.ref 56), none, none, none, none] := by
  obtain ⟨hR, hM, hn⟩ := hJ
  have hk := hM.wk
  obtain ⟨t, ht, hmean⟩ := z_mean_nn hk (-1) (x := 4) (by omega)
  exact z_Zq hn _ (fun xs L d => pi_X_digest (d := d + 0) hR hmean ht) (fun xs L d τ hm => pi_P_digest (d := d + 1) hm hn hmean ht)
