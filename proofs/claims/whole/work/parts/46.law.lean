theorem z_lcmp0 (a : Int64) : lg_cmp a a = 0 := by
  unfold lg_cmp
  have h : ¬ a > a := fun q => Int64.lt_irrefl q
  simp
theorem z_and63 (x : Int32) : ∃ m, m < 64 ∧ x &&& nI 63 = nI m := by
  have hx : x = nI x.toBitVec.toNat := by
    apply Int32.toBitVec_inj.1
    show x.toBitVec = BitVec.ofNat 32 x.toBitVec.toNat
    apply BitVec.eq_of_toNat_eq
    rw [BitVec.toNat_ofNat]
    exact (Nat.mod_eq_of_lt x.toBitVec.isLt).symm
  refine ⟨x.toBitVec.toNat &&& 63, Nat.lt_of_le_of_lt Nat.and_le_right (by decide), ?_⟩
  rw [← z_and, ← hx]
theorem z_L6 {L i : Nat} (hL : L ≤ 3072) (hi : i ≤ 3072) : nI L - nI 6 < nI i ↔ L < i + 6 := by
  rw [Int32.lt_iff_toInt_lt, pk_sub_toInt (by omega) (by omega), nI_toInt (by omega)]
  omega
set_option maxRecDepth 20000 in
theorem pi_L_type {xs : Nat → Int32} {L d : Nat} {W : zW} {σ : pi_S} {i : Nat} (hL : L ≤ 3072) (hi : i + 6 ≤ L) (hJ : z_J W σ) {Q : Option Value → pi_S → Prop} (hn : ∀ W s, z_J W s → pi_wp xs L (d + 12) 0 1231 [some (.ref 1000), some (.ref 0), some (.ref 56), some (.int (nI i))] [] s Q) : pi_wp xs L (d + 12) 0 180 [some (.ref 1000), some (.ref 0), some (.ref 56), some (.int (nI i))] [] σ Q := by
  obtain ⟨W1, v1, hn1, hA, hB⟩ := pi_J_type hJ (xs (i + 1)) (xs (i + 2))
  refine pi_go 5 (pc' := 185) (l' := [some (.ref 1000), some (.ref 0), some (.ref 56), some (.int (nI i))]) (st' := [.int (nI i + nI 1), .ref 1000, .ref 0]) (σ' := σ) (fun f => rfl) ?_
  refine pi_tp (y := nI (i + 1)) (nI_add _ _) ?_
  refine pi_ai 1 (u := i + 1) (n := L) (g := xs) (pc' := 186) (l' := [some (.ref 1000), some (.ref 0), some (.ref 56), some (.int (nI i))]) (t := [.ref 0]) (σ' := σ) (fun f => rfl) (by omega) (by omega) ?_
  refine pi_go 4 (pc' := 190) (l' := [some (.ref 1000), some (.ref 0), some (.ref 56), some (.int (nI i))]) (st' := [.int (nI i + nI 2), .ref 1000, .int (xs (i + 1)), .ref 0]) (σ' := σ) (fun f => rfl) ?_
  refine pi_tp (y := nI (i + 2)) (nI_add _ _) ?_
  refine pi_ai 1 (u := i + 2) (n := L) (g := xs) (pc' := 191) (l' := [some (.ref 1000), some (.ref 0), some (.ref 56), some (.int (nI i))]) (t := [.int (xs (i + 1)), .ref 0]) (σ' := σ) (fun f => rfl) (by omega) (by omega) ?_
  refine pi_ca 1 (m' := 61) (l' := [some (.ref 0), some (.int (xs (i + 1))), some (.int (xs (i + 2))), none]) (σ' := σ) (pc2 := 194) (l2 := [some (.ref 1000), some (.ref 0), some (.ref 56), some (.int (nI i))]) (t := []) (fun f => rfl) (hA xs L _) ?_
  rintro _ s1 ⟨rfl, hR1, r1⟩
  refine pi_go 5 (pc' := 199) (l' := [some (.ref 1000), some (.ref 0), some (.ref 56), some (.int (nI i))]) (st' := [.int (nI i + nI 1), .ref 1000, .ref 56, .int v1]) (σ' := s1) (fun f => rfl) ?_
  refine pi_tp (y := nI (i + 1)) (nI_add _ _) ?_
  refine pi_ai 1 (u := i + 1) (n := L) (g := xs) (pc' := 200) (l' := [some (.ref 1000), some (.ref 0), some (.ref 56), some (.int (nI i))]) (t := [.ref 56, .int v1]) (σ' := s1) (fun f => rfl) (by omega) (by omega) ?_
  refine pi_go 4 (pc' := 204) (l' := [some (.ref 1000), some (.ref 0), some (.ref 56), some (.int (nI i))]) (st' := [.int (nI i + nI 2), .ref 1000, .int (xs (i + 1)), .ref 56, .int v1]) (σ' := s1) (fun f => rfl) ?_
  refine pi_tp (y := nI (i + 2)) (nI_add _ _) ?_
  refine pi_ai 1 (u := i + 2) (n := L) (g := xs) (pc' := 205) (l' := [some (.ref 1000), some (.ref 0), some (.ref 56), some (.int (nI i))]) (t := [.int (xs (i + 1)), .ref 56, .int v1]) (σ' := s1) (fun f => rfl) (by omega) (by omega) ?_
  refine pi_ca 1 (m' := 105) (l' := [some (.ref 56), some (.int (xs (i + 1))), some (.int (xs (i + 2)))]) (σ' := s1) (pc2 := 208) (l2 := [some (.ref 1000), some (.ref 0), some (.ref 56), some (.int (nI i))]) (t := [.int v1]) (fun f => rfl) (hB xs L _ s1 (hJ.2.1.fr r1)) ?_
  rintro _ s2 ⟨rfl, hM2, r2⟩
  refine pi_ct 1 (c := v1 = v1) (pc' := 1231) (l' := [some (.ref 1000), some (.ref 0), some (.ref 56), some (.int (nI i))]) (st' := []) (σ' := s2) (pc2 := 211) (l2 := [some (.ref 1000), some (.ref 0), some (.ref 56), some (.int (nI i))]) (st2 := []) (σ2 := s2) (fun f => rfl) (rfl) ?_
  exact hn W1 s2 ⟨hR1.fr r2, hM2, hn1⟩
set_option maxRecDepth 20000 in
theorem pi_L_wipe {xs : Nat → Int32} {L d : Nat} {W : zW} {σ : pi_S} {i : Nat} (hL : L ≤ 3072) (hi : i + 6 ≤ L) (hJ : z_J W σ) {Q : Option Value → pi_S → Prop} (hn : ∀ W s, z_J W s → pi_wp xs L (d + 12) 0 1231 [some (.ref 1000), some (.ref 0), some (.ref 56), some (.int (nI i))] [] s Q) : pi_wp xs L (d + 12) 0 213 [some (.ref 1000), some (.ref 0), some (.ref 56), some (.int (nI i))] [] σ Q := by
  obtain ⟨W1, v1, hn1, hA, hB⟩ := pi_J_wipe hJ (xs (i + 1))
  refine pi_go 5 (pc' := 218) (l' := [some (.ref 1000), some (.ref 0), some (.ref 56), some (.int (nI i))]) (st' := [.int (nI i + nI 1), .ref 1000, .ref 0]) (σ' := σ) (fun f => rfl) ?_
  refine pi_tp (y := nI (i + 1)) (nI_add _ _) ?_
  refine pi_ai 1 (u := i + 1) (n := L) (g := xs) (pc' := 219) (l' := [some (.ref 1000), some (.ref 0), some (.ref 56), some (.int (nI i))]) (t := [.ref 0]) (σ' := σ) (fun f => rfl) (by omega) (by omega) ?_
  refine pi_ca 1 (m' := 62) (l' := [some (.ref 0), some (.int (xs (i + 1))), none]) (σ' := σ) (pc2 := 222) (l2 := [some (.ref 1000), some (.ref 0), some (.ref 56), some (.int (nI i))]) (t := []) (fun f => rfl) (hA xs L _) ?_
  rintro _ s1 ⟨rfl, hR1, r1⟩
  refine pi_go 5 (pc' := 227) (l' := [some (.ref 1000), some (.ref 0), some (.ref 56), some (.int (nI i))]) (st' := [.int (nI i + nI 1), .ref 1000, .ref 56, .int v1]) (σ' := s1) (fun f => rfl) ?_
  refine pi_tp (y := nI (i + 1)) (nI_add _ _) ?_
  refine pi_ai 1 (u := i + 1) (n := L) (g := xs) (pc' := 228) (l' := [some (.ref 1000), some (.ref 0), some (.ref 56), some (.int (nI i))]) (t := [.ref 56, .int v1]) (σ' := s1) (fun f => rfl) (by omega) (by omega) ?_
  refine pi_ca 1 (m' := 106) (l' := [some (.ref 56), some (.int (xs (i + 1))), none]) (σ' := s1) (pc2 := 231) (l2 := [some (.ref 1000), some (.ref 0), some (.ref 56), some (.int (nI i))]) (t := [.int v1]) (fun f => rfl) (hB xs L _ s1 (hJ.2.1.fr r1)) ?_
  rintro _ s2 ⟨rfl, hM2, r2⟩
  refine pi_ct 1 (c := v1 = v1) (pc' := 1231) (l' := [some (.ref 1000), some (.ref 0), some (.ref 56), some (.int (nI i))]) (st' := []) (σ' := s2) (pc2 := 234) (l2 := [some (.ref 1000), some (.ref 0), some (.ref 56), some (.int (nI i))]) (st2 := []) (σ2 := s2) (fun f => rfl) (rfl) ?_
  exact hn W1 s2 ⟨hR1.fr r2, hM2, hn1⟩
set_option maxRecDepth 20000 in
theorem pi_L_fault {xs : Nat → Int32} {L d : Nat} {W : zW} {σ : pi_S} {i : Nat} (hL : L ≤ 3072) (hi : i + 6 ≤ L) (hJ : z_J W σ) {Q : Option Value → pi_S → Prop} (hn : ∀ W s, z_J W s → pi_wp xs L (d + 12) 0 1231 [some (.ref 1000), some (.ref 0), some (.ref 56), some (.int (nI i))] [] s Q) : pi_wp xs L (d + 12) 0 236 [some (.ref 1000), some (.ref 0), some (.ref 56), some (.int (nI i))] [] σ Q := by
  obtain ⟨W1, v1, hn1, hA, hB⟩ := pi_J_fault hJ (xs (i + 1))
  refine pi_go 5 (pc' := 241) (l' := [some (.ref 1000), some (.ref 0), some (.ref 56), some (.int (nI i))]) (st' := [.int (nI i + nI 1), .ref 1000, .ref 0]) (σ' := σ) (fun f => rfl) ?_
  refine pi_tp (y := nI (i + 1)) (nI_add _ _) ?_
  refine pi_ai 1 (u := i + 1) (n := L) (g := xs) (pc' := 242) (l' := [some (.ref 1000), some (.ref 0), some (.ref 56), some (.int (nI i))]) (t := [.ref 0]) (σ' := σ) (fun f => rfl) (by omega) (by omega) ?_
  refine pi_ca 1 (m' := 63) (l' := [some (.ref 0), some (.int (xs (i + 1)))]) (σ' := σ) (pc2 := 245) (l2 := [some (.ref 1000), some (.ref 0), some (.ref 56), some (.int (nI i))]) (t := []) (fun f => rfl) (hA xs L _) ?_
  rintro _ s1 ⟨rfl, hR1, r1⟩
  refine pi_go 5 (pc' := 250) (l' := [some (.ref 1000), some (.ref 0), some (.ref 56), some (.int (nI i))]) (st' := [.int (nI i + nI 1), .ref 1000, .ref 56, .int v1]) (σ' := s1) (fun f => rfl) ?_
  refine pi_tp (y := nI (i + 1)) (nI_add _ _) ?_
  refine pi_ai 1 (u := i + 1) (n := L) (g := xs) (pc' := 251) (l' := [some (.ref 1000), some (.ref 0), some (.ref 56), some (.int (nI i))]) (t := [.ref 56, .int v1]) (σ' := s1) (fun f => rfl) (by omega) (by omega) ?_
  refine pi_ca 1 (m' := 112) (l' := [some (.ref 56), some (.int (xs (i + 1)))]) (σ' := s1) (pc2 := 254) (l2 := [some (.ref 1000), some (.ref 0), some (.ref 56), some (.int (nI i))]) (t := [.int v1]) (fun f => rfl) (hB xs L _ s1 (hJ.2.1.fr r1)) ?_
  rintro _ s2 ⟨rfl, hM2, r2⟩
  refine pi_ct 1 (c := v1 = v1) (pc' := 1231) (l' := [some (.ref 1000), some (.ref 0), some (.ref 56), some (.int (nI i))]) (st' := []) (σ' := s2) (pc2 := 257) (l2 := [some (.ref 1000), some (.ref 0), some (.ref 56), some (.int (nI i))]) (st2 := []) (σ2 := s2) (fun f => rfl) (rfl) ?_
  exact hn W1 s2 ⟨hR1.fr r2, hM2, hn1⟩
set_option maxRecDepth 20000 in
theorem pi_L_height {xs : Nat → Int32} {L d : Nat} {W : zW} {σ : pi_S} {i : Nat} (hL : L ≤ 3072) (hi : i + 6 ≤ L) (hJ : z_J W σ) {Q : Option Value → pi_S → Prop} (hn : ∀ W s, z_J W s → pi_wp xs L (d + 12) 0 1231 [some (.ref 1000), some (.ref 0), some (.ref 56), some (.int (nI i))] [] s Q) : pi_wp xs L (d + 12) 0 259 [some (.ref 1000), some (.ref 0), some (.ref 56), some (.int (nI i))] [] σ Q := by
  obtain ⟨W1, v1, hn1, hA, hB⟩ := pi_J_height hJ (xs (i + 1))
  refine pi_go 5 (pc' := 264) (l' := [some (.ref 1000), some (.ref 0), some (.ref 56), some (.int (nI i))]) (st' := [.int (nI i + nI 1), .ref 1000, .ref 0]) (σ' := σ) (fun f => rfl) ?_
  refine pi_tp (y := nI (i + 1)) (nI_add _ _) ?_
  refine pi_ai 1 (u := i + 1) (n := L) (g := xs) (pc' := 265) (l' := [some (.ref 1000), some (.ref 0), some (.ref 56), some (.int (nI i))]) (t := [.ref 0]) (σ' := σ) (fun f => rfl) (by omega) (by omega) ?_
  refine pi_ca 1 (m' := 64) (l' := [some (.ref 0), some (.int (xs (i + 1)))]) (σ' := σ) (pc2 := 268) (l2 := [some (.ref 1000), some (.ref 0), some (.ref 56), some (.int (nI i))]) (t := []) (fun f => rfl) (hA xs L _) ?_
  rintro _ s1 ⟨rfl, hR1, r1⟩
  refine pi_go 5 (pc' := 273) (l' := [some (.ref 1000), some (.ref 0), some (.ref 56), some (.int (nI i))]) (st' := [.int (nI i + nI 1), .ref 1000, .ref 56, .int v1]) (σ' := s1) (fun f => rfl) ?_
  refine pi_tp (y := nI (i + 1)) (nI_add _ _) ?_
  refine pi_ai 1 (u := i + 1) (n := L) (g := xs) (pc' := 274) (l' := [some (.ref 1000), some (.ref 0), some (.ref 56), some (.int (nI i))]) (t := [.ref 56, .int v1]) (σ' := s1) (fun f => rfl) (by omega) (by omega) ?_
  refine pi_ca 1 (m' := 117) (l' := [some (.ref 56), some (.int (xs (i + 1)))]) (σ' := s1) (pc2 := 277) (l2 := [some (.ref 1000), some (.ref 0), some (.ref 56), some (.int (nI i))]) (t := [.int v1]) (fun f => rfl) (hB xs L _ s1 (hJ.2.1.fr r1)) ?_
  rintro _ s2 ⟨rfl, hM2, r2⟩
  refine pi_ct 1 (c := v1 = v1) (pc' := 1231) (l' := [some (.ref 1000), some (.ref 0), some (.ref 56), some (.int (nI i))]) (st' := []) (σ' := s2) (pc2 := 280) (l2 := [some (.ref 1000), some (.ref 0), some (.ref 56), some (.int (nI i))]) (st2 := []) (σ2 := s2) (fun f => rfl) (rfl) ?_
  exact hn W1 s2 ⟨hR1.fr r2, hM2, hn1⟩
set_option maxRecDepth 20000 in
theorem pi_L_street {xs : Nat → Int32} {L d : Nat} {W : zW} {σ : pi_S} {i : Nat} (hL : L ≤ 3072) (hi : i + 6 ≤ L) (hJ : z_J W σ) {Q : Option Value → pi_S → Prop} (hn : ∀ W s, z_J W s → pi_wp xs L (d + 12) 0 1231 [some (.ref 1000), some (.ref 0), some (.ref 56), some (.int (nI i))] [] s Q) : pi_wp xs L (d + 12) 0 282 [some (.ref 1000), some (.ref 0), some (.ref 56), some (.int (nI i))] [] σ Q := by
  obtain ⟨W1, v1, hn1, hA, hB⟩ := pi_J_street hJ (xs (i + 1)) (xs (i + 2))
  refine pi_go 5 (pc' := 287) (l' := [some (.ref 1000), some (.ref 0), some (.ref 56), some (.int (nI i))]) (st' := [.int (nI i + nI 1), .ref 1000, .ref 0]) (σ' := σ) (fun f => rfl) ?_
  refine pi_tp (y := nI (i + 1)) (nI_add _ _) ?_
  refine pi_ai 1 (u := i + 1) (n := L) (g := xs) (pc' := 288) (l' := [some (.ref 1000), some (.ref 0), some (.ref 56), some (.int (nI i))]) (t := [.ref 0]) (σ' := σ) (fun f => rfl) (by omega) (by omega) ?_
  refine pi_go 4 (pc' := 292) (l' := [some (.ref 1000), some (.ref 0), some (.ref 56), some (.int (nI i))]) (st' := [.int (nI i + nI 2), .ref 1000, .int (xs (i + 1)), .ref 0]) (σ' := σ) (fun f => rfl) ?_
  refine pi_tp (y := nI (i + 2)) (nI_add _ _) ?_
  refine pi_ai 1 (u := i + 2) (n := L) (g := xs) (pc' := 293) (l' := [some (.ref 1000), some (.ref 0), some (.ref 56), some (.int (nI i))]) (t := [.int (xs (i + 1)), .ref 0]) (σ' := σ) (fun f => rfl) (by omega) (by omega) ?_
  refine pi_ca 1 (m' := 65) (l' := [some (.ref 0), some (.int (xs (i + 1))), some (.int (xs (i + 2)))]) (σ' := σ) (pc2 := 296) (l2 := [some (.ref 1000), some (.ref 0), some (.ref 56), some (.int (nI i))]) (t := []) (fun f => rfl) (hA xs L _) ?_
  rintro _ s1 ⟨rfl, hR1, r1⟩
  refine pi_go 5 (pc' := 301) (l' := [some (.ref 1000), some (.ref 0), some (.ref 56), some (.int (nI i))]) (st' := [.int (nI i + nI 1), .ref 1000, .ref 56, .int v1]) (σ' := s1) (fun f => rfl) ?_
  refine pi_tp (y := nI (i + 1)) (nI_add _ _) ?_
  refine pi_ai 1 (u := i + 1) (n := L) (g := xs) (pc' := 302) (l' := [some (.ref 1000), some (.ref 0), some (.ref 56), some (.int (nI i))]) (t := [.ref 56, .int v1]) (σ' := s1) (fun f => rfl) (by omega) (by omega) ?_
  refine pi_go 4 (pc' := 306) (l' := [some (.ref 1000), some (.ref 0), some (.ref 56), some (.int (nI i))]) (st' := [.int (nI i + nI 2), .ref 1000, .int (xs (i + 1)), .ref 56, .int v1]) (σ' := s1) (fun f => rfl) ?_
  refine pi_tp (y := nI (i + 2)) (nI_add _ _) ?_
  refine pi_ai 1 (u := i + 2) (n := L) (g := xs) (pc' := 307) (l' := [some (.ref 1000), some (.ref 0), some (.ref 56), some (.int (nI i))]) (t := [.int (xs (i + 1)), .ref 56, .int v1]) (σ' := s1) (fun f => rfl) (by omega) (by omega) ?_
  refine pi_ca 1 (m' := 118) (l' := [some (.ref 56), some (.int (xs (i + 1))), some (.int (xs (i + 2)))]) (σ' := s1) (pc2 := 310) (l2 := [some (.ref 1000), some (.ref 0), some (.ref 56), some (.int (nI i))]) (t := [.int v1]) (fun f => rfl) (hB xs L _ s1 (hJ.2.1.fr r1)) ?_
  rintro _ s2 ⟨rfl, hM2, r2⟩
  refine pi_ct 1 (c := v1 = v1) (pc' := 1231) (l' := [some (.ref 1000), some (.ref 0), some (.ref 56), some (.int (nI i))]) (st' := []) (σ' := s2) (pc2 := 313) (l2 := [some (.ref 1000), some (.ref 0), some (.ref 56), some (.int (nI i))]) (st2 := []) (σ2 := s2) (fun f => rfl) (rfl) ?_
  exact hn W1 s2 ⟨hR1.fr r2, hM2, hn1⟩
set_option maxRecDepth 20000 in
theorem pi_L_set {xs : Nat → Int32} {L d : Nat} {W : zW} {σ : pi_S} {i : Nat} (hL : L ≤ 3072) (hi : i + 6 ≤ L) (hJ : z_J W σ) {Q : Option Value → pi_S → Prop} (hn : ∀ W s, z_J W s → pi_wp xs L (d + 12) 0 1231 [some (.ref 1000), some (.ref 0), some (.ref 56), some (.int (nI i))] [] s Q) : pi_wp xs L (d + 12) 0 315 [some (.ref 1000), some (.ref 0), some (.ref 56), some (.int (nI i))] [] σ Q := by
  obtain ⟨W1, v1, hn1, hA, hB⟩ := pi_J_set hJ (xs (i + 1)) (xs (i + 2)) (xs (i + 3))
  refine pi_go 5 (pc' := 320) (l' := [some (.ref 1000), some (.ref 0), some (.ref 56), some (.int (nI i))]) (st' := [.int (nI i + nI 1), .ref 1000, .ref 0]) (σ' := σ) (fun f => rfl) ?_
  refine pi_tp (y := nI (i + 1)) (nI_add _ _) ?_
  refine pi_ai 1 (u := i + 1) (n := L) (g := xs) (pc' := 321) (l' := [some (.ref 1000), some (.ref 0), some (.ref 56), some (.int (nI i))]) (t := [.ref 0]) (σ' := σ) (fun f => rfl) (by omega) (by omega) ?_
  refine pi_go 4 (pc' := 325) (l' := [some (.ref 1000), some (.ref 0), some (.ref 56), some (.int (nI i))]) (st' := [.int (nI i + nI 2), .ref 1000, .int (xs (i + 1)), .ref 0]) (σ' := σ) (fun f => rfl) ?_
  refine pi_tp (y := nI (i + 2)) (nI_add _ _) ?_
  refine pi_ai 1 (u := i + 2) (n := L) (g := xs) (pc' := 326) (l' := [some (.ref 1000), some (.ref 0), some (.ref 56), some (.int (nI i))]) (t := [.int (xs (i + 1)), .ref 0]) (σ' := σ) (fun f => rfl) (by omega) (by omega) ?_
  refine pi_go 4 (pc' := 330) (l' := [some (.ref 1000), some (.ref 0), some (.ref 56), some (.int (nI i))]) (st' := [.int (nI i + nI 3), .ref 1000, .int (xs (i + 2)), .int (xs (i + 1)), .ref 0]) (σ' := σ) (fun f => rfl) ?_
  refine pi_tp (y := nI (i + 3)) (nI_add _ _) ?_
  refine pi_ai 1 (u := i + 3) (n := L) (g := xs) (pc' := 331) (l' := [some (.ref 1000), some (.ref 0), some (.ref 56), some (.int (nI i))]) (t := [.int (xs (i + 2)), .int (xs (i + 1)), .ref 0]) (σ' := σ) (fun f => rfl) (by omega) (by omega) ?_
  refine pi_ca 1 (m' := 66) (l' := [some (.ref 0), some (.int (xs (i + 1))), some (.int (xs (i + 2))), some (.int (xs (i + 3)))]) (σ' := σ) (pc2 := 334) (l2 := [some (.ref 1000), some (.ref 0), some (.ref 56), some (.int (nI i))]) (t := []) (fun f => rfl) (hA xs L _) ?_
  rintro _ s1 ⟨rfl, hR1, r1⟩
  refine pi_go 5 (pc' := 339) (l' := [some (.ref 1000), some (.ref 0), some (.ref 56), some (.int (nI i))]) (st' := [.int (nI i + nI 1), .ref 1000, .ref 56, .int v1]) (σ' := s1) (fun f => rfl) ?_
  refine pi_tp (y := nI (i + 1)) (nI_add _ _) ?_
  refine pi_ai 1 (u := i + 1) (n := L) (g := xs) (pc' := 340) (l' := [some (.ref 1000), some (.ref 0), some (.ref 56), some (.int (nI i))]) (t := [.ref 56, .int v1]) (σ' := s1) (fun f => rfl) (by omega) (by omega) ?_
  refine pi_go 4 (pc' := 344) (l' := [some (.ref 1000), some (.ref 0), some (.ref 56), some (.int (nI i))]) (st' := [.int (nI i + nI 2), .ref 1000, .int (xs (i + 1)), .ref 56, .int v1]) (σ' := s1) (fun f => rfl) ?_
  refine pi_tp (y := nI (i + 2)) (nI_add _ _) ?_
  refine pi_ai 1 (u := i + 2) (n := L) (g := xs) (pc' := 345) (l' := [some (.ref 1000), some (.ref 0), some (.ref 56), some (.int (nI i))]) (t := [.int (xs (i + 1)), .ref 56, .int v1]) (σ' := s1) (fun f => rfl) (by omega) (by omega) ?_
  refine pi_go 4 (pc' := 349) (l' := [some (.ref 1000), some (.ref 0), some (.ref 56), some (.int (nI i))]) (st' := [.int (nI i + nI 3), .ref 1000, .int (xs (i + 2)), .int (xs (i + 1)), .ref 56, .int v1]) (σ' := s1) (fun f => rfl) ?_
  refine pi_tp (y := nI (i + 3)) (nI_add _ _) ?_
  refine pi_ai 1 (u := i + 3) (n := L) (g := xs) (pc' := 350) (l' := [some (.ref 1000), some (.ref 0), some (.ref 56), some (.int (nI i))]) (t := [.int (xs (i + 2)), .int (xs (i + 1)), .ref 56, .int v1]) (σ' := s1) (fun f => rfl) (by omega) (by omega) ?_
  refine pi_ca 1 (m' := 119) (l' := [some (.ref 56), some (.int (xs (i + 1))), some (.int (xs (i + 2))), some (.int (xs (i + 3))), none, none, none]) (σ' := s1) (pc2 := 353) (l2 := [some (.ref 1000), some (.ref 0), some (.ref 56), some (.int (nI i))]) (t := [.int v1]) (fun f => rfl) (hB xs L _ s1 (hJ.2.1.fr r1)) ?_
  rintro _ s2 ⟨rfl, hM2, r2⟩
  refine pi_ct 1 (c := v1 = v1) (pc' := 1231) (l' := [some (.ref 1000), some (.ref 0), some (.ref 56), some (.int (nI i))]) (st' := []) (σ' := s2) (pc2 := 356) (l2 := [some (.ref 1000), some (.ref 0), some (.ref 56), some (.int (nI i))]) (st2 := []) (σ2 := s2) (fun f => rfl) (rfl) ?_
  exact hn W1 s2 ⟨hR1.fr r2, hM2, hn1⟩
set_option maxRecDepth 20000 in
theorem pi_L_read {xs : Nat → Int32} {L d : Nat} {W : zW} {σ : pi_S} {i : Nat} (hL : L ≤ 3072) (hi : i + 6 ≤ L) (hJ : z_J W σ) {Q : Option Value → pi_S → Prop} (hn : ∀ W s, z_J W s → pi_wp xs L (d + 12) 0 1231 [some (.ref 1000), some (.ref 0), some (.ref 56), some (.int (nI i))] [] s Q) : pi_wp xs L (d + 12) 0 358 [some (.ref 1000), some (.ref 0), some (.ref 56), some (.int (nI i))] [] σ Q := by
  obtain ⟨W1, v1, hn1, hA, hB⟩ := pi_J_read hJ (xs (i + 1))
  refine pi_go 5 (pc' := 363) (l' := [some (.ref 1000), some (.ref 0), some (.ref 56), some (.int (nI i))]) (st' := [.int (nI i + nI 1), .ref 1000, .ref 0]) (σ' := σ) (fun f => rfl) ?_
  refine pi_tp (y := nI (i + 1)) (nI_add _ _) ?_
  refine pi_ai 1 (u := i + 1) (n := L) (g := xs) (pc' := 364) (l' := [some (.ref 1000), some (.ref 0), some (.ref 56), some (.int (nI i))]) (t := [.ref 0]) (σ' := σ) (fun f => rfl) (by omega) (by omega) ?_
  refine pi_ca 1 (m' := 67) (l' := [some (.ref 0), some (.int (xs (i + 1))), none]) (σ' := σ) (pc2 := 367) (l2 := [some (.ref 1000), some (.ref 0), some (.ref 56), some (.int (nI i))]) (t := []) (fun f => rfl) (hA xs L _) ?_
  rintro _ s1 ⟨rfl, hR1, r1⟩
  refine pi_go 5 (pc' := 372) (l' := [some (.ref 1000), some (.ref 0), some (.ref 56), some (.int (nI i))]) (st' := [.int (nI i + nI 1), .ref 1000, .ref 56, .int v1]) (σ' := s1) (fun f => rfl) ?_
  refine pi_tp (y := nI (i + 1)) (nI_add _ _) ?_
  refine pi_ai 1 (u := i + 1) (n := L) (g := xs) (pc' := 373) (l' := [some (.ref 1000), some (.ref 0), some (.ref 56), some (.int (nI i))]) (t := [.ref 56, .int v1]) (σ' := s1) (fun f => rfl) (by omega) (by omega) ?_
  refine pi_ca 1 (m' := 120) (l' := [some (.ref 56), some (.int (xs (i + 1))), none]) (σ' := s1) (pc2 := 376) (l2 := [some (.ref 1000), some (.ref 0), some (.ref 56), some (.int (nI i))]) (t := [.int v1]) (fun f => rfl) (hB xs L _ s1 (hJ.2.1.fr r1)) ?_
  rintro _ s2 ⟨rfl, hM2, r2⟩
  refine pi_ct 1 (c := v1 = v1) (pc' := 1231) (l' := [some (.ref 1000), some (.ref 0), some (.ref 56), some (.int (nI i))]) (st' := []) (σ' := s2) (pc2 := 379) (l2 := [some (.ref 1000), some (.ref 0), some (.ref 56), some (.int (nI i))]) (st2 := []) (σ2 := s2) (fun f => rfl) (rfl) ?_
  exact hn W1 s2 ⟨hR1.fr r2, hM2, hn1⟩
set_option maxRecDepth 20000 in
theorem pi_L_fall {xs : Nat → Int32} {L d : Nat} {W : zW} {σ : pi_S} {i : Nat} (hL : L ≤ 3072) (hi : i + 6 ≤ L) (hJ : z_J W σ) {Q : Option Value → pi_S → Prop} (hn : ∀ W s, z_J W s → pi_wp xs L (d + 12) 0 1231 [some (.ref 1000), some (.ref 0), some (.ref 56), some (.int (nI i))] [] s Q) : pi_wp xs L (d + 12) 0 381 [some (.ref 1000), some (.ref 0), some (.ref 56), some (.int (nI i))] [] σ Q := by
  obtain ⟨W1, v1, hn1, hA, hB⟩ := pi_J_fall hJ (xs (i + 1)) (xs (i + 2)) (xs (i + 3)) (xs (i + 4))
  refine pi_go 5 (pc' := 386) (l' := [some (.ref 1000), some (.ref 0), some (.ref 56), some (.int (nI i))]) (st' := [.int (nI i + nI 1), .ref 1000, .ref 0]) (σ' := σ) (fun f => rfl) ?_
  refine pi_tp (y := nI (i + 1)) (nI_add _ _) ?_
  refine pi_ai 1 (u := i + 1) (n := L) (g := xs) (pc' := 387) (l' := [some (.ref 1000), some (.ref 0), some (.ref 56), some (.int (nI i))]) (t := [.ref 0]) (σ' := σ) (fun f => rfl) (by omega) (by omega) ?_
  refine pi_go 4 (pc' := 391) (l' := [some (.ref 1000), some (.ref 0), some (.ref 56), some (.int (nI i))]) (st' := [.int (nI i + nI 2), .ref 1000, .int (xs (i + 1)), .ref 0]) (σ' := σ) (fun f => rfl) ?_
  refine pi_tp (y := nI (i + 2)) (nI_add _ _) ?_
  refine pi_ai 1 (u := i + 2) (n := L) (g := xs) (pc' := 392) (l' := [some (.ref 1000), some (.ref 0), some (.ref 56), some (.int (nI i))]) (t := [.int (xs (i + 1)), .ref 0]) (σ' := σ) (fun f => rfl) (by omega) (by omega) ?_
  refine pi_go 4 (pc' := 396) (l' := [some (.ref 1000), some (.ref 0), some (.ref 56), some (.int (nI i))]) (st' := [.int (nI i + nI 3), .ref 1000, .int (xs (i + 2)), .int (xs (i + 1)), .ref 0]) (σ' := σ) (fun f => rfl) ?_
  refine pi_tp (y := nI (i + 3)) (nI_add _ _) ?_
  refine pi_ai 1 (u := i + 3) (n := L) (g := xs) (pc' := 397) (l' := [some (.ref 1000), some (.ref 0), some (.ref 56), some (.int (nI i))]) (t := [.int (xs (i + 2)), .int (xs (i + 1)), .ref 0]) (σ' := σ) (fun f => rfl) (by omega) (by omega) ?_
  refine pi_go 4 (pc' := 401) (l' := [some (.ref 1000), some (.ref 0), some (.ref 56), some (.int (nI i))]) (st' := [.int (nI i + nI 4), .ref 1000, .int (xs (i + 3)), .int (xs (i + 2)), .int (xs (i + 1)), .ref 0]) (σ' := σ) (fun f => rfl) ?_
  refine pi_tp (y := nI (i + 4)) (nI_add _ _) ?_
  refine pi_ai 1 (u := i + 4) (n := L) (g := xs) (pc' := 402) (l' := [some (.ref 1000), some (.ref 0), some (.ref 56), some (.int (nI i))]) (t := [.int (xs (i + 3)), .int (xs (i + 2)), .int (xs (i + 1)), .ref 0]) (σ' := σ) (fun f => rfl) (by omega) (by omega) ?_
  refine pi_ca 1 (m' := 68) (l' := [some (.ref 0), some (.int (xs (i + 1))), some (.int (xs (i + 2))), some (.int (xs (i + 3))), some (.int (xs (i + 4)))]) (σ' := σ) (pc2 := 405) (l2 := [some (.ref 1000), some (.ref 0), some (.ref 56), some (.int (nI i))]) (t := []) (fun f => rfl) (hA xs L _) ?_
  rintro _ s1 ⟨rfl, hR1, r1⟩
  refine pi_go 5 (pc' := 410) (l' := [some (.ref 1000), some (.ref 0), some (.ref 56), some (.int (nI i))]) (st' := [.int (nI i + nI 1), .ref 1000, .ref 56, .int v1]) (σ' := s1) (fun f => rfl) ?_
  refine pi_tp (y := nI (i + 1)) (nI_add _ _) ?_
  refine pi_ai 1 (u := i + 1) (n := L) (g := xs) (pc' := 411) (l' := [some (.ref 1000), some (.ref 0), some (.ref 56), some (.int (nI i))]) (t := [.ref 56, .int v1]) (σ' := s1) (fun f => rfl) (by omega) (by omega) ?_
  refine pi_go 4 (pc' := 415) (l' := [some (.ref 1000), some (.ref 0), some (.ref 56), some (.int (nI i))]) (st' := [.int (nI i + nI 2), .ref 1000, .int (xs (i + 1)), .ref 56, .int v1]) (σ' := s1) (fun f => rfl) ?_
  refine pi_tp (y := nI (i + 2)) (nI_add _ _) ?_
  refine pi_ai 1 (u := i + 2) (n := L) (g := xs) (pc' := 416) (l' := [some (.ref 1000), some (.ref 0), some (.ref 56), some (.int (nI i))]) (t := [.int (xs (i + 1)), .ref 56, .int v1]) (σ' := s1) (fun f => rfl) (by omega) (by omega) ?_
  refine pi_go 4 (pc' := 420) (l' := [some (.ref 1000), some (.ref 0), some (.ref 56), some (.int (nI i))]) (st' := [.int (nI i + nI 3), .ref 1000, .int (xs (i + 2)), .int (xs (i + 1)), .ref 56, .int v1]) (σ' := s1) (fun f => rfl) ?_
  refine pi_tp (y := nI (i + 3)) (nI_add _ _) ?_
  refine pi_ai 1 (u := i + 3) (n := L) (g := xs) (pc' := 421) (l' := [some (.ref 1000), some (.ref 0), some (.ref 56), some (.int (nI i))]) (t := [.int (xs (i + 2)), .int (xs (i + 1)), .ref 56, .int v1]) (σ' := s1) (fun f => rfl) (by omega) (by omega) ?_
  refine pi_go 4 (pc' := 425) (l' := [some (.ref 1000), some (.ref 0), some (.ref 56), some (.int (nI i))]) (st' := [.int (nI i + nI 4), .ref 1000, .int (xs (i + 3)), .int (xs (i + 2)), .int (xs (i + 1)), .ref 56, .int v1]) (σ' := s1) (fun f => rfl) ?_
  refine pi_tp (y := nI (i + 4)) (nI_add _ _) ?_
  refine pi_ai 1 (u := i + 4) (n := L) (g := xs) (pc' := 426) (l' := [some (.ref 1000), some (.ref 0), some (.ref 56), some (.int (nI i))]) (t := [.int (xs (i + 3)), .int (xs (i + 2)), .int (xs (i + 1)), .ref 56, .int v1]) (σ' := s1) (fun f => rfl) (by omega) (by omega) ?_
  refine pi_ca 1 (m' := 121) (l' := [some (.ref 56), some (.int (xs (i + 1))), some (.int (xs (i + 2))), some (.int (xs (i + 3))), some (.int (xs (i + 4)))]) (σ' := s1) (pc2 := 429) (l2 := [some (.ref 1000), some (.ref 0), some (.ref 56), some (.int (nI i))]) (t := [.int v1]) (fun f => rfl) (hB xs L _ s1 (hJ.2.1.fr r1)) ?_
  rintro _ s2 ⟨rfl, hM2, r2⟩
  refine pi_ct 1 (c := v1 = v1) (pc' := 1231) (l' := [some (.ref 1000), some (.ref 0), some (.ref 56), some (.int (nI i))]) (st' := []) (σ' := s2) (pc2 := 432) (l2 := [some (.ref 1000), some (.ref 0), some (.ref 56), some (.int (nI i))]) (st2 := []) (σ2 := s2) (fun f => rfl) (rfl) ?_
  exact hn W1 s2 ⟨hR1.fr r2, hM2, hn1⟩
set_option maxRecDepth 20000 in
theorem pi_L_sweep {xs : Nat → Int32} {L d : Nat} {W : zW} {σ : pi_S} {i : Nat} (hL : L ≤ 3072) (hi : i + 6 ≤ L) (hJ : z_J W σ) {Q : Option Value → pi_S → Prop} (hn : ∀ W s, z_J W s → pi_wp xs L (d + 12) 0 1231 [some (.ref 1000), some (.ref 0), some (.ref 56), some (.int (nI i))] [] s Q) : pi_wp xs L (d + 12) 0 434 [some (.ref 1000), some (.ref 0), some (.ref 56), some (.int (nI i))] [] σ Q := by
  obtain ⟨W1, v1, hn1, hA, hB⟩ := pi_J_sweep hJ (xs (i + 1)) (xs (i + 2))
  refine pi_go 5 (pc' := 439) (l' := [some (.ref 1000), some (.ref 0), some (.ref 56), some (.int (nI i))]) (st' := [.int (nI i + nI 1), .ref 1000, .ref 0]) (σ' := σ) (fun f => rfl) ?_
  refine pi_tp (y := nI (i + 1)) (nI_add _ _) ?_
  refine pi_ai 1 (u := i + 1) (n := L) (g := xs) (pc' := 440) (l' := [some (.ref 1000), some (.ref 0), some (.ref 56), some (.int (nI i))]) (t := [.ref 0]) (σ' := σ) (fun f => rfl) (by omega) (by omega) ?_
  refine pi_go 4 (pc' := 444) (l' := [some (.ref 1000), some (.ref 0), some (.ref 56), some (.int (nI i))]) (st' := [.int (nI i + nI 2), .ref 1000, .int (xs (i + 1)), .ref 0]) (σ' := σ) (fun f => rfl) ?_
  refine pi_tp (y := nI (i + 2)) (nI_add _ _) ?_
  refine pi_ai 1 (u := i + 2) (n := L) (g := xs) (pc' := 445) (l' := [some (.ref 1000), some (.ref 0), some (.ref 56), some (.int (nI i))]) (t := [.int (xs (i + 1)), .ref 0]) (σ' := σ) (fun f => rfl) (by omega) (by omega) ?_
  refine pi_ca 1 (m' := 69) (l' := [some (.ref 0), some (.int (xs (i + 1))), some (.int (xs (i + 2)))]) (σ' := σ) (pc2 := 448) (l2 := [some (.ref 1000), some (.ref 0), some (.ref 56), some (.int (nI i))]) (t := []) (fun f => rfl) (hA xs L _) ?_
  rintro _ s1 ⟨rfl, hR1, r1⟩
  refine pi_go 5 (pc' := 453) (l' := [some (.ref 1000), some (.ref 0), some (.ref 56), some (.int (nI i))]) (st' := [.int (nI i + nI 1), .ref 1000, .ref 56, .int v1]) (σ' := s1) (fun f => rfl) ?_
  refine pi_tp (y := nI (i + 1)) (nI_add _ _) ?_
  refine pi_ai 1 (u := i + 1) (n := L) (g := xs) (pc' := 454) (l' := [some (.ref 1000), some (.ref 0), some (.ref 56), some (.int (nI i))]) (t := [.ref 56, .int v1]) (σ' := s1) (fun f => rfl) (by omega) (by omega) ?_
  refine pi_go 4 (pc' := 458) (l' := [some (.ref 1000), some (.ref 0), some (.ref 56), some (.int (nI i))]) (st' := [.int (nI i + nI 2), .ref 1000, .int (xs (i + 1)), .ref 56, .int v1]) (σ' := s1) (fun f => rfl) ?_
  refine pi_tp (y := nI (i + 2)) (nI_add _ _) ?_
  refine pi_ai 1 (u := i + 2) (n := L) (g := xs) (pc' := 459) (l' := [some (.ref 1000), some (.ref 0), some (.ref 56), some (.int (nI i))]) (t := [.int (xs (i + 1)), .ref 56, .int v1]) (σ' := s1) (fun f => rfl) (by omega) (by omega) ?_
  refine pi_ca 1 (m' := 122) (l' := [some (.ref 56), some (.int (xs (i + 1))), some (.int (xs (i + 2)))]) (σ' := s1) (pc2 := 462) (l2 := [some (.ref 1000), some (.ref 0), some (.ref 56), some (.int (nI i))]) (t := [.int v1]) (fun f => rfl) (hB xs L _ s1 (hJ.2.1.fr r1)) ?_
  rintro _ s2 ⟨rfl, hM2, r2⟩
  refine pi_ct 1 (c := v1 = v1) (pc' := 1231) (l' := [some (.ref 1000), some (.ref 0), some (.ref 56), some (.int (nI i))]) (st' := []) (σ' := s2) (pc2 := 465) (l2 := [some (.ref 1000), some (.ref 0), some (.ref 56), some (.int (nI i))]) (st2 := []) (σ2 := s2) (fun f => rfl) (rfl) ?_
  exact hn W1 s2 ⟨hR1.fr r2, hM2, hn1⟩
set_option maxRecDepth 20000 in
theorem pi_L_cart {xs : Nat → Int32} {L d : Nat} {W : zW} {σ : pi_S} {i : Nat} (hL : L ≤ 3072) (hi : i + 6 ≤ L) (hJ : z_J W σ) {Q : Option Value → pi_S → Prop} (hn : ∀ W s, z_J W s → pi_wp xs L (d + 12) 0 1231 [some (.ref 1000), some (.ref 0), some (.ref 56), some (.int (nI i))] [] s Q) : pi_wp xs L (d + 12) 0 467 [some (.ref 1000), some (.ref 0), some (.ref 56), some (.int (nI i))] [] σ Q := by
  obtain ⟨W1, v1, hn1, hA, hB⟩ := pi_J_cart hJ (xs (i + 1)) (xs (i + 2))
  refine pi_go 5 (pc' := 472) (l' := [some (.ref 1000), some (.ref 0), some (.ref 56), some (.int (nI i))]) (st' := [.int (nI i + nI 1), .ref 1000, .ref 0]) (σ' := σ) (fun f => rfl) ?_
  refine pi_tp (y := nI (i + 1)) (nI_add _ _) ?_
  refine pi_ai 1 (u := i + 1) (n := L) (g := xs) (pc' := 473) (l' := [some (.ref 1000), some (.ref 0), some (.ref 56), some (.int (nI i))]) (t := [.ref 0]) (σ' := σ) (fun f => rfl) (by omega) (by omega) ?_
  refine pi_go 4 (pc' := 477) (l' := [some (.ref 1000), some (.ref 0), some (.ref 56), some (.int (nI i))]) (st' := [.int (nI i + nI 2), .ref 1000, .int (xs (i + 1)), .ref 0]) (σ' := σ) (fun f => rfl) ?_
  refine pi_tp (y := nI (i + 2)) (nI_add _ _) ?_
  refine pi_ai 1 (u := i + 2) (n := L) (g := xs) (pc' := 478) (l' := [some (.ref 1000), some (.ref 0), some (.ref 56), some (.int (nI i))]) (t := [.int (xs (i + 1)), .ref 0]) (σ' := σ) (fun f => rfl) (by omega) (by omega) ?_
  refine pi_ca 1 (m' := 70) (l' := [some (.ref 0), some (.int (xs (i + 1))), some (.int (xs (i + 2)))]) (σ' := σ) (pc2 := 481) (l2 := [some (.ref 1000), some (.ref 0), some (.ref 56), some (.int (nI i))]) (t := []) (fun f => rfl) (hA xs L _) ?_
  rintro _ s1 ⟨rfl, hR1, r1⟩
  refine pi_go 5 (pc' := 486) (l' := [some (.ref 1000), some (.ref 0), some (.ref 56), some (.int (nI i))]) (st' := [.int (nI i + nI 1), .ref 1000, .ref 56, .int v1]) (σ' := s1) (fun f => rfl) ?_
  refine pi_tp (y := nI (i + 1)) (nI_add _ _) ?_
  refine pi_ai 1 (u := i + 1) (n := L) (g := xs) (pc' := 487) (l' := [some (.ref 1000), some (.ref 0), some (.ref 56), some (.int (nI i))]) (t := [.ref 56, .int v1]) (σ' := s1) (fun f => rfl) (by omega) (by omega) ?_
  refine pi_go 4 (pc' := 491) (l' := [some (.ref 1000), some (.ref 0), some (.ref 56), some (.int (nI i))]) (st' := [.int (nI i + nI 2), .ref 1000, .int (xs (i + 1)), .ref 56, .int v1]) (σ' := s1) (fun f => rfl) ?_
  refine pi_tp (y := nI (i + 2)) (nI_add _ _) ?_
  refine pi_ai 1 (u := i + 2) (n := L) (g := xs) (pc' := 492) (l' := [some (.ref 1000), some (.ref 0), some (.ref 56), some (.int (nI i))]) (t := [.int (xs (i + 1)), .ref 56, .int v1]) (σ' := s1) (fun f => rfl) (by omega) (by omega) ?_
  refine pi_ca 1 (m' := 123) (l' := [some (.ref 56), some (.int (xs (i + 1))), some (.int (xs (i + 2)))]) (σ' := s1) (pc2 := 495) (l2 := [some (.ref 1000), some (.ref 0), some (.ref 56), some (.int (nI i))]) (t := [.int v1]) (fun f => rfl) (hB xs L _ s1 (hJ.2.1.fr r1)) ?_
  rintro _ s2 ⟨rfl, hM2, r2⟩
  refine pi_ct 1 (c := v1 = v1) (pc' := 1231) (l' := [some (.ref 1000), some (.ref 0), some (.ref 56), some (.int (nI i))]) (st' := []) (σ' := s2) (pc2 := 498) (l2 := [some (.ref 1000), some (.ref 0), some (.ref 56), some (.int (nI i))]) (st2 := []) (σ2 := s2) (fun f => rfl) (rfl) ?_
  exact hn W1 s2 ⟨hR1.fr r2, hM2, hn1⟩
set_option maxRecDepth 20000 in
theorem pi_L_rain {xs : Nat → Int32} {L d : Nat} {W : zW} {σ : pi_S} {i : Nat} (hL : L ≤ 3072) (hi : i + 6 ≤ L) (hJ : z_J W σ) {Q : Option Value → pi_S → Prop} (hn : ∀ W s, z_J W s → pi_wp xs L (d + 12) 0 1231 [some (.ref 1000), some (.ref 0), some (.ref 56), some (.int (nI i))] [] s Q) : pi_wp xs L (d + 12) 0 500 [some (.ref 1000), some (.ref 0), some (.ref 56), some (.int (nI i))] [] σ Q := by
  obtain ⟨W1, v1, hn1, hA, hB⟩ := pi_J_rain hJ (xs (i + 1)) (xs (i + 2))
  refine pi_go 5 (pc' := 505) (l' := [some (.ref 1000), some (.ref 0), some (.ref 56), some (.int (nI i))]) (st' := [.int (nI i + nI 1), .ref 1000, .ref 0]) (σ' := σ) (fun f => rfl) ?_
  refine pi_tp (y := nI (i + 1)) (nI_add _ _) ?_
  refine pi_ai 1 (u := i + 1) (n := L) (g := xs) (pc' := 506) (l' := [some (.ref 1000), some (.ref 0), some (.ref 56), some (.int (nI i))]) (t := [.ref 0]) (σ' := σ) (fun f => rfl) (by omega) (by omega) ?_
  refine pi_go 4 (pc' := 510) (l' := [some (.ref 1000), some (.ref 0), some (.ref 56), some (.int (nI i))]) (st' := [.int (nI i + nI 2), .ref 1000, .int (xs (i + 1)), .ref 0]) (σ' := σ) (fun f => rfl) ?_
  refine pi_tp (y := nI (i + 2)) (nI_add _ _) ?_
  refine pi_ai 1 (u := i + 2) (n := L) (g := xs) (pc' := 511) (l' := [some (.ref 1000), some (.ref 0), some (.ref 56), some (.int (nI i))]) (t := [.int (xs (i + 1)), .ref 0]) (σ' := σ) (fun f => rfl) (by omega) (by omega) ?_
  refine pi_ca 1 (m' := 71) (l' := [some (.ref 0), some (.int (xs (i + 1))), some (.int (xs (i + 2))), none]) (σ' := σ) (pc2 := 514) (l2 := [some (.ref 1000), some (.ref 0), some (.ref 56), some (.int (nI i))]) (t := []) (fun f => rfl) (hA xs L _) ?_
  rintro _ s1 ⟨rfl, hR1, r1⟩
  refine pi_go 5 (pc' := 519) (l' := [some (.ref 1000), some (.ref 0), some (.ref 56), some (.int (nI i))]) (st' := [.int (nI i + nI 1), .ref 1000, .ref 56, .int v1]) (σ' := s1) (fun f => rfl) ?_
  refine pi_tp (y := nI (i + 1)) (nI_add _ _) ?_
  refine pi_ai 1 (u := i + 1) (n := L) (g := xs) (pc' := 520) (l' := [some (.ref 1000), some (.ref 0), some (.ref 56), some (.int (nI i))]) (t := [.ref 56, .int v1]) (σ' := s1) (fun f => rfl) (by omega) (by omega) ?_
  refine pi_go 4 (pc' := 524) (l' := [some (.ref 1000), some (.ref 0), some (.ref 56), some (.int (nI i))]) (st' := [.int (nI i + nI 2), .ref 1000, .int (xs (i + 1)), .ref 56, .int v1]) (σ' := s1) (fun f => rfl) ?_
  refine pi_tp (y := nI (i + 2)) (nI_add _ _) ?_
  refine pi_ai 1 (u := i + 2) (n := L) (g := xs) (pc' := 525) (l' := [some (.ref 1000), some (.ref 0), some (.ref 56), some (.int (nI i))]) (t := [.int (xs (i + 1)), .ref 56, .int v1]) (σ' := s1) (fun f => rfl) (by omega) (by omega) ?_
  refine pi_ca 1 (m' := 124) (l' := [some (.ref 56), some (.int (xs (i + 1))), some (.int (xs (i + 2))), none]) (σ' := s1) (pc2 := 528) (l2 := [some (.ref 1000), some (.ref 0), some (.ref 56), some (.int (nI i))]) (t := [.int v1]) (fun f => rfl) (hB xs L _ s1 (hJ.2.1.fr r1)) ?_
  rintro _ s2 ⟨rfl, hM2, r2⟩
  refine pi_ct 1 (c := v1 = v1) (pc' := 1231) (l' := [some (.ref 1000), some (.ref 0), some (.ref 56), some (.int (nI i))]) (st' := []) (σ' := s2) (pc2 := 531) (l2 := [some (.ref 1000), some (.ref 0), some (.ref 56), some (.int (nI i))]) (st2 := []) (σ2 := s2) (fun f => rfl) (rfl) ?_
  exact hn W1 s2 ⟨hR1.fr r2, hM2, hn1⟩
set_option maxRecDepth 20000 in
theorem pi_L_undo {xs : Nat → Int32} {L d : Nat} {W : zW} {σ : pi_S} {i : Nat} (hL : L ≤ 3072) (hi : i + 6 ≤ L) (hJ : z_J W σ) {Q : Option Value → pi_S → Prop} (hn : ∀ W s, z_J W s → pi_wp xs L (d + 12) 0 1231 [some (.ref 1000), some (.ref 0), some (.ref 56), some (.int (nI i))] [] s Q) : pi_wp xs L (d + 12) 0 533 [some (.ref 1000), some (.ref 0), some (.ref 56), some (.int (nI i))] [] σ Q := by
  obtain ⟨W1, v1, hn1, hA, hB⟩ := pi_J_undo hJ (xs (i + 1))
  refine pi_go 5 (pc' := 538) (l' := [some (.ref 1000), some (.ref 0), some (.ref 56), some (.int (nI i))]) (st' := [.int (nI i + nI 1), .ref 1000, .ref 0]) (σ' := σ) (fun f => rfl) ?_
  refine pi_tp (y := nI (i + 1)) (nI_add _ _) ?_
  refine pi_ai 1 (u := i + 1) (n := L) (g := xs) (pc' := 539) (l' := [some (.ref 1000), some (.ref 0), some (.ref 56), some (.int (nI i))]) (t := [.ref 0]) (σ' := σ) (fun f => rfl) (by omega) (by omega) ?_
  refine pi_ca 1 (m' := 72) (l' := [some (.ref 0), some (.int (xs (i + 1)))]) (σ' := σ) (pc2 := 542) (l2 := [some (.ref 1000), some (.ref 0), some (.ref 56), some (.int (nI i))]) (t := []) (fun f => rfl) (hA xs L _) ?_
  rintro _ s1 ⟨rfl, hR1, r1⟩
  refine pi_go 5 (pc' := 547) (l' := [some (.ref 1000), some (.ref 0), some (.ref 56), some (.int (nI i))]) (st' := [.int (nI i + nI 1), .ref 1000, .ref 56, .int v1]) (σ' := s1) (fun f => rfl) ?_
  refine pi_tp (y := nI (i + 1)) (nI_add _ _) ?_
  refine pi_ai 1 (u := i + 1) (n := L) (g := xs) (pc' := 548) (l' := [some (.ref 1000), some (.ref 0), some (.ref 56), some (.int (nI i))]) (t := [.ref 56, .int v1]) (σ' := s1) (fun f => rfl) (by omega) (by omega) ?_
  refine pi_ca 1 (m' := 125) (l' := [some (.ref 56), some (.int (xs (i + 1))), none]) (σ' := s1) (pc2 := 551) (l2 := [some (.ref 1000), some (.ref 0), some (.ref 56), some (.int (nI i))]) (t := [.int v1]) (fun f => rfl) (hB xs L _ s1 (hJ.2.1.fr r1)) ?_
  rintro _ s2 ⟨rfl, hM2, r2⟩
  refine pi_ct 1 (c := v1 = v1) (pc' := 1231) (l' := [some (.ref 1000), some (.ref 0), some (.ref 56), some (.int (nI i))]) (st' := []) (σ' := s2) (pc2 := 554) (l2 := [some (.ref 1000), some (.ref 0), some (.ref 56), some (.int (nI i))]) (st2 := []) (σ2 := s2) (fun f => rfl) (rfl) ?_
  exact hn W1 s2 ⟨hR1.fr r2, hM2, hn1⟩
set_option maxRecDepth 20000 in
theorem pi_L_lies {xs : Nat → Int32} {L d : Nat} {W : zW} {σ : pi_S} {i : Nat} (hL : L ≤ 3072) (hi : i + 6 ≤ L) (hJ : z_J W σ) {Q : Option Value → pi_S → Prop} (hn : ∀ W s, z_J W s → pi_wp xs L (d + 12) 0 1231 [some (.ref 1000), some (.ref 0), some (.ref 56), some (.int (nI i))] [] s Q) : pi_wp xs L (d + 12) 0 556 [some (.ref 1000), some (.ref 0), some (.ref 56), some (.int (nI i))] [] σ Q := by
  obtain ⟨W1, v1, hn1, hA, hB⟩ := pi_J_lies hJ (xs (i + 1)) (xs (i + 2)) (xs (i + 3))
  refine pi_go 5 (pc' := 561) (l' := [some (.ref 1000), some (.ref 0), some (.ref 56), some (.int (nI i))]) (st' := [.int (nI i + nI 1), .ref 1000, .ref 0]) (σ' := σ) (fun f => rfl) ?_
  refine pi_tp (y := nI (i + 1)) (nI_add _ _) ?_
  refine pi_ai 1 (u := i + 1) (n := L) (g := xs) (pc' := 562) (l' := [some (.ref 1000), some (.ref 0), some (.ref 56), some (.int (nI i))]) (t := [.ref 0]) (σ' := σ) (fun f => rfl) (by omega) (by omega) ?_
  refine pi_go 4 (pc' := 566) (l' := [some (.ref 1000), some (.ref 0), some (.ref 56), some (.int (nI i))]) (st' := [.int (nI i + nI 2), .ref 1000, .int (xs (i + 1)), .ref 0]) (σ' := σ) (fun f => rfl) ?_
  refine pi_tp (y := nI (i + 2)) (nI_add _ _) ?_
  refine pi_ai 1 (u := i + 2) (n := L) (g := xs) (pc' := 567) (l' := [some (.ref 1000), some (.ref 0), some (.ref 56), some (.int (nI i))]) (t := [.int (xs (i + 1)), .ref 0]) (σ' := σ) (fun f => rfl) (by omega) (by omega) ?_
  refine pi_go 4 (pc' := 571) (l' := [some (.ref 1000), some (.ref 0), some (.ref 56), some (.int (nI i))]) (st' := [.int (nI i + nI 3), .ref 1000, .int (xs (i + 2)), .int (xs (i + 1)), .ref 0]) (σ' := σ) (fun f => rfl) ?_
  refine pi_tp (y := nI (i + 3)) (nI_add _ _) ?_
  refine pi_ai 1 (u := i + 3) (n := L) (g := xs) (pc' := 572) (l' := [some (.ref 1000), some (.ref 0), some (.ref 56), some (.int (nI i))]) (t := [.int (xs (i + 2)), .int (xs (i + 1)), .ref 0]) (σ' := σ) (fun f => rfl) (by omega) (by omega) ?_
  refine pi_ca 1 (m' := 73) (l' := [some (.ref 0), some (.int (xs (i + 1))), some (.int (xs (i + 2))), some (.int (xs (i + 3))), none]) (σ' := σ) (pc2 := 575) (l2 := [some (.ref 1000), some (.ref 0), some (.ref 56), some (.int (nI i))]) (t := []) (fun f => rfl) (hA xs L _) ?_
  rintro _ s1 ⟨rfl, hR1, r1⟩
  refine pi_go 5 (pc' := 580) (l' := [some (.ref 1000), some (.ref 0), some (.ref 56), some (.int (nI i))]) (st' := [.int (nI i + nI 1), .ref 1000, .ref 56, .int v1]) (σ' := s1) (fun f => rfl) ?_
  refine pi_tp (y := nI (i + 1)) (nI_add _ _) ?_
  refine pi_ai 1 (u := i + 1) (n := L) (g := xs) (pc' := 581) (l' := [some (.ref 1000), some (.ref 0), some (.ref 56), some (.int (nI i))]) (t := [.ref 56, .int v1]) (σ' := s1) (fun f => rfl) (by omega) (by omega) ?_
  refine pi_go 4 (pc' := 585) (l' := [some (.ref 1000), some (.ref 0), some (.ref 56), some (.int (nI i))]) (st' := [.int (nI i + nI 2), .ref 1000, .int (xs (i + 1)), .ref 56, .int v1]) (σ' := s1) (fun f => rfl) ?_
  refine pi_tp (y := nI (i + 2)) (nI_add _ _) ?_
  refine pi_ai 1 (u := i + 2) (n := L) (g := xs) (pc' := 586) (l' := [some (.ref 1000), some (.ref 0), some (.ref 56), some (.int (nI i))]) (t := [.int (xs (i + 1)), .ref 56, .int v1]) (σ' := s1) (fun f => rfl) (by omega) (by omega) ?_
  refine pi_go 4 (pc' := 590) (l' := [some (.ref 1000), some (.ref 0), some (.ref 56), some (.int (nI i))]) (st' := [.int (nI i + nI 3), .ref 1000, .int (xs (i + 2)), .int (xs (i + 1)), .ref 56, .int v1]) (σ' := s1) (fun f => rfl) ?_
  refine pi_tp (y := nI (i + 3)) (nI_add _ _) ?_
  refine pi_ai 1 (u := i + 3) (n := L) (g := xs) (pc' := 591) (l' := [some (.ref 1000), some (.ref 0), some (.ref 56), some (.int (nI i))]) (t := [.int (xs (i + 2)), .int (xs (i + 1)), .ref 56, .int v1]) (σ' := s1) (fun f => rfl) (by omega) (by omega) ?_
  refine pi_ca 1 (m' := 134) (l' := [some (.ref 56), some (.int (xs (i + 1))), some (.int (xs (i + 2))), some (.int (xs (i + 3)))]) (σ' := s1) (pc2 := 594) (l2 := [some (.ref 1000), some (.ref 0), some (.ref 56), some (.int (nI i))]) (t := [.int v1]) (fun f => rfl) (hB xs L _ s1 (hJ.2.1.fr r1)) ?_
  rintro _ s2 ⟨rfl, hM2, r2⟩
  refine pi_ct 1 (c := v1 = v1) (pc' := 1231) (l' := [some (.ref 1000), some (.ref 0), some (.ref 56), some (.int (nI i))]) (st' := []) (σ' := s2) (pc2 := 597) (l2 := [some (.ref 1000), some (.ref 0), some (.ref 56), some (.int (nI i))]) (st2 := []) (σ2 := s2) (fun f => rfl) (rfl) ?_
  exact hn W1 s2 ⟨hR1.fr r2, hM2, hn1⟩
set_option maxRecDepth 20000 in
theorem pi_L_fine {xs : Nat → Int32} {L d : Nat} {W : zW} {σ : pi_S} {i : Nat} (hL : L ≤ 3072) (hi : i + 6 ≤ L) (hJ : z_J W σ) {Q : Option Value → pi_S → Prop} (hn : ∀ W s, z_J W s → pi_wp xs L (d + 12) 0 1231 [some (.ref 1000), some (.ref 0), some (.ref 56), some (.int (nI i))] [] s Q) : pi_wp xs L (d + 12) 0 599 [some (.ref 1000), some (.ref 0), some (.ref 56), some (.int (nI i))] [] σ Q := by
  obtain ⟨W1, v1, hn1, hA, hB⟩ := pi_J_fine hJ (xs (i + 1))
  refine pi_go 5 (pc' := 604) (l' := [some (.ref 1000), some (.ref 0), some (.ref 56), some (.int (nI i))]) (st' := [.int (nI i + nI 1), .ref 1000, .ref 0]) (σ' := σ) (fun f => rfl) ?_
  refine pi_tp (y := nI (i + 1)) (nI_add _ _) ?_
  refine pi_ai 1 (u := i + 1) (n := L) (g := xs) (pc' := 605) (l' := [some (.ref 1000), some (.ref 0), some (.ref 56), some (.int (nI i))]) (t := [.ref 0]) (σ' := σ) (fun f => rfl) (by omega) (by omega) ?_
  refine pi_ca 1 (m' := 74) (l' := [some (.ref 0), some (.int (xs (i + 1)))]) (σ' := σ) (pc2 := 608) (l2 := [some (.ref 1000), some (.ref 0), some (.ref 56), some (.int (nI i))]) (t := []) (fun f => rfl) (hA xs L _) ?_
  rintro _ s1 ⟨rfl, hR1, r1⟩
  refine pi_go 5 (pc' := 613) (l' := [some (.ref 1000), some (.ref 0), some (.ref 56), some (.int (nI i))]) (st' := [.int (nI i + nI 1), .ref 1000, .ref 56, .int v1]) (σ' := s1) (fun f => rfl) ?_
  refine pi_tp (y := nI (i + 1)) (nI_add _ _) ?_
  refine pi_ai 1 (u := i + 1) (n := L) (g := xs) (pc' := 614) (l' := [some (.ref 1000), some (.ref 0), some (.ref 56), some (.int (nI i))]) (t := [.ref 56, .int v1]) (σ' := s1) (fun f => rfl) (by omega) (by omega) ?_
  refine pi_ca 1 (m' := 138) (l' := [some (.ref 56), some (.int (xs (i + 1)))]) (σ' := s1) (pc2 := 617) (l2 := [some (.ref 1000), some (.ref 0), some (.ref 56), some (.int (nI i))]) (t := [.int v1]) (fun f => rfl) (hB xs L _ s1 (hJ.2.1.fr r1)) ?_
  rintro _ s2 ⟨rfl, hM2, r2⟩
  refine pi_ct 1 (c := v1 = v1) (pc' := 1231) (l' := [some (.ref 1000), some (.ref 0), some (.ref 56), some (.int (nI i))]) (st' := []) (σ' := s2) (pc2 := 620) (l2 := [some (.ref 1000), some (.ref 0), some (.ref 56), some (.int (nI i))]) (st2 := []) (σ2 := s2) (fun f => rfl) (rfl) ?_
  exact hn W1 s2 ⟨hR1.fr r2, hM2, hn1⟩
set_option maxRecDepth 20000 in
theorem pi_L_judged {xs : Nat → Int32} {L d : Nat} {W : zW} {σ : pi_S} {i : Nat} (hL : L ≤ 3072) (hi : i + 6 ≤ L) (hJ : z_J W σ) {Q : Option Value → pi_S → Prop} (hn : ∀ W s, z_J W s → pi_wp xs L (d + 12) 0 1231 [some (.ref 1000), some (.ref 0), some (.ref 56), some (.int (nI i))] [] s Q) : pi_wp xs L (d + 12) 0 622 [some (.ref 1000), some (.ref 0), some (.ref 56), some (.int (nI i))] [] σ Q := by
  obtain ⟨W1, v1, hn1, hA, hB⟩ := pi_J_judged hJ
  refine pi_ca 2 (m' := 75) (l' := [some (.ref 0)]) (σ' := σ) (pc2 := 626) (l2 := [some (.ref 1000), some (.ref 0), some (.ref 56), some (.int (nI i))]) (t := []) (fun f => rfl) (hA xs L _) ?_
  rintro _ s1 ⟨rfl, hR1, r1⟩
  refine pi_ca 2 (m' := 140) (l' := [some (.ref 56)]) (σ' := s1) (pc2 := 630) (l2 := [some (.ref 1000), some (.ref 0), some (.ref 56), some (.int (nI i))]) (t := [.int v1]) (fun f => rfl) (hB xs L _ s1 (hJ.2.1.fr r1)) ?_
  rintro _ s2 ⟨rfl, hM2, r2⟩
  refine pi_ct 1 (c := v1 = v1) (pc' := 1231) (l' := [some (.ref 1000), some (.ref 0), some (.ref 56), some (.int (nI i))]) (st' := []) (σ' := s2) (pc2 := 633) (l2 := [some (.ref 1000), some (.ref 0), some (.ref 56), some (.int (nI i))]) (st2 := []) (σ2 := s2) (fun f => rfl) (rfl) ?_
  exact hn W1 s2 ⟨hR1.fr r2, hM2, hn1⟩
set_option maxRecDepth 20000 in
theorem pi_L_least {xs : Nat → Int32} {L d : Nat} {W : zW} {σ : pi_S} {i : Nat} (hL : L ≤ 3072) (hi : i + 6 ≤ L) (hJ : z_J W σ) {Q : Option Value → pi_S → Prop} (hn : ∀ W s, z_J W s → pi_wp xs L (d + 12) 0 1231 [some (.ref 1000), some (.ref 0), some (.ref 56), some (.int (nI i))] [] s Q) : pi_wp xs L (d + 12) 0 635 [some (.ref 1000), some (.ref 0), some (.ref 56), some (.int (nI i))] [] σ Q := by
  obtain ⟨W1, v1, hn1, hA, hB⟩ := pi_J_least hJ (xs (i + 1)) (xs (i + 2))
  refine pi_go 5 (pc' := 640) (l' := [some (.ref 1000), some (.ref 0), some (.ref 56), some (.int (nI i))]) (st' := [.int (nI i + nI 1), .ref 1000, .ref 0]) (σ' := σ) (fun f => rfl) ?_
  refine pi_tp (y := nI (i + 1)) (nI_add _ _) ?_
  refine pi_ai 1 (u := i + 1) (n := L) (g := xs) (pc' := 641) (l' := [some (.ref 1000), some (.ref 0), some (.ref 56), some (.int (nI i))]) (t := [.ref 0]) (σ' := σ) (fun f => rfl) (by omega) (by omega) ?_
  refine pi_go 4 (pc' := 645) (l' := [some (.ref 1000), some (.ref 0), some (.ref 56), some (.int (nI i))]) (st' := [.int (nI i + nI 2), .ref 1000, .int (xs (i + 1)), .ref 0]) (σ' := σ) (fun f => rfl) ?_
  refine pi_tp (y := nI (i + 2)) (nI_add _ _) ?_
  refine pi_ai 1 (u := i + 2) (n := L) (g := xs) (pc' := 646) (l' := [some (.ref 1000), some (.ref 0), some (.ref 56), some (.int (nI i))]) (t := [.int (xs (i + 1)), .ref 0]) (σ' := σ) (fun f => rfl) (by omega) (by omega) ?_
  refine pi_ca 1 (m' := 76) (l' := [some (.ref 0), some (.int (xs (i + 1))), some (.int (xs (i + 2)))]) (σ' := σ) (pc2 := 649) (l2 := [some (.ref 1000), some (.ref 0), some (.ref 56), some (.int (nI i))]) (t := []) (fun f => rfl) (hA xs L _) ?_
  rintro _ s1 ⟨rfl, hR1, r1⟩
  refine pi_go 5 (pc' := 654) (l' := [some (.ref 1000), some (.ref 0), some (.ref 56), some (.int (nI i))]) (st' := [.int (nI i + nI 1), .ref 1000, .ref 56, .int v1]) (σ' := s1) (fun f => rfl) ?_
  refine pi_tp (y := nI (i + 1)) (nI_add _ _) ?_
  refine pi_ai 1 (u := i + 1) (n := L) (g := xs) (pc' := 655) (l' := [some (.ref 1000), some (.ref 0), some (.ref 56), some (.int (nI i))]) (t := [.ref 56, .int v1]) (σ' := s1) (fun f => rfl) (by omega) (by omega) ?_
  refine pi_go 4 (pc' := 659) (l' := [some (.ref 1000), some (.ref 0), some (.ref 56), some (.int (nI i))]) (st' := [.int (nI i + nI 2), .ref 1000, .int (xs (i + 1)), .ref 56, .int v1]) (σ' := s1) (fun f => rfl) ?_
  refine pi_tp (y := nI (i + 2)) (nI_add _ _) ?_
  refine pi_ai 1 (u := i + 2) (n := L) (g := xs) (pc' := 660) (l' := [some (.ref 1000), some (.ref 0), some (.ref 56), some (.int (nI i))]) (t := [.int (xs (i + 1)), .ref 56, .int v1]) (σ' := s1) (fun f => rfl) (by omega) (by omega) ?_
  refine pi_ca 1 (m' := 142) (l' := [some (.ref 56), some (.int (xs (i + 1))), some (.int (xs (i + 2)))]) (σ' := s1) (pc2 := 663) (l2 := [some (.ref 1000), some (.ref 0), some (.ref 56), some (.int (nI i))]) (t := [.int v1]) (fun f => rfl) (hB xs L _ s1 (hJ.2.1.fr r1)) ?_
  rintro _ s2 ⟨rfl, hM2, r2⟩
  refine pi_ct 1 (c := v1 = v1) (pc' := 1231) (l' := [some (.ref 1000), some (.ref 0), some (.ref 56), some (.int (nI i))]) (st' := []) (σ' := s2) (pc2 := 666) (l2 := [some (.ref 1000), some (.ref 0), some (.ref 56), some (.int (nI i))]) (st2 := []) (σ2 := s2) (fun f => rfl) (rfl) ?_
  exact hn W1 s2 ⟨hR1.fr r2, hM2, hn1⟩
set_option maxRecDepth 20000 in
theorem pi_L_nets {xs : Nat → Int32} {L d : Nat} {W : zW} {σ : pi_S} {i : Nat} (hL : L ≤ 3072) (hi : i + 6 ≤ L) (hJ : z_J W σ) {Q : Option Value → pi_S → Prop} (hn : ∀ W s, z_J W s → pi_wp xs L (d + 12) 0 1231 [some (.ref 1000), some (.ref 0), some (.ref 56), some (.int (nI i))] [] s Q) : pi_wp xs L (d + 12) 0 668 [some (.ref 1000), some (.ref 0), some (.ref 56), some (.int (nI i))] [] σ Q := by
  obtain ⟨W1, v1, hn1, hA, hB⟩ := pi_J_nets hJ (xs (i + 1)) (xs (i + 2))
  refine pi_go 5 (pc' := 673) (l' := [some (.ref 1000), some (.ref 0), some (.ref 56), some (.int (nI i))]) (st' := [.int (nI i + nI 1), .ref 1000, .ref 0]) (σ' := σ) (fun f => rfl) ?_
  refine pi_tp (y := nI (i + 1)) (nI_add _ _) ?_
  refine pi_ai 1 (u := i + 1) (n := L) (g := xs) (pc' := 674) (l' := [some (.ref 1000), some (.ref 0), some (.ref 56), some (.int (nI i))]) (t := [.ref 0]) (σ' := σ) (fun f => rfl) (by omega) (by omega) ?_
  refine pi_go 4 (pc' := 678) (l' := [some (.ref 1000), some (.ref 0), some (.ref 56), some (.int (nI i))]) (st' := [.int (nI i + nI 2), .ref 1000, .int (xs (i + 1)), .ref 0]) (σ' := σ) (fun f => rfl) ?_
  refine pi_tp (y := nI (i + 2)) (nI_add _ _) ?_
  refine pi_ai 1 (u := i + 2) (n := L) (g := xs) (pc' := 679) (l' := [some (.ref 1000), some (.ref 0), some (.ref 56), some (.int (nI i))]) (t := [.int (xs (i + 1)), .ref 0]) (σ' := σ) (fun f => rfl) (by omega) (by omega) ?_
  refine pi_ca 1 (m' := 77) (l' := [some (.ref 0), some (.int (xs (i + 1))), some (.int (xs (i + 2)))]) (σ' := σ) (pc2 := 682) (l2 := [some (.ref 1000), some (.ref 0), some (.ref 56), some (.int (nI i))]) (t := []) (fun f => rfl) (hA xs L _) ?_
  rintro _ s1 ⟨rfl, hR1, r1⟩
  refine pi_go 5 (pc' := 687) (l' := [some (.ref 1000), some (.ref 0), some (.ref 56), some (.int (nI i))]) (st' := [.int (nI i + nI 1), .ref 1000, .ref 56, .int v1]) (σ' := s1) (fun f => rfl) ?_
  refine pi_tp (y := nI (i + 1)) (nI_add _ _) ?_
  refine pi_ai 1 (u := i + 1) (n := L) (g := xs) (pc' := 688) (l' := [some (.ref 1000), some (.ref 0), some (.ref 56), some (.int (nI i))]) (t := [.ref 56, .int v1]) (σ' := s1) (fun f => rfl) (by omega) (by omega) ?_
  refine pi_go 4 (pc' := 692) (l' := [some (.ref 1000), some (.ref 0), some (.ref 56), some (.int (nI i))]) (st' := [.int (nI i + nI 2), .ref 1000, .int (xs (i + 1)), .ref 56, .int v1]) (σ' := s1) (fun f => rfl) ?_
  refine pi_tp (y := nI (i + 2)) (nI_add _ _) ?_
  refine pi_ai 1 (u := i + 2) (n := L) (g := xs) (pc' := 693) (l' := [some (.ref 1000), some (.ref 0), some (.ref 56), some (.int (nI i))]) (t := [.int (xs (i + 1)), .ref 56, .int v1]) (σ' := s1) (fun f => rfl) (by omega) (by omega) ?_
  refine pi_ca 1 (m' := 145) (l' := [some (.ref 56), some (.int (xs (i + 1))), some (.int (xs (i + 2)))]) (σ' := s1) (pc2 := 696) (l2 := [some (.ref 1000), some (.ref 0), some (.ref 56), some (.int (nI i))]) (t := [.int v1]) (fun f => rfl) (hB xs L _ s1 (hJ.2.1.fr r1)) ?_
  rintro _ s2 ⟨rfl, hM2, r2⟩
  refine pi_ct 1 (c := v1 = v1) (pc' := 1231) (l' := [some (.ref 1000), some (.ref 0), some (.ref 56), some (.int (nI i))]) (st' := []) (σ' := s2) (pc2 := 699) (l2 := [some (.ref 1000), some (.ref 0), some (.ref 56), some (.int (nI i))]) (st2 := []) (σ2 := s2) (fun f => rfl) (rfl) ?_
  exact hn W1 s2 ⟨hR1.fr r2, hM2, hn1⟩
set_option maxRecDepth 20000 in
theorem pi_L_cut {xs : Nat → Int32} {L d : Nat} {W : zW} {σ : pi_S} {i : Nat} (hL : L ≤ 3072) (hi : i + 6 ≤ L) (hJ : z_J W σ) {Q : Option Value → pi_S → Prop} (hn : ∀ W s, z_J W s → pi_wp xs L (d + 12) 0 1231 [some (.ref 1000), some (.ref 0), some (.ref 56), some (.int (nI i))] [] s Q) : pi_wp xs L (d + 12) 0 701 [some (.ref 1000), some (.ref 0), some (.ref 56), some (.int (nI i))] [] σ Q := by
  obtain ⟨W1, v1, hn1, hA, hB⟩ := pi_J_cut hJ (xs (i + 1)) (xs (i + 2)) (xs (i + 3))
  refine pi_go 5 (pc' := 706) (l' := [some (.ref 1000), some (.ref 0), some (.ref 56), some (.int (nI i))]) (st' := [.int (nI i + nI 1), .ref 1000, .ref 0]) (σ' := σ) (fun f => rfl) ?_
  refine pi_tp (y := nI (i + 1)) (nI_add _ _) ?_
  refine pi_ai 1 (u := i + 1) (n := L) (g := xs) (pc' := 707) (l' := [some (.ref 1000), some (.ref 0), some (.ref 56), some (.int (nI i))]) (t := [.ref 0]) (σ' := σ) (fun f => rfl) (by omega) (by omega) ?_
  refine pi_go 4 (pc' := 711) (l' := [some (.ref 1000), some (.ref 0), some (.ref 56), some (.int (nI i))]) (st' := [.int (nI i + nI 2), .ref 1000, .int (xs (i + 1)), .ref 0]) (σ' := σ) (fun f => rfl) ?_
  refine pi_tp (y := nI (i + 2)) (nI_add _ _) ?_
  refine pi_ai 1 (u := i + 2) (n := L) (g := xs) (pc' := 712) (l' := [some (.ref 1000), some (.ref 0), some (.ref 56), some (.int (nI i))]) (t := [.int (xs (i + 1)), .ref 0]) (σ' := σ) (fun f => rfl) (by omega) (by omega) ?_
  refine pi_go 4 (pc' := 716) (l' := [some (.ref 1000), some (.ref 0), some (.ref 56), some (.int (nI i))]) (st' := [.int (nI i + nI 3), .ref 1000, .int (xs (i + 2)), .int (xs (i + 1)), .ref 0]) (σ' := σ) (fun f => rfl) ?_
  refine pi_tp (y := nI (i + 3)) (nI_add _ _) ?_
  refine pi_ai 1 (u := i + 3) (n := L) (g := xs) (pc' := 717) (l' := [some (.ref 1000), some (.ref 0), some (.ref 56), some (.int (nI i))]) (t := [.int (xs (i + 2)), .int (xs (i + 1)), .ref 0]) (σ' := σ) (fun f => rfl) (by omega) (by omega) ?_
  refine pi_ca 1 (m' := 78) (l' := [some (.ref 0), some (.int (xs (i + 1))), some (.int (xs (i + 2))), some (.int (xs (i + 3))), none]) (σ' := σ) (pc2 := 720) (l2 := [some (.ref 1000), some (.ref 0), some (.ref 56), some (.int (nI i))]) (t := []) (fun f => rfl) (hA xs L _) ?_
  rintro _ s1 ⟨rfl, hR1, r1⟩
  refine pi_go 5 (pc' := 725) (l' := [some (.ref 1000), some (.ref 0), some (.ref 56), some (.int (nI i))]) (st' := [.int (nI i + nI 1), .ref 1000, .ref 56, .int v1]) (σ' := s1) (fun f => rfl) ?_
  refine pi_tp (y := nI (i + 1)) (nI_add _ _) ?_
  refine pi_ai 1 (u := i + 1) (n := L) (g := xs) (pc' := 726) (l' := [some (.ref 1000), some (.ref 0), some (.ref 56), some (.int (nI i))]) (t := [.ref 56, .int v1]) (σ' := s1) (fun f => rfl) (by omega) (by omega) ?_
  refine pi_go 4 (pc' := 730) (l' := [some (.ref 1000), some (.ref 0), some (.ref 56), some (.int (nI i))]) (st' := [.int (nI i + nI 2), .ref 1000, .int (xs (i + 1)), .ref 56, .int v1]) (σ' := s1) (fun f => rfl) ?_
  refine pi_tp (y := nI (i + 2)) (nI_add _ _) ?_
  refine pi_ai 1 (u := i + 2) (n := L) (g := xs) (pc' := 731) (l' := [some (.ref 1000), some (.ref 0), some (.ref 56), some (.int (nI i))]) (t := [.int (xs (i + 1)), .ref 56, .int v1]) (σ' := s1) (fun f => rfl) (by omega) (by omega) ?_
  refine pi_go 4 (pc' := 735) (l' := [some (.ref 1000), some (.ref 0), some (.ref 56), some (.int (nI i))]) (st' := [.int (nI i + nI 3), .ref 1000, .int (xs (i + 2)), .int (xs (i + 1)), .ref 56, .int v1]) (σ' := s1) (fun f => rfl) ?_
  refine pi_tp (y := nI (i + 3)) (nI_add _ _) ?_
  refine pi_ai 1 (u := i + 3) (n := L) (g := xs) (pc' := 736) (l' := [some (.ref 1000), some (.ref 0), some (.ref 56), some (.int (nI i))]) (t := [.int (xs (i + 2)), .int (xs (i + 1)), .ref 56, .int v1]) (σ' := s1) (fun f => rfl) (by omega) (by omega) ?_
  refine pi_ca 1 (m' := 147) (l' := [some (.ref 56), some (.int (xs (i + 1))), some (.int (xs (i + 2))), some (.int (xs (i + 3)))]) (σ' := s1) (pc2 := 739) (l2 := [some (.ref 1000), some (.ref 0), some (.ref 56), some (.int (nI i))]) (t := [.int v1]) (fun f => rfl) (hB xs L _ s1 (hJ.2.1.fr r1)) ?_
  rintro _ s2 ⟨rfl, hM2, r2⟩
  refine pi_ct 1 (c := v1 = v1) (pc' := 1231) (l' := [some (.ref 1000), some (.ref 0), some (.ref 56), some (.int (nI i))]) (st' := []) (σ' := s2) (pc2 := 742) (l2 := [some (.ref 1000), some (.ref 0), some (.ref 56), some (.int (nI i))]) (st2 := []) (σ2 := s2) (fun f => rfl) (rfl) ?_
  exact hn W1 s2 ⟨hR1.fr r2, hM2, hn1⟩
set_option maxRecDepth 20000 in
theorem pi_L_bribe {xs : Nat → Int32} {L d : Nat} {W : zW} {σ : pi_S} {i : Nat} (hL : L ≤ 3072) (hi : i + 6 ≤ L) (hJ : z_J W σ) {Q : Option Value → pi_S → Prop} (hn : ∀ W s, z_J W s → pi_wp xs L (d + 12) 0 1231 [some (.ref 1000), some (.ref 0), some (.ref 56), some (.int (nI i))] [] s Q) : pi_wp xs L (d + 12) 0 744 [some (.ref 1000), some (.ref 0), some (.ref 56), some (.int (nI i))] [] σ Q := by
  obtain ⟨W1, v1, hn1, hA, hB⟩ := pi_J_bribe hJ (xs (i + 1)) (xs (i + 2))
  refine pi_go 5 (pc' := 749) (l' := [some (.ref 1000), some (.ref 0), some (.ref 56), some (.int (nI i))]) (st' := [.int (nI i + nI 1), .ref 1000, .ref 0]) (σ' := σ) (fun f => rfl) ?_
  refine pi_tp (y := nI (i + 1)) (nI_add _ _) ?_
  refine pi_ai 1 (u := i + 1) (n := L) (g := xs) (pc' := 750) (l' := [some (.ref 1000), some (.ref 0), some (.ref 56), some (.int (nI i))]) (t := [.ref 0]) (σ' := σ) (fun f => rfl) (by omega) (by omega) ?_
  refine pi_go 4 (pc' := 754) (l' := [some (.ref 1000), some (.ref 0), some (.ref 56), some (.int (nI i))]) (st' := [.int (nI i + nI 2), .ref 1000, .int (xs (i + 1)), .ref 0]) (σ' := σ) (fun f => rfl) ?_
  refine pi_tp (y := nI (i + 2)) (nI_add _ _) ?_
  refine pi_ai 1 (u := i + 2) (n := L) (g := xs) (pc' := 755) (l' := [some (.ref 1000), some (.ref 0), some (.ref 56), some (.int (nI i))]) (t := [.int (xs (i + 1)), .ref 0]) (σ' := σ) (fun f => rfl) (by omega) (by omega) ?_
  refine pi_ca 1 (m' := 79) (l' := [some (.ref 0), some (.int (xs (i + 1))), some (.int (xs (i + 2))), none, none, none, none]) (σ' := σ) (pc2 := 758) (l2 := [some (.ref 1000), some (.ref 0), some (.ref 56), some (.int (nI i))]) (t := []) (fun f => rfl) (hA xs L _) ?_
  rintro _ s1 ⟨rfl, hR1, r1⟩
  refine pi_go 5 (pc' := 763) (l' := [some (.ref 1000), some (.ref 0), some (.ref 56), some (.int (nI i))]) (st' := [.int (nI i + nI 1), .ref 1000, .ref 56, .int v1]) (σ' := s1) (fun f => rfl) ?_
  refine pi_tp (y := nI (i + 1)) (nI_add _ _) ?_
  refine pi_ai 1 (u := i + 1) (n := L) (g := xs) (pc' := 764) (l' := [some (.ref 1000), some (.ref 0), some (.ref 56), some (.int (nI i))]) (t := [.ref 56, .int v1]) (σ' := s1) (fun f => rfl) (by omega) (by omega) ?_
  refine pi_go 4 (pc' := 768) (l' := [some (.ref 1000), some (.ref 0), some (.ref 56), some (.int (nI i))]) (st' := [.int (nI i + nI 2), .ref 1000, .int (xs (i + 1)), .ref 56, .int v1]) (σ' := s1) (fun f => rfl) ?_
  refine pi_tp (y := nI (i + 2)) (nI_add _ _) ?_
  refine pi_ai 1 (u := i + 2) (n := L) (g := xs) (pc' := 769) (l' := [some (.ref 1000), some (.ref 0), some (.ref 56), some (.int (nI i))]) (t := [.int (xs (i + 1)), .ref 56, .int v1]) (σ' := s1) (fun f => rfl) (by omega) (by omega) ?_
  refine pi_ca 1 (m' := 149) (l' := [some (.ref 56), some (.int (xs (i + 1))), some (.int (xs (i + 2)))]) (σ' := s1) (pc2 := 772) (l2 := [some (.ref 1000), some (.ref 0), some (.ref 56), some (.int (nI i))]) (t := [.int v1]) (fun f => rfl) (hB xs L _ s1 (hJ.2.1.fr r1)) ?_
  rintro _ s2 ⟨rfl, hM2, r2⟩
  refine pi_ct 1 (c := v1 = v1) (pc' := 1231) (l' := [some (.ref 1000), some (.ref 0), some (.ref 56), some (.int (nI i))]) (st' := []) (σ' := s2) (pc2 := 775) (l2 := [some (.ref 1000), some (.ref 0), some (.ref 56), some (.int (nI i))]) (st2 := []) (σ2 := s2) (fun f => rfl) (rfl) ?_
  exact hn W1 s2 ⟨hR1.fr r2, hM2, hn1⟩
set_option maxRecDepth 20000 in
theorem pi_L_rests {xs : Nat → Int32} {L d : Nat} {W : zW} {σ : pi_S} {i : Nat} (hL : L ≤ 3072) (hi : i + 6 ≤ L) (hJ : z_J W σ) {Q : Option Value → pi_S → Prop} (hn : ∀ W s, z_J W s → pi_wp xs L (d + 12) 0 1231 [some (.ref 1000), some (.ref 0), some (.ref 56), some (.int (nI i))] [] s Q) : pi_wp xs L (d + 12) 0 777 [some (.ref 1000), some (.ref 0), some (.ref 56), some (.int (nI i))] [] σ Q := by
  obtain ⟨W1, v1, hn1, hA, hB⟩ := pi_J_rests hJ
  refine pi_ca 2 (m' := 80) (l' := [some (.ref 0), none, none]) (σ' := σ) (pc2 := 781) (l2 := [some (.ref 1000), some (.ref 0), some (.ref 56), some (.int (nI i))]) (t := []) (fun f => rfl) (hA xs L _) ?_
  rintro _ s1 ⟨rfl, hR1, r1⟩
  refine pi_ca 2 (m' := 151) (l' := [some (.ref 56)]) (σ' := s1) (pc2 := 785) (l2 := [some (.ref 1000), some (.ref 0), some (.ref 56), some (.int (nI i))]) (t := [.int v1]) (fun f => rfl) (hB xs L _ s1 (hJ.2.1.fr r1)) ?_
  rintro _ s2 ⟨rfl, hM2, r2⟩
  refine pi_ct 1 (c := v1 = v1) (pc' := 1231) (l' := [some (.ref 1000), some (.ref 0), some (.ref 56), some (.int (nI i))]) (st' := []) (σ' := s2) (pc2 := 788) (l2 := [some (.ref 1000), some (.ref 0), some (.ref 56), some (.int (nI i))]) (st2 := []) (σ2 := s2) (fun f => rfl) (rfl) ?_
  exact hn W1 s2 ⟨hR1.fr r2, hM2, hn1⟩
set_option maxRecDepth 20000 in
theorem pi_L_odds {xs : Nat → Int32} {L d : Nat} {W : zW} {σ : pi_S} {i : Nat} (hL : L ≤ 3072) (hi : i + 6 ≤ L) (hJ : z_J W σ) {Q : Option Value → pi_S → Prop} (hn : ∀ W s, z_J W s → pi_wp xs L (d + 12) 0 1231 [some (.ref 1000), some (.ref 0), some (.ref 56), some (.int (nI i))] [] s Q) : pi_wp xs L (d + 12) 0 790 [some (.ref 1000), some (.ref 0), some (.ref 56), some (.int (nI i))] [] σ Q := by
  obtain ⟨W1, v1, hn1, hA, hB⟩ := pi_J_odds hJ (xs (i + 1)) (xs (i + 2))
  refine pi_go 5 (pc' := 795) (l' := [some (.ref 1000), some (.ref 0), some (.ref 56), some (.int (nI i))]) (st' := [.int (nI i + nI 1), .ref 1000, .ref 0]) (σ' := σ) (fun f => rfl) ?_
  refine pi_tp (y := nI (i + 1)) (nI_add _ _) ?_
  refine pi_ai 1 (u := i + 1) (n := L) (g := xs) (pc' := 796) (l' := [some (.ref 1000), some (.ref 0), some (.ref 56), some (.int (nI i))]) (t := [.ref 0]) (σ' := σ) (fun f => rfl) (by omega) (by omega) ?_
  refine pi_go 4 (pc' := 800) (l' := [some (.ref 1000), some (.ref 0), some (.ref 56), some (.int (nI i))]) (st' := [.int (nI i + nI 2), .ref 1000, .int (xs (i + 1)), .ref 0]) (σ' := σ) (fun f => rfl) ?_
  refine pi_tp (y := nI (i + 2)) (nI_add _ _) ?_
  refine pi_ai 1 (u := i + 2) (n := L) (g := xs) (pc' := 801) (l' := [some (.ref 1000), some (.ref 0), some (.ref 56), some (.int (nI i))]) (t := [.int (xs (i + 1)), .ref 0]) (σ' := σ) (fun f => rfl) (by omega) (by omega) ?_
  refine pi_ca 1 (m' := 81) (l' := [some (.ref 0), some (.int (xs (i + 1))), some (.int (xs (i + 2))), none, none]) (σ' := σ) (pc2 := 804) (l2 := [some (.ref 1000), some (.ref 0), some (.ref 56), some (.int (nI i))]) (t := []) (fun f => rfl) (hA xs L _) ?_
  rintro _ s1 ⟨rfl, hR1, r1⟩
  refine pi_go 5 (pc' := 809) (l' := [some (.ref 1000), some (.ref 0), some (.ref 56), some (.int (nI i))]) (st' := [.int (nI i + nI 1), .ref 1000, .ref 56, .long v1]) (σ' := s1) (fun f => rfl) ?_
  refine pi_tp (y := nI (i + 1)) (nI_add _ _) ?_
  refine pi_ai 1 (u := i + 1) (n := L) (g := xs) (pc' := 810) (l' := [some (.ref 1000), some (.ref 0), some (.ref 56), some (.int (nI i))]) (t := [.ref 56, .long v1]) (σ' := s1) (fun f => rfl) (by omega) (by omega) ?_
  refine pi_go 4 (pc' := 814) (l' := [some (.ref 1000), some (.ref 0), some (.ref 56), some (.int (nI i))]) (st' := [.int (nI i + nI 2), .ref 1000, .int (xs (i + 1)), .ref 56, .long v1]) (σ' := s1) (fun f => rfl) ?_
  refine pi_tp (y := nI (i + 2)) (nI_add _ _) ?_
  refine pi_ai 1 (u := i + 2) (n := L) (g := xs) (pc' := 815) (l' := [some (.ref 1000), some (.ref 0), some (.ref 56), some (.int (nI i))]) (t := [.int (xs (i + 1)), .ref 56, .long v1]) (σ' := s1) (fun f => rfl) (by omega) (by omega) ?_
  refine pi_ca 1 (m' := 154) (l' := [some (.ref 56), some (.int (xs (i + 1))), some (.int (xs (i + 2)))]) (σ' := s1) (pc2 := 818) (l2 := [some (.ref 1000), some (.ref 0), some (.ref 56), some (.int (nI i))]) (t := [.long v1]) (fun f => rfl) (hB xs L _ s1 (hJ.2.1.fr r1)) ?_
  rintro _ s2 ⟨rfl, hM2, r2⟩
  refine pi_ct 2 (c := lg_cmp v1 v1 = 0) (pc' := 1231) (l' := [some (.ref 1000), some (.ref 0), some (.ref 56), some (.int (nI i))]) (st' := []) (σ' := s2) (pc2 := 822) (l2 := [some (.ref 1000), some (.ref 0), some (.ref 56), some (.int (nI i))]) (st2 := []) (σ2 := s2) (fun f => rfl) (z_lcmp0 _) ?_
  exact hn W1 s2 ⟨hR1.fr r2, hM2, hn1⟩
set_option maxRecDepth 20000 in
theorem pi_L_waits {xs : Nat → Int32} {L d : Nat} {W : zW} {σ : pi_S} {i : Nat} (hL : L ≤ 3072) (hi : i + 6 ≤ L) (hJ : z_J W σ) {Q : Option Value → pi_S → Prop} (hn : ∀ W s, z_J W s → pi_wp xs L (d + 12) 0 1231 [some (.ref 1000), some (.ref 0), some (.ref 56), some (.int (nI i))] [] s Q) : pi_wp xs L (d + 12) 0 824 [some (.ref 1000), some (.ref 0), some (.ref 56), some (.int (nI i))] [] σ Q := by
  obtain ⟨W1, v1, hn1, hA, hB⟩ := pi_J_waits hJ (xs (i + 1))
  refine pi_go 5 (pc' := 829) (l' := [some (.ref 1000), some (.ref 0), some (.ref 56), some (.int (nI i))]) (st' := [.int (nI i + nI 1), .ref 1000, .ref 0]) (σ' := σ) (fun f => rfl) ?_
  refine pi_tp (y := nI (i + 1)) (nI_add _ _) ?_
  refine pi_ai 1 (u := i + 1) (n := L) (g := xs) (pc' := 830) (l' := [some (.ref 1000), some (.ref 0), some (.ref 56), some (.int (nI i))]) (t := [.ref 0]) (σ' := σ) (fun f => rfl) (by omega) (by omega) ?_
  refine pi_ca 1 (m' := 82) (l' := [some (.ref 0), some (.int (xs (i + 1))), none]) (σ' := σ) (pc2 := 833) (l2 := [some (.ref 1000), some (.ref 0), some (.ref 56), some (.int (nI i))]) (t := []) (fun f => rfl) (hA xs L _) ?_
  rintro _ s1 ⟨rfl, hR1, r1⟩
  refine pi_go 5 (pc' := 838) (l' := [some (.ref 1000), some (.ref 0), some (.ref 56), some (.int (nI i))]) (st' := [.int (nI i + nI 1), .ref 1000, .ref 56, .int v1]) (σ' := s1) (fun f => rfl) ?_
  refine pi_tp (y := nI (i + 1)) (nI_add _ _) ?_
  refine pi_ai 1 (u := i + 1) (n := L) (g := xs) (pc' := 839) (l' := [some (.ref 1000), some (.ref 0), some (.ref 56), some (.int (nI i))]) (t := [.ref 56, .int v1]) (σ' := s1) (fun f => rfl) (by omega) (by omega) ?_
  refine pi_ca 1 (m' := 155) (l' := [some (.ref 56), some (.int (xs (i + 1)))]) (σ' := s1) (pc2 := 842) (l2 := [some (.ref 1000), some (.ref 0), some (.ref 56), some (.int (nI i))]) (t := [.int v1]) (fun f => rfl) (hB xs L _ s1 (hJ.2.1.fr r1)) ?_
  rintro _ s2 ⟨rfl, hM2, r2⟩
  refine pi_ct 1 (c := v1 = v1) (pc' := 1231) (l' := [some (.ref 1000), some (.ref 0), some (.ref 56), some (.int (nI i))]) (st' := []) (σ' := s2) (pc2 := 845) (l2 := [some (.ref 1000), some (.ref 0), some (.ref 56), some (.int (nI i))]) (st2 := []) (σ2 := s2) (fun f => rfl) (rfl) ?_
  exact hn W1 s2 ⟨hR1.fr r2, hM2, hn1⟩
set_option maxRecDepth 20000 in
theorem pi_L_who {xs : Nat → Int32} {L d : Nat} {W : zW} {σ : pi_S} {i : Nat} (hL : L ≤ 3072) (hi : i + 6 ≤ L) (hJ : z_J W σ) {Q : Option Value → pi_S → Prop} (hn : ∀ W s, z_J W s → pi_wp xs L (d + 12) 0 1231 [some (.ref 1000), some (.ref 0), some (.ref 56), some (.int (nI i))] [] s Q) : pi_wp xs L (d + 12) 0 847 [some (.ref 1000), some (.ref 0), some (.ref 56), some (.int (nI i))] [] σ Q := by
  obtain ⟨W1, v1, hn1, hA, hB⟩ := pi_J_who hJ (xs (i + 1)) (xs (i + 2)) (xs (i + 3))
  refine pi_go 5 (pc' := 852) (l' := [some (.ref 1000), some (.ref 0), some (.ref 56), some (.int (nI i))]) (st' := [.int (nI i + nI 1), .ref 1000, .ref 0]) (σ' := σ) (fun f => rfl) ?_
  refine pi_tp (y := nI (i + 1)) (nI_add _ _) ?_
  refine pi_ai 1 (u := i + 1) (n := L) (g := xs) (pc' := 853) (l' := [some (.ref 1000), some (.ref 0), some (.ref 56), some (.int (nI i))]) (t := [.ref 0]) (σ' := σ) (fun f => rfl) (by omega) (by omega) ?_
  refine pi_go 4 (pc' := 857) (l' := [some (.ref 1000), some (.ref 0), some (.ref 56), some (.int (nI i))]) (st' := [.int (nI i + nI 2), .ref 1000, .int (xs (i + 1)), .ref 0]) (σ' := σ) (fun f => rfl) ?_
  refine pi_tp (y := nI (i + 2)) (nI_add _ _) ?_
  refine pi_ai 1 (u := i + 2) (n := L) (g := xs) (pc' := 858) (l' := [some (.ref 1000), some (.ref 0), some (.ref 56), some (.int (nI i))]) (t := [.int (xs (i + 1)), .ref 0]) (σ' := σ) (fun f => rfl) (by omega) (by omega) ?_
  refine pi_go 4 (pc' := 862) (l' := [some (.ref 1000), some (.ref 0), some (.ref 56), some (.int (nI i))]) (st' := [.int (nI i + nI 3), .ref 1000, .int (xs (i + 2)), .int (xs (i + 1)), .ref 0]) (σ' := σ) (fun f => rfl) ?_
  refine pi_tp (y := nI (i + 3)) (nI_add _ _) ?_
  refine pi_ai 1 (u := i + 3) (n := L) (g := xs) (pc' := 863) (l' := [some (.ref 1000), some (.ref 0), some (.ref 56), some (.int (nI i))]) (t := [.int (xs (i + 2)), .int (xs (i + 1)), .ref 0]) (σ' := σ) (fun f => rfl) (by omega) (by omega) ?_
  refine pi_ca 1 (m' := 83) (l' := [some (.ref 0), some (.int (xs (i + 1))), some (.int (xs (i + 2))), some (.int (xs (i + 3))), none, none, none]) (σ' := σ) (pc2 := 866) (l2 := [some (.ref 1000), some (.ref 0), some (.ref 56), some (.int (nI i))]) (t := []) (fun f => rfl) (hA xs L _) ?_
  rintro _ s1 ⟨rfl, hR1, r1⟩
  refine pi_go 5 (pc' := 871) (l' := [some (.ref 1000), some (.ref 0), some (.ref 56), some (.int (nI i))]) (st' := [.int (nI i + nI 1), .ref 1000, .ref 56, .int v1]) (σ' := s1) (fun f => rfl) ?_
  refine pi_tp (y := nI (i + 1)) (nI_add _ _) ?_
  refine pi_ai 1 (u := i + 1) (n := L) (g := xs) (pc' := 872) (l' := [some (.ref 1000), some (.ref 0), some (.ref 56), some (.int (nI i))]) (t := [.ref 56, .int v1]) (σ' := s1) (fun f => rfl) (by omega) (by omega) ?_
  refine pi_go 4 (pc' := 876) (l' := [some (.ref 1000), some (.ref 0), some (.ref 56), some (.int (nI i))]) (st' := [.int (nI i + nI 2), .ref 1000, .int (xs (i + 1)), .ref 56, .int v1]) (σ' := s1) (fun f => rfl) ?_
  refine pi_tp (y := nI (i + 2)) (nI_add _ _) ?_
  refine pi_ai 1 (u := i + 2) (n := L) (g := xs) (pc' := 877) (l' := [some (.ref 1000), some (.ref 0), some (.ref 56), some (.int (nI i))]) (t := [.int (xs (i + 1)), .ref 56, .int v1]) (σ' := s1) (fun f => rfl) (by omega) (by omega) ?_
  refine pi_go 4 (pc' := 881) (l' := [some (.ref 1000), some (.ref 0), some (.ref 56), some (.int (nI i))]) (st' := [.int (nI i + nI 3), .ref 1000, .int (xs (i + 2)), .int (xs (i + 1)), .ref 56, .int v1]) (σ' := s1) (fun f => rfl) ?_
  refine pi_tp (y := nI (i + 3)) (nI_add _ _) ?_
  refine pi_ai 1 (u := i + 3) (n := L) (g := xs) (pc' := 882) (l' := [some (.ref 1000), some (.ref 0), some (.ref 56), some (.int (nI i))]) (t := [.int (xs (i + 2)), .int (xs (i + 1)), .ref 56, .int v1]) (σ' := s1) (fun f => rfl) (by omega) (by omega) ?_
  refine pi_ca 1 (m' := 157) (l' := [some (.ref 56), some (.int (xs (i + 1))), some (.int (xs (i + 2))), some (.int (xs (i + 3)))]) (σ' := s1) (pc2 := 885) (l2 := [some (.ref 1000), some (.ref 0), some (.ref 56), some (.int (nI i))]) (t := [.int v1]) (fun f => rfl) (hB xs L _ s1 (hJ.2.1.fr r1)) ?_
  rintro _ s2 ⟨rfl, hM2, r2⟩
  refine pi_ct 1 (c := v1 = v1) (pc' := 1231) (l' := [some (.ref 1000), some (.ref 0), some (.ref 56), some (.int (nI i))]) (st' := []) (σ' := s2) (pc2 := 888) (l2 := [some (.ref 1000), some (.ref 0), some (.ref 56), some (.int (nI i))]) (st2 := []) (σ2 := s2) (fun f => rfl) (rfl) ?_
  exact hn W1 s2 ⟨hR1.fr r2, hM2, hn1⟩
set_option maxRecDepth 20000 in
theorem pi_L_origin {xs : Nat → Int32} {L d : Nat} {W : zW} {σ : pi_S} {i : Nat} (hL : L ≤ 3072) (hi : i + 6 ≤ L) (hJ : z_J W σ) {Q : Option Value → pi_S → Prop} (hn : ∀ W s, z_J W s → pi_wp xs L (d + 12) 0 1231 [some (.ref 1000), some (.ref 0), some (.ref 56), some (.int (nI i))] [] s Q) : pi_wp xs L (d + 12) 0 890 [some (.ref 1000), some (.ref 0), some (.ref 56), some (.int (nI i))] [] σ Q := by
  obtain ⟨W1, v1, hn1, hA, hB⟩ := pi_J_origin hJ (xs (i + 1)) (xs (i + 2))
  refine pi_go 5 (pc' := 895) (l' := [some (.ref 1000), some (.ref 0), some (.ref 56), some (.int (nI i))]) (st' := [.int (nI i + nI 1), .ref 1000, .ref 0]) (σ' := σ) (fun f => rfl) ?_
  refine pi_tp (y := nI (i + 1)) (nI_add _ _) ?_
  refine pi_ai 1 (u := i + 1) (n := L) (g := xs) (pc' := 896) (l' := [some (.ref 1000), some (.ref 0), some (.ref 56), some (.int (nI i))]) (t := [.ref 0]) (σ' := σ) (fun f => rfl) (by omega) (by omega) ?_
  refine pi_go 4 (pc' := 900) (l' := [some (.ref 1000), some (.ref 0), some (.ref 56), some (.int (nI i))]) (st' := [.int (nI i + nI 2), .ref 1000, .int (xs (i + 1)), .ref 0]) (σ' := σ) (fun f => rfl) ?_
  refine pi_tp (y := nI (i + 2)) (nI_add _ _) ?_
  refine pi_ai 1 (u := i + 2) (n := L) (g := xs) (pc' := 901) (l' := [some (.ref 1000), some (.ref 0), some (.ref 56), some (.int (nI i))]) (t := [.int (xs (i + 1)), .ref 0]) (σ' := σ) (fun f => rfl) (by omega) (by omega) ?_
  refine pi_ca 1 (m' := 84) (l' := [some (.ref 0), some (.int (xs (i + 1))), some (.int (xs (i + 2)))]) (σ' := σ) (pc2 := 904) (l2 := [some (.ref 1000), some (.ref 0), some (.ref 56), some (.int (nI i))]) (t := []) (fun f => rfl) (hA xs L _) ?_
  rintro _ s1 ⟨rfl, hR1, r1⟩
  refine pi_go 5 (pc' := 909) (l' := [some (.ref 1000), some (.ref 0), some (.ref 56), some (.int (nI i))]) (st' := [.int (nI i + nI 1), .ref 1000, .ref 56, .int v1]) (σ' := s1) (fun f => rfl) ?_
  refine pi_tp (y := nI (i + 1)) (nI_add _ _) ?_
  refine pi_ai 1 (u := i + 1) (n := L) (g := xs) (pc' := 910) (l' := [some (.ref 1000), some (.ref 0), some (.ref 56), some (.int (nI i))]) (t := [.ref 56, .int v1]) (σ' := s1) (fun f => rfl) (by omega) (by omega) ?_
  refine pi_go 4 (pc' := 914) (l' := [some (.ref 1000), some (.ref 0), some (.ref 56), some (.int (nI i))]) (st' := [.int (nI i + nI 2), .ref 1000, .int (xs (i + 1)), .ref 56, .int v1]) (σ' := s1) (fun f => rfl) ?_
  refine pi_tp (y := nI (i + 2)) (nI_add _ _) ?_
  refine pi_ai 1 (u := i + 2) (n := L) (g := xs) (pc' := 915) (l' := [some (.ref 1000), some (.ref 0), some (.ref 56), some (.int (nI i))]) (t := [.int (xs (i + 1)), .ref 56, .int v1]) (σ' := s1) (fun f => rfl) (by omega) (by omega) ?_
  refine pi_ca 1 (m' := 159) (l' := [some (.ref 56), some (.int (xs (i + 1))), some (.int (xs (i + 2)))]) (σ' := s1) (pc2 := 918) (l2 := [some (.ref 1000), some (.ref 0), some (.ref 56), some (.int (nI i))]) (t := [.int v1]) (fun f => rfl) (hB xs L _ s1 (hJ.2.1.fr r1)) ?_
  rintro _ s2 ⟨rfl, hM2, r2⟩
  refine pi_ct 1 (c := v1 = v1) (pc' := 1231) (l' := [some (.ref 1000), some (.ref 0), some (.ref 56), some (.int (nI i))]) (st' := []) (σ' := s2) (pc2 := 921) (l2 := [some (.ref 1000), some (.ref 0), some (.ref 56), some (.int (nI i))]) (st2 := []) (σ2 := s2) (fun f => rfl) (rfl) ?_
  exact hn W1 s2 ⟨hR1.fr r2, hM2, hn1⟩
set_option maxRecDepth 20000 in
theorem pi_L_best {xs : Nat → Int32} {L d : Nat} {W : zW} {σ : pi_S} {i : Nat} (hL : L ≤ 3072) (hi : i + 6 ≤ L) (hJ : z_J W σ) {Q : Option Value → pi_S → Prop} (hn : ∀ W s, z_J W s → pi_wp xs L (d + 12) 0 1231 [some (.ref 1000), some (.ref 0), some (.ref 56), some (.int (nI i))] [] s Q) : pi_wp xs L (d + 12) 0 923 [some (.ref 1000), some (.ref 0), some (.ref 56), some (.int (nI i))] [] σ Q := by
  obtain ⟨W1, v1, hn1, hA, hB⟩ := pi_J_best hJ
  refine pi_ca 2 (m' := 85) (l' := [some (.ref 0), none, none, none, none]) (σ' := σ) (pc2 := 927) (l2 := [some (.ref 1000), some (.ref 0), some (.ref 56), some (.int (nI i))]) (t := []) (fun f => rfl) (hA xs L _) ?_
  rintro _ s1 ⟨rfl, hR1, r1⟩
  refine pi_ca 2 (m' := 161) (l' := [some (.ref 56)]) (σ' := s1) (pc2 := 931) (l2 := [some (.ref 1000), some (.ref 0), some (.ref 56), some (.int (nI i))]) (t := [.int v1]) (fun f => rfl) (hB xs L _ s1 (hJ.2.1.fr r1)) ?_
  rintro _ s2 ⟨rfl, hM2, r2⟩
  refine pi_ct 1 (c := v1 = v1) (pc' := 1231) (l' := [some (.ref 1000), some (.ref 0), some (.ref 56), some (.int (nI i))]) (st' := []) (σ' := s2) (pc2 := 934) (l2 := [some (.ref 1000), some (.ref 0), some (.ref 56), some (.int (nI i))]) (st2 := []) (σ2 := s2) (fun f => rfl) (rfl) ?_
  exact hn W1 s2 ⟨hR1.fr r2, hM2, hn1⟩
set_option maxRecDepth 20000 in
theorem pi_L_sheet {xs : Nat → Int32} {L d : Nat} {W : zW} {σ : pi_S} {i : Nat} (hL : L ≤ 3072) (hi : i + 6 ≤ L) (hJ : z_J W σ) {Q : Option Value → pi_S → Prop} (hn : ∀ W s, z_J W s → pi_wp xs L (d + 12) 0 1231 [some (.ref 1000), some (.ref 0), some (.ref 56), some (.int (nI i))] [] s Q) : pi_wp xs L (d + 12) 0 936 [some (.ref 1000), some (.ref 0), some (.ref 56), some (.int (nI i))] [] σ Q := by
  obtain ⟨W1, v1, hn1, hA, hB⟩ := pi_J_sheet hJ (xs (i + 1)) (xs (i + 2)) (xs (i + 3))
  refine pi_go 5 (pc' := 941) (l' := [some (.ref 1000), some (.ref 0), some (.ref 56), some (.int (nI i))]) (st' := [.int (nI i + nI 1), .ref 1000, .ref 0]) (σ' := σ) (fun f => rfl) ?_
  refine pi_tp (y := nI (i + 1)) (nI_add _ _) ?_
  refine pi_ai 1 (u := i + 1) (n := L) (g := xs) (pc' := 942) (l' := [some (.ref 1000), some (.ref 0), some (.ref 56), some (.int (nI i))]) (t := [.ref 0]) (σ' := σ) (fun f => rfl) (by omega) (by omega) ?_
  refine pi_go 4 (pc' := 946) (l' := [some (.ref 1000), some (.ref 0), some (.ref 56), some (.int (nI i))]) (st' := [.int (nI i + nI 2), .ref 1000, .int (xs (i + 1)), .ref 0]) (σ' := σ) (fun f => rfl) ?_
  refine pi_tp (y := nI (i + 2)) (nI_add _ _) ?_
  refine pi_ai 1 (u := i + 2) (n := L) (g := xs) (pc' := 947) (l' := [some (.ref 1000), some (.ref 0), some (.ref 56), some (.int (nI i))]) (t := [.int (xs (i + 1)), .ref 0]) (σ' := σ) (fun f => rfl) (by omega) (by omega) ?_
  refine pi_go 4 (pc' := 951) (l' := [some (.ref 1000), some (.ref 0), some (.ref 56), some (.int (nI i))]) (st' := [.int (nI i + nI 3), .ref 1000, .int (xs (i + 2)), .int (xs (i + 1)), .ref 0]) (σ' := σ) (fun f => rfl) ?_
  refine pi_tp (y := nI (i + 3)) (nI_add _ _) ?_
  refine pi_ai 1 (u := i + 3) (n := L) (g := xs) (pc' := 952) (l' := [some (.ref 1000), some (.ref 0), some (.ref 56), some (.int (nI i))]) (t := [.int (xs (i + 2)), .int (xs (i + 1)), .ref 0]) (σ' := σ) (fun f => rfl) (by omega) (by omega) ?_
  refine pi_ca 1 (m' := 86) (l' := [some (.ref 0), some (.int (xs (i + 1))), some (.int (xs (i + 2))), some (.int (xs (i + 3)))]) (σ' := σ) (pc2 := 955) (l2 := [some (.ref 1000), some (.ref 0), some (.ref 56), some (.int (nI i))]) (t := []) (fun f => rfl) (hA xs L _) ?_
  rintro _ s1 ⟨rfl, hR1, r1⟩
  refine pi_go 5 (pc' := 960) (l' := [some (.ref 1000), some (.ref 0), some (.ref 56), some (.int (nI i))]) (st' := [.int (nI i + nI 1), .ref 1000, .ref 56, .int v1]) (σ' := s1) (fun f => rfl) ?_
  refine pi_tp (y := nI (i + 1)) (nI_add _ _) ?_
  refine pi_ai 1 (u := i + 1) (n := L) (g := xs) (pc' := 961) (l' := [some (.ref 1000), some (.ref 0), some (.ref 56), some (.int (nI i))]) (t := [.ref 56, .int v1]) (σ' := s1) (fun f => rfl) (by omega) (by omega) ?_
  refine pi_go 4 (pc' := 965) (l' := [some (.ref 1000), some (.ref 0), some (.ref 56), some (.int (nI i))]) (st' := [.int (nI i + nI 2), .ref 1000, .int (xs (i + 1)), .ref 56, .int v1]) (σ' := s1) (fun f => rfl) ?_
  refine pi_tp (y := nI (i + 2)) (nI_add _ _) ?_
  refine pi_ai 1 (u := i + 2) (n := L) (g := xs) (pc' := 966) (l' := [some (.ref 1000), some (.ref 0), some (.ref 56), some (.int (nI i))]) (t := [.int (xs (i + 1)), .ref 56, .int v1]) (σ' := s1) (fun f => rfl) (by omega) (by omega) ?_
  refine pi_go 4 (pc' := 970) (l' := [some (.ref 1000), some (.ref 0), some (.ref 56), some (.int (nI i))]) (st' := [.int (nI i + nI 3), .ref 1000, .int (xs (i + 2)), .int (xs (i + 1)), .ref 56, .int v1]) (σ' := s1) (fun f => rfl) ?_
  refine pi_tp (y := nI (i + 3)) (nI_add _ _) ?_
  refine pi_ai 1 (u := i + 3) (n := L) (g := xs) (pc' := 971) (l' := [some (.ref 1000), some (.ref 0), some (.ref 56), some (.int (nI i))]) (t := [.int (xs (i + 2)), .int (xs (i + 1)), .ref 56, .int v1]) (σ' := s1) (fun f => rfl) (by omega) (by omega) ?_
  refine pi_ca 1 (m' := 164) (l' := [some (.ref 56), some (.int (xs (i + 1))), some (.int (xs (i + 2))), some (.int (xs (i + 3))), none]) (σ' := s1) (pc2 := 974) (l2 := [some (.ref 1000), some (.ref 0), some (.ref 56), some (.int (nI i))]) (t := [.int v1]) (fun f => rfl) (hB xs L _ s1 (hJ.2.1.fr r1)) ?_
  rintro _ s2 ⟨rfl, hM2, r2⟩
  refine pi_ct 1 (c := v1 = v1) (pc' := 1231) (l' := [some (.ref 1000), some (.ref 0), some (.ref 56), some (.int (nI i))]) (st' := []) (σ' := s2) (pc2 := 977) (l2 := [some (.ref 1000), some (.ref 0), some (.ref 56), some (.int (nI i))]) (st2 := []) (σ2 := s2) (fun f => rfl) (rfl) ?_
  exact hn W1 s2 ⟨hR1.fr r2, hM2, hn1⟩
set_option maxRecDepth 20000 in
theorem pi_L_lose {xs : Nat → Int32} {L d : Nat} {W : zW} {σ : pi_S} {i : Nat} (hL : L ≤ 3072) (hi : i + 6 ≤ L) (hJ : z_J W σ) {Q : Option Value → pi_S → Prop} (hn : ∀ W s, z_J W s → pi_wp xs L (d + 12) 0 1231 [some (.ref 1000), some (.ref 0), some (.ref 56), some (.int (nI i))] [] s Q) : pi_wp xs L (d + 12) 0 979 [some (.ref 1000), some (.ref 0), some (.ref 56), some (.int (nI i))] [] σ Q := by
  obtain ⟨W1, v1, hn1, hA, hB⟩ := pi_J_lose hJ (xs (i + 1))
  refine pi_go 5 (pc' := 984) (l' := [some (.ref 1000), some (.ref 0), some (.ref 56), some (.int (nI i))]) (st' := [.int (nI i + nI 1), .ref 1000, .ref 0]) (σ' := σ) (fun f => rfl) ?_
  refine pi_tp (y := nI (i + 1)) (nI_add _ _) ?_
  refine pi_ai 1 (u := i + 1) (n := L) (g := xs) (pc' := 985) (l' := [some (.ref 1000), some (.ref 0), some (.ref 56), some (.int (nI i))]) (t := [.ref 0]) (σ' := σ) (fun f => rfl) (by omega) (by omega) ?_
  refine pi_ca 1 (m' := 87) (l' := [some (.ref 0), some (.int (xs (i + 1))), none, none]) (σ' := σ) (pc2 := 988) (l2 := [some (.ref 1000), some (.ref 0), some (.ref 56), some (.int (nI i))]) (t := []) (fun f => rfl) (hA xs L _) ?_
  rintro _ s1 ⟨rfl, hR1, r1⟩
  refine pi_go 5 (pc' := 993) (l' := [some (.ref 1000), some (.ref 0), some (.ref 56), some (.int (nI i))]) (st' := [.int (nI i + nI 1), .ref 1000, .ref 56, .int v1]) (σ' := s1) (fun f => rfl) ?_
  refine pi_tp (y := nI (i + 1)) (nI_add _ _) ?_
  refine pi_ai 1 (u := i + 1) (n := L) (g := xs) (pc' := 994) (l' := [some (.ref 1000), some (.ref 0), some (.ref 56), some (.int (nI i))]) (t := [.ref 56, .int v1]) (σ' := s1) (fun f => rfl) (by omega) (by omega) ?_
  refine pi_ca 1 (m' := 165) (l' := [some (.ref 56), some (.int (xs (i + 1)))]) (σ' := s1) (pc2 := 997) (l2 := [some (.ref 1000), some (.ref 0), some (.ref 56), some (.int (nI i))]) (t := [.int v1]) (fun f => rfl) (hB xs L _ s1 (hJ.2.1.fr r1)) ?_
  rintro _ s2 ⟨rfl, hM2, r2⟩
  refine pi_ct 1 (c := v1 = v1) (pc' := 1231) (l' := [some (.ref 1000), some (.ref 0), some (.ref 56), some (.int (nI i))]) (st' := []) (σ' := s2) (pc2 := 1000) (l2 := [some (.ref 1000), some (.ref 0), some (.ref 56), some (.int (nI i))]) (st2 := []) (σ2 := s2) (fun f => rfl) (rfl) ?_
  exact hn W1 s2 ⟨hR1.fr r2, hM2, hn1⟩
set_option maxRecDepth 20000 in
theorem pi_L_put {xs : Nat → Int32} {L d : Nat} {W : zW} {σ : pi_S} {i : Nat} (hL : L ≤ 3072) (hi : i + 6 ≤ L) (hJ : z_J W σ) {Q : Option Value → pi_S → Prop} (hn : ∀ W s, z_J W s → pi_wp xs L (d + 12) 0 1231 [some (.ref 1000), some (.ref 0), some (.ref 56), some (.int (nI i))] [] s Q) : pi_wp xs L (d + 12) 0 1002 [some (.ref 1000), some (.ref 0), some (.ref 56), some (.int (nI i))] [] σ Q := by
  obtain ⟨W1, v1, hn1, hA, hB⟩ := pi_J_put hJ (xs (i + 1)) (xs (i + 2)) (xs (i + 3)) (xs (i + 4))
  refine pi_go 5 (pc' := 1007) (l' := [some (.ref 1000), some (.ref 0), some (.ref 56), some (.int (nI i))]) (st' := [.int (nI i + nI 1), .ref 1000, .ref 0]) (σ' := σ) (fun f => rfl) ?_
  refine pi_tp (y := nI (i + 1)) (nI_add _ _) ?_
  refine pi_ai 1 (u := i + 1) (n := L) (g := xs) (pc' := 1008) (l' := [some (.ref 1000), some (.ref 0), some (.ref 56), some (.int (nI i))]) (t := [.ref 0]) (σ' := σ) (fun f => rfl) (by omega) (by omega) ?_
  refine pi_go 4 (pc' := 1012) (l' := [some (.ref 1000), some (.ref 0), some (.ref 56), some (.int (nI i))]) (st' := [.int (nI i + nI 2), .ref 1000, .int (xs (i + 1)), .ref 0]) (σ' := σ) (fun f => rfl) ?_
  refine pi_tp (y := nI (i + 2)) (nI_add _ _) ?_
  refine pi_ai 1 (u := i + 2) (n := L) (g := xs) (pc' := 1013) (l' := [some (.ref 1000), some (.ref 0), some (.ref 56), some (.int (nI i))]) (t := [.int (xs (i + 1)), .ref 0]) (σ' := σ) (fun f => rfl) (by omega) (by omega) ?_
  refine pi_go 4 (pc' := 1017) (l' := [some (.ref 1000), some (.ref 0), some (.ref 56), some (.int (nI i))]) (st' := [.int (nI i + nI 3), .ref 1000, .int (xs (i + 2)), .int (xs (i + 1)), .ref 0]) (σ' := σ) (fun f => rfl) ?_
  refine pi_tp (y := nI (i + 3)) (nI_add _ _) ?_
  refine pi_ai 1 (u := i + 3) (n := L) (g := xs) (pc' := 1018) (l' := [some (.ref 1000), some (.ref 0), some (.ref 56), some (.int (nI i))]) (t := [.int (xs (i + 2)), .int (xs (i + 1)), .ref 0]) (σ' := σ) (fun f => rfl) (by omega) (by omega) ?_
  refine pi_go 4 (pc' := 1022) (l' := [some (.ref 1000), some (.ref 0), some (.ref 56), some (.int (nI i))]) (st' := [.int (nI i + nI 4), .ref 1000, .int (xs (i + 3)), .int (xs (i + 2)), .int (xs (i + 1)), .ref 0]) (σ' := σ) (fun f => rfl) ?_
  refine pi_tp (y := nI (i + 4)) (nI_add _ _) ?_
  refine pi_ai 1 (u := i + 4) (n := L) (g := xs) (pc' := 1023) (l' := [some (.ref 1000), some (.ref 0), some (.ref 56), some (.int (nI i))]) (t := [.int (xs (i + 3)), .int (xs (i + 2)), .int (xs (i + 1)), .ref 0]) (σ' := σ) (fun f => rfl) (by omega) (by omega) ?_
  refine pi_ca 1 (m' := 88) (l' := [some (.ref 0), some (.int (xs (i + 1))), some (.int (xs (i + 2))), some (.int (xs (i + 3))), some (.int (xs (i + 4))), none]) (σ' := σ) (pc2 := 1026) (l2 := [some (.ref 1000), some (.ref 0), some (.ref 56), some (.int (nI i))]) (t := []) (fun f => rfl) (hA xs L _) ?_
  rintro _ s1 ⟨rfl, hR1, r1⟩
  refine pi_go 5 (pc' := 1031) (l' := [some (.ref 1000), some (.ref 0), some (.ref 56), some (.int (nI i))]) (st' := [.int (nI i + nI 1), .ref 1000, .ref 56, .int v1]) (σ' := s1) (fun f => rfl) ?_
  refine pi_tp (y := nI (i + 1)) (nI_add _ _) ?_
  refine pi_ai 1 (u := i + 1) (n := L) (g := xs) (pc' := 1032) (l' := [some (.ref 1000), some (.ref 0), some (.ref 56), some (.int (nI i))]) (t := [.ref 56, .int v1]) (σ' := s1) (fun f => rfl) (by omega) (by omega) ?_
  refine pi_go 4 (pc' := 1036) (l' := [some (.ref 1000), some (.ref 0), some (.ref 56), some (.int (nI i))]) (st' := [.int (nI i + nI 2), .ref 1000, .int (xs (i + 1)), .ref 56, .int v1]) (σ' := s1) (fun f => rfl) ?_
  refine pi_tp (y := nI (i + 2)) (nI_add _ _) ?_
  refine pi_ai 1 (u := i + 2) (n := L) (g := xs) (pc' := 1037) (l' := [some (.ref 1000), some (.ref 0), some (.ref 56), some (.int (nI i))]) (t := [.int (xs (i + 1)), .ref 56, .int v1]) (σ' := s1) (fun f => rfl) (by omega) (by omega) ?_
  refine pi_go 4 (pc' := 1041) (l' := [some (.ref 1000), some (.ref 0), some (.ref 56), some (.int (nI i))]) (st' := [.int (nI i + nI 3), .ref 1000, .int (xs (i + 2)), .int (xs (i + 1)), .ref 56, .int v1]) (σ' := s1) (fun f => rfl) ?_
  refine pi_tp (y := nI (i + 3)) (nI_add _ _) ?_
  refine pi_ai 1 (u := i + 3) (n := L) (g := xs) (pc' := 1042) (l' := [some (.ref 1000), some (.ref 0), some (.ref 56), some (.int (nI i))]) (t := [.int (xs (i + 2)), .int (xs (i + 1)), .ref 56, .int v1]) (σ' := s1) (fun f => rfl) (by omega) (by omega) ?_
  refine pi_go 4 (pc' := 1046) (l' := [some (.ref 1000), some (.ref 0), some (.ref 56), some (.int (nI i))]) (st' := [.int (nI i + nI 4), .ref 1000, .int (xs (i + 3)), .int (xs (i + 2)), .int (xs (i + 1)), .ref 56, .int v1]) (σ' := s1) (fun f => rfl) ?_
  refine pi_tp (y := nI (i + 4)) (nI_add _ _) ?_
  refine pi_ai 1 (u := i + 4) (n := L) (g := xs) (pc' := 1047) (l' := [some (.ref 1000), some (.ref 0), some (.ref 56), some (.int (nI i))]) (t := [.int (xs (i + 3)), .int (xs (i + 2)), .int (xs (i + 1)), .ref 56, .int v1]) (σ' := s1) (fun f => rfl) (by omega) (by omega) ?_
  refine pi_ca 1 (m' := 168) (l' := [some (.ref 56), some (.int (xs (i + 1))), some (.int (xs (i + 2))), some (.int (xs (i + 3))), some (.int (xs (i + 4))), none]) (σ' := s1) (pc2 := 1050) (l2 := [some (.ref 1000), some (.ref 0), some (.ref 56), some (.int (nI i))]) (t := [.int v1]) (fun f => rfl) (hB xs L _ s1 (hJ.2.1.fr r1)) ?_
  rintro _ s2 ⟨rfl, hM2, r2⟩
  refine pi_ct 1 (c := v1 = v1) (pc' := 1231) (l' := [some (.ref 1000), some (.ref 0), some (.ref 56), some (.int (nI i))]) (st' := []) (σ' := s2) (pc2 := 1053) (l2 := [some (.ref 1000), some (.ref 0), some (.ref 56), some (.int (nI i))]) (st2 := []) (σ2 := s2) (fun f => rfl) (rfl) ?_
  exact hn W1 s2 ⟨hR1.fr r2, hM2, hn1⟩
set_option maxRecDepth 20000 in
theorem pi_L_get {xs : Nat → Int32} {L d : Nat} {W : zW} {σ : pi_S} {i : Nat} (hL : L ≤ 3072) (hi : i + 6 ≤ L) (hJ : z_J W σ) {Q : Option Value → pi_S → Prop} (hn : ∀ W s, z_J W s → pi_wp xs L (d + 12) 0 1231 [some (.ref 1000), some (.ref 0), some (.ref 56), some (.int (nI i))] [] s Q) : pi_wp xs L (d + 12) 0 1055 [some (.ref 1000), some (.ref 0), some (.ref 56), some (.int (nI i))] [] σ Q := by
  obtain ⟨W1, v1, hn1, hA, hB⟩ := pi_J_get hJ (xs (i + 1)) (xs (i + 2)) (xs (i + 3))
  refine pi_go 5 (pc' := 1060) (l' := [some (.ref 1000), some (.ref 0), some (.ref 56), some (.int (nI i))]) (st' := [.int (nI i + nI 1), .ref 1000, .ref 0]) (σ' := σ) (fun f => rfl) ?_
  refine pi_tp (y := nI (i + 1)) (nI_add _ _) ?_
  refine pi_ai 1 (u := i + 1) (n := L) (g := xs) (pc' := 1061) (l' := [some (.ref 1000), some (.ref 0), some (.ref 56), some (.int (nI i))]) (t := [.ref 0]) (σ' := σ) (fun f => rfl) (by omega) (by omega) ?_
  refine pi_go 4 (pc' := 1065) (l' := [some (.ref 1000), some (.ref 0), some (.ref 56), some (.int (nI i))]) (st' := [.int (nI i + nI 2), .ref 1000, .int (xs (i + 1)), .ref 0]) (σ' := σ) (fun f => rfl) ?_
  refine pi_tp (y := nI (i + 2)) (nI_add _ _) ?_
  refine pi_ai 1 (u := i + 2) (n := L) (g := xs) (pc' := 1066) (l' := [some (.ref 1000), some (.ref 0), some (.ref 56), some (.int (nI i))]) (t := [.int (xs (i + 1)), .ref 0]) (σ' := σ) (fun f => rfl) (by omega) (by omega) ?_
  refine pi_go 4 (pc' := 1070) (l' := [some (.ref 1000), some (.ref 0), some (.ref 56), some (.int (nI i))]) (st' := [.int (nI i + nI 3), .ref 1000, .int (xs (i + 2)), .int (xs (i + 1)), .ref 0]) (σ' := σ) (fun f => rfl) ?_
  refine pi_tp (y := nI (i + 3)) (nI_add _ _) ?_
  refine pi_ai 1 (u := i + 3) (n := L) (g := xs) (pc' := 1071) (l' := [some (.ref 1000), some (.ref 0), some (.ref 56), some (.int (nI i))]) (t := [.int (xs (i + 2)), .int (xs (i + 1)), .ref 0]) (σ' := σ) (fun f => rfl) (by omega) (by omega) ?_
  refine pi_ca 1 (m' := 89) (l' := [some (.ref 0), some (.int (xs (i + 1))), some (.int (xs (i + 2))), some (.int (xs (i + 3))), none]) (σ' := σ) (pc2 := 1074) (l2 := [some (.ref 1000), some (.ref 0), some (.ref 56), some (.int (nI i))]) (t := []) (fun f => rfl) (hA xs L _) ?_
  rintro _ s1 ⟨rfl, hR1, r1⟩
  refine pi_go 5 (pc' := 1079) (l' := [some (.ref 1000), some (.ref 0), some (.ref 56), some (.int (nI i))]) (st' := [.int (nI i + nI 1), .ref 1000, .ref 56, .int v1]) (σ' := s1) (fun f => rfl) ?_
  refine pi_tp (y := nI (i + 1)) (nI_add _ _) ?_
  refine pi_ai 1 (u := i + 1) (n := L) (g := xs) (pc' := 1080) (l' := [some (.ref 1000), some (.ref 0), some (.ref 56), some (.int (nI i))]) (t := [.ref 56, .int v1]) (σ' := s1) (fun f => rfl) (by omega) (by omega) ?_
  refine pi_go 4 (pc' := 1084) (l' := [some (.ref 1000), some (.ref 0), some (.ref 56), some (.int (nI i))]) (st' := [.int (nI i + nI 2), .ref 1000, .int (xs (i + 1)), .ref 56, .int v1]) (σ' := s1) (fun f => rfl) ?_
  refine pi_tp (y := nI (i + 2)) (nI_add _ _) ?_
  refine pi_ai 1 (u := i + 2) (n := L) (g := xs) (pc' := 1085) (l' := [some (.ref 1000), some (.ref 0), some (.ref 56), some (.int (nI i))]) (t := [.int (xs (i + 1)), .ref 56, .int v1]) (σ' := s1) (fun f => rfl) (by omega) (by omega) ?_
  refine pi_go 4 (pc' := 1089) (l' := [some (.ref 1000), some (.ref 0), some (.ref 56), some (.int (nI i))]) (st' := [.int (nI i + nI 3), .ref 1000, .int (xs (i + 2)), .int (xs (i + 1)), .ref 56, .int v1]) (σ' := s1) (fun f => rfl) ?_
  refine pi_tp (y := nI (i + 3)) (nI_add _ _) ?_
  refine pi_ai 1 (u := i + 3) (n := L) (g := xs) (pc' := 1090) (l' := [some (.ref 1000), some (.ref 0), some (.ref 56), some (.int (nI i))]) (t := [.int (xs (i + 2)), .int (xs (i + 1)), .ref 56, .int v1]) (σ' := s1) (fun f => rfl) (by omega) (by omega) ?_
  refine pi_ca 1 (m' := 169) (l' := [some (.ref 56), some (.int (xs (i + 1))), some (.int (xs (i + 2))), some (.int (xs (i + 3))), none]) (σ' := s1) (pc2 := 1093) (l2 := [some (.ref 1000), some (.ref 0), some (.ref 56), some (.int (nI i))]) (t := [.int v1]) (fun f => rfl) (hB xs L _ s1 (hJ.2.1.fr r1)) ?_
  rintro _ s2 ⟨rfl, hM2, r2⟩
  refine pi_ct 1 (c := v1 = v1) (pc' := 1231) (l' := [some (.ref 1000), some (.ref 0), some (.ref 56), some (.int (nI i))]) (st' := []) (σ' := s2) (pc2 := 1096) (l2 := [some (.ref 1000), some (.ref 0), some (.ref 56), some (.int (nI i))]) (st2 := []) (σ2 := s2) (fun f => rfl) (rfl) ?_
  exact hn W1 s2 ⟨hR1.fr r2, hM2, hn1⟩
set_option maxRecDepth 20000 in
theorem pi_L_copy {xs : Nat → Int32} {L d : Nat} {W : zW} {σ : pi_S} {i : Nat} (hL : L ≤ 3072) (hi : i + 6 ≤ L) (hJ : z_J W σ) {Q : Option Value → pi_S → Prop} (hn : ∀ W s, z_J W s → pi_wp xs L (d + 12) 0 1231 [some (.ref 1000), some (.ref 0), some (.ref 56), some (.int (nI i))] [] s Q) : pi_wp xs L (d + 12) 0 1098 [some (.ref 1000), some (.ref 0), some (.ref 56), some (.int (nI i))] [] σ Q := by
  obtain ⟨W1, v1, hn1, hA, hB⟩ := pi_J_copy hJ (xs (i + 1)) (xs (i + 2)) (xs (i + 3)) (xs (i + 4)) (xs (i + 5))
  refine pi_go 5 (pc' := 1103) (l' := [some (.ref 1000), some (.ref 0), some (.ref 56), some (.int (nI i))]) (st' := [.int (nI i + nI 1), .ref 1000, .ref 0]) (σ' := σ) (fun f => rfl) ?_
  refine pi_tp (y := nI (i + 1)) (nI_add _ _) ?_
  refine pi_ai 1 (u := i + 1) (n := L) (g := xs) (pc' := 1104) (l' := [some (.ref 1000), some (.ref 0), some (.ref 56), some (.int (nI i))]) (t := [.ref 0]) (σ' := σ) (fun f => rfl) (by omega) (by omega) ?_
  refine pi_go 4 (pc' := 1108) (l' := [some (.ref 1000), some (.ref 0), some (.ref 56), some (.int (nI i))]) (st' := [.int (nI i + nI 2), .ref 1000, .int (xs (i + 1)), .ref 0]) (σ' := σ) (fun f => rfl) ?_
  refine pi_tp (y := nI (i + 2)) (nI_add _ _) ?_
  refine pi_ai 1 (u := i + 2) (n := L) (g := xs) (pc' := 1109) (l' := [some (.ref 1000), some (.ref 0), some (.ref 56), some (.int (nI i))]) (t := [.int (xs (i + 1)), .ref 0]) (σ' := σ) (fun f => rfl) (by omega) (by omega) ?_
  refine pi_go 4 (pc' := 1113) (l' := [some (.ref 1000), some (.ref 0), some (.ref 56), some (.int (nI i))]) (st' := [.int (nI i + nI 3), .ref 1000, .int (xs (i + 2)), .int (xs (i + 1)), .ref 0]) (σ' := σ) (fun f => rfl) ?_
  refine pi_tp (y := nI (i + 3)) (nI_add _ _) ?_
  refine pi_ai 1 (u := i + 3) (n := L) (g := xs) (pc' := 1114) (l' := [some (.ref 1000), some (.ref 0), some (.ref 56), some (.int (nI i))]) (t := [.int (xs (i + 2)), .int (xs (i + 1)), .ref 0]) (σ' := σ) (fun f => rfl) (by omega) (by omega) ?_
  refine pi_go 4 (pc' := 1118) (l' := [some (.ref 1000), some (.ref 0), some (.ref 56), some (.int (nI i))]) (st' := [.int (nI i + nI 4), .ref 1000, .int (xs (i + 3)), .int (xs (i + 2)), .int (xs (i + 1)), .ref 0]) (σ' := σ) (fun f => rfl) ?_
  refine pi_tp (y := nI (i + 4)) (nI_add _ _) ?_
  refine pi_ai 1 (u := i + 4) (n := L) (g := xs) (pc' := 1119) (l' := [some (.ref 1000), some (.ref 0), some (.ref 56), some (.int (nI i))]) (t := [.int (xs (i + 3)), .int (xs (i + 2)), .int (xs (i + 1)), .ref 0]) (σ' := σ) (fun f => rfl) (by omega) (by omega) ?_
  refine pi_go 4 (pc' := 1123) (l' := [some (.ref 1000), some (.ref 0), some (.ref 56), some (.int (nI i))]) (st' := [.int (nI i + nI 5), .ref 1000, .int (xs (i + 4)), .int (xs (i + 3)), .int (xs (i + 2)), .int (xs (i + 1)), .ref 0]) (σ' := σ) (fun f => rfl) ?_
  refine pi_tp (y := nI (i + 5)) (nI_add _ _) ?_
  refine pi_ai 1 (u := i + 5) (n := L) (g := xs) (pc' := 1124) (l' := [some (.ref 1000), some (.ref 0), some (.ref 56), some (.int (nI i))]) (t := [.int (xs (i + 4)), .int (xs (i + 3)), .int (xs (i + 2)), .int (xs (i + 1)), .ref 0]) (σ' := σ) (fun f => rfl) (by omega) (by omega) ?_
  refine pi_ca 1 (m' := 90) (l' := [some (.ref 0), some (.int (xs (i + 1))), some (.int (xs (i + 2))), some (.int (xs (i + 3))), some (.int (xs (i + 4))), some (.int (xs (i + 5))), none, none]) (σ' := σ) (pc2 := 1127) (l2 := [some (.ref 1000), some (.ref 0), some (.ref 56), some (.int (nI i))]) (t := []) (fun f => rfl) (hA xs L _) ?_
  rintro _ s1 ⟨rfl, hR1, r1⟩
  refine pi_go 5 (pc' := 1132) (l' := [some (.ref 1000), some (.ref 0), some (.ref 56), some (.int (nI i))]) (st' := [.int (nI i + nI 1), .ref 1000, .ref 56, .int v1]) (σ' := s1) (fun f => rfl) ?_
  refine pi_tp (y := nI (i + 1)) (nI_add _ _) ?_
  refine pi_ai 1 (u := i + 1) (n := L) (g := xs) (pc' := 1133) (l' := [some (.ref 1000), some (.ref 0), some (.ref 56), some (.int (nI i))]) (t := [.ref 56, .int v1]) (σ' := s1) (fun f => rfl) (by omega) (by omega) ?_
  refine pi_go 4 (pc' := 1137) (l' := [some (.ref 1000), some (.ref 0), some (.ref 56), some (.int (nI i))]) (st' := [.int (nI i + nI 2), .ref 1000, .int (xs (i + 1)), .ref 56, .int v1]) (σ' := s1) (fun f => rfl) ?_
  refine pi_tp (y := nI (i + 2)) (nI_add _ _) ?_
  refine pi_ai 1 (u := i + 2) (n := L) (g := xs) (pc' := 1138) (l' := [some (.ref 1000), some (.ref 0), some (.ref 56), some (.int (nI i))]) (t := [.int (xs (i + 1)), .ref 56, .int v1]) (σ' := s1) (fun f => rfl) (by omega) (by omega) ?_
  refine pi_go 4 (pc' := 1142) (l' := [some (.ref 1000), some (.ref 0), some (.ref 56), some (.int (nI i))]) (st' := [.int (nI i + nI 3), .ref 1000, .int (xs (i + 2)), .int (xs (i + 1)), .ref 56, .int v1]) (σ' := s1) (fun f => rfl) ?_
  refine pi_tp (y := nI (i + 3)) (nI_add _ _) ?_
  refine pi_ai 1 (u := i + 3) (n := L) (g := xs) (pc' := 1143) (l' := [some (.ref 1000), some (.ref 0), some (.ref 56), some (.int (nI i))]) (t := [.int (xs (i + 2)), .int (xs (i + 1)), .ref 56, .int v1]) (σ' := s1) (fun f => rfl) (by omega) (by omega) ?_
  refine pi_go 4 (pc' := 1147) (l' := [some (.ref 1000), some (.ref 0), some (.ref 56), some (.int (nI i))]) (st' := [.int (nI i + nI 4), .ref 1000, .int (xs (i + 3)), .int (xs (i + 2)), .int (xs (i + 1)), .ref 56, .int v1]) (σ' := s1) (fun f => rfl) ?_
  refine pi_tp (y := nI (i + 4)) (nI_add _ _) ?_
  refine pi_ai 1 (u := i + 4) (n := L) (g := xs) (pc' := 1148) (l' := [some (.ref 1000), some (.ref 0), some (.ref 56), some (.int (nI i))]) (t := [.int (xs (i + 3)), .int (xs (i + 2)), .int (xs (i + 1)), .ref 56, .int v1]) (σ' := s1) (fun f => rfl) (by omega) (by omega) ?_
  refine pi_go 4 (pc' := 1152) (l' := [some (.ref 1000), some (.ref 0), some (.ref 56), some (.int (nI i))]) (st' := [.int (nI i + nI 5), .ref 1000, .int (xs (i + 4)), .int (xs (i + 3)), .int (xs (i + 2)), .int (xs (i + 1)), .ref 56, .int v1]) (σ' := s1) (fun f => rfl) ?_
  refine pi_tp (y := nI (i + 5)) (nI_add _ _) ?_
  refine pi_ai 1 (u := i + 5) (n := L) (g := xs) (pc' := 1153) (l' := [some (.ref 1000), some (.ref 0), some (.ref 56), some (.int (nI i))]) (t := [.int (xs (i + 4)), .int (xs (i + 3)), .int (xs (i + 2)), .int (xs (i + 1)), .ref 56, .int v1]) (σ' := s1) (fun f => rfl) (by omega) (by omega) ?_
  refine pi_ca 1 (m' := 170) (l' := [some (.ref 56), some (.int (xs (i + 1))), some (.int (xs (i + 2))), some (.int (xs (i + 3))), some (.int (xs (i + 4))), some (.int (xs (i + 5))), none]) (σ' := s1) (pc2 := 1156) (l2 := [some (.ref 1000), some (.ref 0), some (.ref 56), some (.int (nI i))]) (t := [.int v1]) (fun f => rfl) (hB xs L _ s1 (hJ.2.1.fr r1)) ?_
  rintro _ s2 ⟨rfl, hM2, r2⟩
  refine pi_ct 1 (c := v1 = v1) (pc' := 1231) (l' := [some (.ref 1000), some (.ref 0), some (.ref 56), some (.int (nI i))]) (st' := []) (σ' := s2) (pc2 := 1159) (l2 := [some (.ref 1000), some (.ref 0), some (.ref 56), some (.int (nI i))]) (st2 := []) (σ2 := s2) (fun f => rfl) (rfl) ?_
  exact hn W1 s2 ⟨hR1.fr r2, hM2, hn1⟩
set_option maxRecDepth 20000 in
theorem pi_L_write {xs : Nat → Int32} {L d : Nat} {W : zW} {σ : pi_S} {i : Nat} (hL : L ≤ 3072) (hi : i + 6 ≤ L) (hJ : z_J W σ) {Q : Option Value → pi_S → Prop} (hn : ∀ W s, z_J W s → pi_wp xs L (d + 12) 0 1231 [some (.ref 1000), some (.ref 0), some (.ref 56), some (.int (nI i))] [] s Q) : pi_wp xs L (d + 12) 0 1161 [some (.ref 1000), some (.ref 0), some (.ref 56), some (.int (nI i))] [] σ Q := by
  obtain ⟨W1, v1, hn1, hA, hB⟩ := pi_J_write hJ (xs (i + 1)) (xs (i + 2))
  refine pi_go 5 (pc' := 1166) (l' := [some (.ref 1000), some (.ref 0), some (.ref 56), some (.int (nI i))]) (st' := [.int (nI i + nI 1), .ref 1000, .ref 0]) (σ' := σ) (fun f => rfl) ?_
  refine pi_tp (y := nI (i + 1)) (nI_add _ _) ?_
  refine pi_ai 1 (u := i + 1) (n := L) (g := xs) (pc' := 1167) (l' := [some (.ref 1000), some (.ref 0), some (.ref 56), some (.int (nI i))]) (t := [.ref 0]) (σ' := σ) (fun f => rfl) (by omega) (by omega) ?_
  refine pi_go 4 (pc' := 1171) (l' := [some (.ref 1000), some (.ref 0), some (.ref 56), some (.int (nI i))]) (st' := [.int (nI i + nI 2), .ref 1000, .int (xs (i + 1)), .ref 0]) (σ' := σ) (fun f => rfl) ?_
  refine pi_tp (y := nI (i + 2)) (nI_add _ _) ?_
  refine pi_ai 1 (u := i + 2) (n := L) (g := xs) (pc' := 1172) (l' := [some (.ref 1000), some (.ref 0), some (.ref 56), some (.int (nI i))]) (t := [.int (xs (i + 1)), .ref 0]) (σ' := σ) (fun f => rfl) (by omega) (by omega) ?_
  refine pi_ca 1 (m' := 91) (l' := [some (.ref 0), some (.int (xs (i + 1))), some (.int (xs (i + 2))), none, none, none, none]) (σ' := σ) (pc2 := 1175) (l2 := [some (.ref 1000), some (.ref 0), some (.ref 56), some (.int (nI i))]) (t := []) (fun f => rfl) (hA xs L _) ?_
  rintro _ s1 ⟨rfl, hR1, r1⟩
  refine pi_go 5 (pc' := 1180) (l' := [some (.ref 1000), some (.ref 0), some (.ref 56), some (.int (nI i))]) (st' := [.int (nI i + nI 1), .ref 1000, .ref 56, .int v1]) (σ' := s1) (fun f => rfl) ?_
  refine pi_tp (y := nI (i + 1)) (nI_add _ _) ?_
  refine pi_ai 1 (u := i + 1) (n := L) (g := xs) (pc' := 1181) (l' := [some (.ref 1000), some (.ref 0), some (.ref 56), some (.int (nI i))]) (t := [.ref 56, .int v1]) (σ' := s1) (fun f => rfl) (by omega) (by omega) ?_
  refine pi_go 4 (pc' := 1185) (l' := [some (.ref 1000), some (.ref 0), some (.ref 56), some (.int (nI i))]) (st' := [.int (nI i + nI 2), .ref 1000, .int (xs (i + 1)), .ref 56, .int v1]) (σ' := s1) (fun f => rfl) ?_
  refine pi_tp (y := nI (i + 2)) (nI_add _ _) ?_
  refine pi_ai 1 (u := i + 2) (n := L) (g := xs) (pc' := 1186) (l' := [some (.ref 1000), some (.ref 0), some (.ref 56), some (.int (nI i))]) (t := [.int (xs (i + 1)), .ref 56, .int v1]) (σ' := s1) (fun f => rfl) (by omega) (by omega) ?_
  refine pi_ca 1 (m' := 171) (l' := [some (.ref 56), some (.int (xs (i + 1))), some (.int (xs (i + 2))), none]) (σ' := s1) (pc2 := 1189) (l2 := [some (.ref 1000), some (.ref 0), some (.ref 56), some (.int (nI i))]) (t := [.int v1]) (fun f => rfl) (hB xs L _ s1 (hJ.2.1.fr r1)) ?_
  rintro _ s2 ⟨rfl, hM2, r2⟩
  refine pi_ct 1 (c := v1 = v1) (pc' := 1231) (l' := [some (.ref 1000), some (.ref 0), some (.ref 56), some (.int (nI i))]) (st' := []) (σ' := s2) (pc2 := 1192) (l2 := [some (.ref 1000), some (.ref 0), some (.ref 56), some (.int (nI i))]) (st2 := []) (σ2 := s2) (fun f => rfl) (rfl) ?_
  exact hn W1 s2 ⟨hR1.fr r2, hM2, hn1⟩
set_option maxRecDepth 20000 in
theorem pi_L_count {xs : Nat → Int32} {L d : Nat} {W : zW} {σ : pi_S} {i : Nat} (hL : L ≤ 3072) (hi : i + 6 ≤ L) (hJ : z_J W σ) {Q : Option Value → pi_S → Prop} (hn : ∀ W s, z_J W s → pi_wp xs L (d + 12) 0 1231 [some (.ref 1000), some (.ref 0), some (.ref 56), some (.int (nI i))] [] s Q) : pi_wp xs L (d + 12) 0 1194 [some (.ref 1000), some (.ref 0), some (.ref 56), some (.int (nI i))] [] σ Q := by
  obtain ⟨W1, v1, hn1, hA, hB⟩ := pi_J_count hJ (xs (i + 1))
  refine pi_go 5 (pc' := 1199) (l' := [some (.ref 1000), some (.ref 0), some (.ref 56), some (.int (nI i))]) (st' := [.int (nI i + nI 1), .ref 1000, .ref 0]) (σ' := σ) (fun f => rfl) ?_
  refine pi_tp (y := nI (i + 1)) (nI_add _ _) ?_
  refine pi_ai 1 (u := i + 1) (n := L) (g := xs) (pc' := 1200) (l' := [some (.ref 1000), some (.ref 0), some (.ref 56), some (.int (nI i))]) (t := [.ref 0]) (σ' := σ) (fun f => rfl) (by omega) (by omega) ?_
  refine pi_ca 1 (m' := 92) (l' := [some (.ref 0), some (.int (xs (i + 1)))]) (σ' := σ) (pc2 := 1203) (l2 := [some (.ref 1000), some (.ref 0), some (.ref 56), some (.int (nI i))]) (t := []) (fun f => rfl) (hA xs L _) ?_
  rintro _ s1 ⟨rfl, hR1, r1⟩
  refine pi_go 5 (pc' := 1208) (l' := [some (.ref 1000), some (.ref 0), some (.ref 56), some (.int (nI i))]) (st' := [.int (nI i + nI 1), .ref 1000, .ref 56, .int v1]) (σ' := s1) (fun f => rfl) ?_
  refine pi_tp (y := nI (i + 1)) (nI_add _ _) ?_
  refine pi_ai 1 (u := i + 1) (n := L) (g := xs) (pc' := 1209) (l' := [some (.ref 1000), some (.ref 0), some (.ref 56), some (.int (nI i))]) (t := [.ref 56, .int v1]) (σ' := s1) (fun f => rfl) (by omega) (by omega) ?_
  refine pi_ca 1 (m' := 173) (l' := [some (.ref 56), some (.int (xs (i + 1)))]) (σ' := s1) (pc2 := 1212) (l2 := [some (.ref 1000), some (.ref 0), some (.ref 56), some (.int (nI i))]) (t := [.int v1]) (fun f => rfl) (hB xs L _ s1 (hJ.2.1.fr r1)) ?_
  rintro _ s2 ⟨rfl, hM2, r2⟩
  refine pi_ct 1 (c := v1 = v1) (pc' := 1231) (l' := [some (.ref 1000), some (.ref 0), some (.ref 56), some (.int (nI i))]) (st' := []) (σ' := s2) (pc2 := 1215) (l2 := [some (.ref 1000), some (.ref 0), some (.ref 56), some (.int (nI i))]) (st2 := []) (σ2 := s2) (fun f => rfl) (rfl) ?_
  exact hn W1 s2 ⟨hR1.fr r2, hM2, hn1⟩
set_option maxRecDepth 20000 in
theorem pi_L_digest {xs : Nat → Int32} {L d : Nat} {W : zW} {σ : pi_S} {i : Nat} (hL : L ≤ 3072) (hi : i + 6 ≤ L) (hJ : z_J W σ) {Q : Option Value → pi_S → Prop} (hn : ∀ W s, z_J W s → pi_wp xs L (d + 12) 0 1231 [some (.ref 1000), some (.ref 0), some (.ref 56), some (.int (nI i))] [] s Q) : pi_wp xs L (d + 12) 0 1217 [some (.ref 1000), some (.ref 0), some (.ref 56), some (.int (nI i))] [] σ Q := by
  obtain ⟨W1, v1, hn1, hA, hB⟩ := pi_J_digest hJ
  refine pi_ca 2 (m' := 93) (l' := [some (.ref 0), none, none, none, none]) (σ' := σ) (pc2 := 1221) (l2 := [some (.ref 1000), some (.ref 0), some (.ref 56), some (.int (nI i))]) (t := []) (fun f => rfl) (hA xs L _) ?_
  rintro _ s1 ⟨rfl, hR1, r1⟩
  refine pi_ca 2 (m' := 174) (l' := [some (.ref 56), none, none, none, none]) (σ' := s1) (pc2 := 1225) (l2 := [some (.ref 1000), some (.ref 0), some (.ref 56), some (.int (nI i))]) (t := [.long v1]) (fun f => rfl) (hB xs L _ s1 (hJ.2.1.fr r1)) ?_
  rintro _ s2 ⟨rfl, hM2, r2⟩
  refine pi_ct 2 (c := lg_cmp v1 v1 = 0) (pc' := 1231) (l' := [some (.ref 1000), some (.ref 0), some (.ref 56), some (.int (nI i))]) (st' := []) (σ' := s2) (pc2 := 1229) (l2 := [some (.ref 1000), some (.ref 0), some (.ref 56), some (.int (nI i))]) (st2 := []) (σ2 := s2) (fun f => rfl) (z_lcmp0 _) ?_
  exact hn W1 s2 ⟨hR1.fr r2, hM2, hn1⟩
set_option maxRecDepth 20000 in
theorem pi_L_head {xs : Nat → Int32} {L d : Nat} {W : zW} {σ : pi_S} {i : Nat} (hL : L ≤ 3072) (hi : i ≤ 3072) (hJ : z_J W σ) (hn : i + 6 ≤ L → ∀ W s, z_J W s → pi_wp xs L (d + 12) 0 18 [some (.ref 1000), some (.ref 0), some (.ref 56), some (.int (nI (i + 6)))] [] s (fun v s => v = some (.int (nI 1)))) : pi_wp xs L (d + 12) 0 18 [some (.ref 1000), some (.ref 0), some (.ref 56), some (.int (nI i))] [] σ (fun v s => v = some (.int (nI 1))) := by
  refine pi_if 6 (c := (nI L) - (nI 6) < nI i) (pc' := 1237) (l' := [some (.ref 1000), some (.ref 0), some (.ref 56), some (.int (nI i))]) (st' := []) (σ' := σ) (pc2 := 27) (l2 := [some (.ref 1000), some (.ref 0), some (.ref 56), some (.int (nI i))]) (st2 := []) (σ2 := σ) (fun f => rfl) (fun h1 => ?_) (fun h1 => ?_)
  · refine pi_rb 2 (c := (nI 1) &&& 1 = nI 1) (v := some (.int (nI 1))) (σ' := σ) (fun f => rfl) (by decide) ?_
    rfl
  · have hi6 : i + 6 ≤ L := by
      have hq : ¬ L < i + 6 := fun q => h1 ((z_L6 hL hi).mpr q)
      omega
    refine pi_ai 3 (u := i) (n := L) (g := xs) (pc' := 30) (l' := [some (.ref 1000), some (.ref 0), some (.ref 56), some (.int (nI i))]) (t := []) (σ' := σ) (fun f => rfl) (by omega) (by omega) ?_
    refine pi_go 2 (pc' := 33) (l' := [some (.ref 1000), some (.ref 0), some (.ref 56), some (.int (nI i))]) (st' := [.int ((xs i) &&& (nI 63))]) (σ' := σ) (fun f => rfl) ?_
    obtain ⟨m, hm, e⟩ := z_and63 (xs i)
    rw [e]
    have hnx : ∀ W s, z_J W s → pi_wp xs L (d + 12) 0 1231 [some (.ref 1000), some (.ref 0), some (.ref 56), some (.int (nI i))] [] s (fun v s => v = some (.int (nI 1))) := by
      intro W s hJ
      refine pi_go 1 (pc' := 1234) (l' := [some (.ref 1000), some (.ref 0), some (.ref 56), some (.int (nI i + nI 6))]) (st' := []) (σ' := s) (fun f => rfl) ?_
      rw [show nI i + nI 6 = nI (i + 6) from nI_add _ 6]
      refine pi_go 1 (pc' := 18) (l' := [some (.ref 1000), some (.ref 0), some (.ref 56), some (.int (nI (i + 6)))]) (st' := []) (σ' := s) (fun f => rfl) ?_
      exact hn hi6 W s hJ
    have hms : m = 0 ∨ m = 1 ∨ m = 2 ∨ m = 3 ∨ m = 4 ∨ m = 5 ∨ m = 6 ∨ m = 7 ∨ m = 8 ∨ m = 9 ∨ m = 10 ∨ m = 11 ∨ m = 12 ∨ m = 13 ∨ m = 14 ∨ m = 15 ∨ m = 16 ∨ m = 17 ∨ m = 18 ∨ m = 19 ∨ m = 20 ∨ m = 21 ∨ m = 22 ∨ m = 23 ∨ m = 24 ∨ m = 25 ∨ m = 26 ∨ m = 27 ∨ m = 28 ∨ m = 29 ∨ m = 30 ∨ m = 31 ∨ m = 32 ∨ 33 ≤ m := by omega
    rcases hms with rfl | rfl | rfl | rfl | rfl | rfl | rfl | rfl | rfl | rfl | rfl | rfl | rfl | rfl | rfl | rfl | rfl | rfl | rfl | rfl | rfl | rfl | rfl | rfl | rfl | rfl | rfl | rfl | rfl | rfl | rfl | rfl | rfl | h33
    · exact pi_go 1 (fun f => rfl) (pi_L_type hL hi6 hJ hnx)
    · exact pi_go 1 (fun f => rfl) (pi_L_wipe hL hi6 hJ hnx)
    · exact pi_go 1 (fun f => rfl) (pi_L_fault hL hi6 hJ hnx)
    · exact pi_go 1 (fun f => rfl) (pi_L_height hL hi6 hJ hnx)
    · exact pi_go 1 (fun f => rfl) (pi_L_street hL hi6 hJ hnx)
    · exact pi_go 1 (fun f => rfl) (pi_L_set hL hi6 hJ hnx)
    · exact pi_go 1 (fun f => rfl) (pi_L_read hL hi6 hJ hnx)
    · exact pi_go 1 (fun f => rfl) (pi_L_fall hL hi6 hJ hnx)
    · exact pi_go 1 (fun f => rfl) (pi_L_sweep hL hi6 hJ hnx)
    · exact pi_go 1 (fun f => rfl) (pi_L_cart hL hi6 hJ hnx)
    · exact pi_go 1 (fun f => rfl) (pi_L_rain hL hi6 hJ hnx)
    · exact pi_go 1 (fun f => rfl) (pi_L_undo hL hi6 hJ hnx)
    · exact pi_go 1 (fun f => rfl) (pi_L_lies hL hi6 hJ hnx)
    · exact pi_go 1 (fun f => rfl) (pi_L_fine hL hi6 hJ hnx)
    · exact pi_go 1 (fun f => rfl) (pi_L_judged hL hi6 hJ hnx)
    · exact pi_go 1 (fun f => rfl) (pi_L_least hL hi6 hJ hnx)
    · exact pi_go 1 (fun f => rfl) (pi_L_nets hL hi6 hJ hnx)
    · exact pi_go 1 (fun f => rfl) (pi_L_cut hL hi6 hJ hnx)
    · exact pi_go 1 (fun f => rfl) (pi_L_bribe hL hi6 hJ hnx)
    · exact pi_go 1 (fun f => rfl) (pi_L_rests hL hi6 hJ hnx)
    · exact pi_go 1 (fun f => rfl) (pi_L_odds hL hi6 hJ hnx)
    · exact pi_go 1 (fun f => rfl) (pi_L_waits hL hi6 hJ hnx)
    · exact pi_go 1 (fun f => rfl) (pi_L_who hL hi6 hJ hnx)
    · exact pi_go 1 (fun f => rfl) (pi_L_origin hL hi6 hJ hnx)
    · exact pi_go 1 (fun f => rfl) (pi_L_best hL hi6 hJ hnx)
    · exact pi_go 1 (fun f => rfl) (pi_L_sheet hL hi6 hJ hnx)
    · exact pi_go 1 (fun f => rfl) (pi_L_lose hL hi6 hJ hnx)
    · exact pi_go 1 (fun f => rfl) (pi_L_put hL hi6 hJ hnx)
    · exact pi_go 1 (fun f => rfl) (pi_L_get hL hi6 hJ hnx)
    · exact pi_go 1 (fun f => rfl) (pi_L_copy hL hi6 hJ hnx)
    · exact pi_go 1 (fun f => rfl) (pi_L_write hL hi6 hJ hnx)
    · exact pi_go 1 (fun f => rfl) (pi_L_count hL hi6 hJ hnx)
    · exact pi_go 1 (fun f => rfl) (pi_L_digest hL hi6 hJ hnx)
    · exact pi_go 1 (fun f => if_pos (Or.inr (by rw [nI_toInt (by omega)]; omega))) (hnx W σ hJ)
theorem pi_L_loop {xs : Nat → Int32} {L d : Nat} (hL : L ≤ 3072) : ∀ n i, i ≤ L ∨ i = 0 → L ≤ i + n → ∀ (W : zW) (σ : pi_S), z_J W σ → pi_wp xs L (d + 12) 0 18 [some (.ref 1000), some (.ref 0), some (.ref 56), some (.int (nI i))] [] σ (fun v s => v = some (.int (nI 1))) := by
  intro n
  induction n with
  | zero => intro i h1 h2 W σ hJ; exact pi_L_head hL (by omega) hJ (fun h => absurd h (by omega))
  | succ n ih => intro i h1 h2 W σ hJ; exact pi_L_head hL (by omega) hJ (fun h W s hJ => ih (i + 6) (Or.inl h) (by omega) W s hJ)
theorem pi_L_all {xs : Nat → Int32} {L d : Nat} (hL : L ≤ 3072) {W : zW} {σ : pi_S} (hJ : z_J W σ) : pi_wp xs L (d + 12) 0 18 [some (.ref 1000), some (.ref 0), some (.ref 56), some (.int (nI 0))] [] σ (fun v s => v = some (.int (nI 1))) := pi_L_loop hL L 0 (Or.inr rfl) (by omega) W σ hJ
