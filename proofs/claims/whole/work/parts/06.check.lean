/-! what the tables are held to: each row is the code's own, and its words stand among the Statement's -/
def pi_len (i : Instr) : Nat := match i with
  | .bipush _ => 2
  | .iload _ => 2
  | .lload _ => 2
  | .aload _ => 2
  | .istore _ => 2
  | .lstore _ => 2
  | .astore _ => 2
  | .sipush _ => 3
  | .iinc _ _ => 3
  | .ldc_w _ => 3
  | .ldc2_w _ => 3
  | .getfield _ => 3
  | .putfield _ => 3
  | .invokevirtual _ => 3
  | .invokestatic _ => 3
  | .goto _ => 3
  | .ifCond _ _ => 3
  | .if_icmp _ _ => 3
  | _ => 1
def pi_cl (ci : Nat) : vw_C := vwCl.getD ci ("", TX0, 0)
def pi_ok (m : Nat) (r : pi_Row) : Prop := match r with
  | (pc, n, u, v, w, i) => (match i with
    | .tableswitch _ _ _ _ => decode (pi_mt m).2.1 pc = .ok (i, n - pc)
    | .new _ => True
    | .invokespecial _ => True
    | _ => decode (pi_mt m).2.1 pc = .ok (i, pi_len i) ∧ n = pc + pi_len i) ∧ (match i with
    | .goto off => (pc : Int) + off = (u : Int)
    | .ifCond _ off => (pc : Int) + off = (u : Int)
    | .if_icmp _ off => (pc : Int) + off = (u : Int)
    | .istore_n k => k.val < (pi_mt m).2.2.1
    | .istore k => k < (pi_mt m).2.2.1
    | .astore_n k => k.val < (pi_mt m).2.2.1
    | .astore k => k < (pi_mt m).2.2.1
    | .lstore_n k => k.val + 1 < (pi_mt m).2.2.1
    | .lstore k => k + 1 < (pi_mt m).2.2.1
    | .iinc k z => k < (pi_mt m).2.2.1 ∧ Int32.ofInt z = (if w = 0 then nI u else -(nI u))
    | .bipush z => (Int8.ofInt z).toInt32 = Int32.ofInt z
    | .sipush z => (Int16.ofInt z).toInt32 = Int32.ofInt z
    | .ldc_w idx => Cond.constant (pi_mt m).1.cls idx (Int32.ofNat u) ∈ pi_wl (pi_mc m)
    | .ldc2_w idx => Cond.constantLong (pi_mt m).1.cls idx (Int64.ofNat u) ∈ pi_wl (pi_mc m)
    | .getfield idx => u < 11 ∧ Cond.fieldLink (pi_mt m).1.cls idx ((pi_cl u).2.1 v).1 ((pi_cl u).2.1 v).2.1 ((pi_cl u).2.1 v).2.2.1 ∈ pi_wl (pi_mc m)
    | .putfield idx => u < 11 ∧ Cond.fieldLink (pi_mt m).1.cls idx ((pi_cl u).2.1 v).1 ((pi_cl u).2.1 v).2.1 ((pi_cl u).2.1 v).2.2.1 ∈ pi_wl (pi_mc m) ∧ ((pi_cl u).2.1 v).2.2.2 = false ∧ (((pi_cl u).2.1 v).2.2.1 = "I" ∨ (((pi_cl u).2.1 v).2.2.1 = "Z" ∧ w = 1))
    | .invokevirtual idx => w < 11 ∧ (pi_cl w).1 = (pi_mt u).1.cls ∧ v = pi_na u ∧ pi_ms u = false ∧ Cond.methodLink (pi_mt m).1.cls idx (pi_mt u).1 ∈ pi_wl (pi_mc m) ∧ 0 < u ∧ u < pi_M
    | .invokestatic idx => if w = 2 then Cond.methodLink (pi_mt m).1.cls idx arraycopyName ∈ pi_wl (pi_mc m) else if w = 3 then Cond.methodLink (pi_mt m).1.cls idx Lib.Math.max.name ∈ pi_wl (pi_mc m) else if w = 4 then Cond.methodLink (pi_mt m).1.cls idx Lib.Math.min.name ∈ pi_wl (pi_mc m) else v = pi_na u ∧ pi_ms u = true ∧ (if w = 1 then Cond.methodLinkNest (pi_mt m).1.cls idx (pi_mt u).1 "SweptDownhill" ∈ pi_nest else Cond.methodLink (pi_mt m).1.cls idx (pi_mt u).1 ∈ pi_wl (pi_mc m)) ∧ 0 < u ∧ u < pi_M
    | .ireturn => (pi_mt m).2.2.2 = some .int ∨ ((pi_mt m).2.2.2 = some .boolean ∧ u = 1)
    | .lreturn => (pi_mt m).2.2.2 = some .long
    | .areturn => ∃ n, (pi_mt m).2.2.2 = some (.object n)
    | .return_ => (pi_mt m).2.2.2 = none
    | _ => True)
def pi_okB (m : Nat) (r : pi_Row) : Bool := match r with
  | (pc, n, u, v, w, i) => (match i with
    | .tableswitch _ _ _ _ => decide (decode (pi_mt m).2.1 pc = .ok (i, n - pc))
    | .new _ => true
    | .invokespecial _ => true
    | _ => decide (decode (pi_mt m).2.1 pc = .ok (i, pi_len i)) && (decide (n = pc + pi_len i))) && (match i with
    | .goto off => decide ((pc : Int) + off = (u : Int))
    | .ifCond _ off => decide ((pc : Int) + off = (u : Int))
    | .if_icmp _ off => decide ((pc : Int) + off = (u : Int))
    | .istore_n k => decide (k.val < (pi_mt m).2.2.1)
    | .istore k => decide (k < (pi_mt m).2.2.1)
    | .astore_n k => decide (k.val < (pi_mt m).2.2.1)
    | .astore k => decide (k < (pi_mt m).2.2.1)
    | .lstore_n k => decide (k.val + 1 < (pi_mt m).2.2.1)
    | .lstore k => decide (k + 1 < (pi_mt m).2.2.1)
    | .iinc k z => decide (k < (pi_mt m).2.2.1) && (decide (Int32.ofInt z = (if w = 0 then nI u else -(nI u))))
    | .bipush z => decide ((Int8.ofInt z).toInt32 = Int32.ofInt z)
    | .sipush z => decide ((Int16.ofInt z).toInt32 = Int32.ofInt z)
    | .ldc_w idx => decide (Cond.constant (pi_mt m).1.cls idx (Int32.ofNat u) ∈ pi_wl (pi_mc m))
    | .ldc2_w idx => decide (Cond.constantLong (pi_mt m).1.cls idx (Int64.ofNat u) ∈ pi_wl (pi_mc m))
    | .getfield idx => decide (u < 11) && (decide (Cond.fieldLink (pi_mt m).1.cls idx ((pi_cl u).2.1 v).1 ((pi_cl u).2.1 v).2.1 ((pi_cl u).2.1 v).2.2.1 ∈ pi_wl (pi_mc m)))
    | .putfield idx => decide (u < 11) && (decide (Cond.fieldLink (pi_mt m).1.cls idx ((pi_cl u).2.1 v).1 ((pi_cl u).2.1 v).2.1 ((pi_cl u).2.1 v).2.2.1 ∈ pi_wl (pi_mc m)) && (decide (((pi_cl u).2.1 v).2.2.2 = false) && (decide ((((pi_cl u).2.1 v).2.2.1 = "I" ∨ (((pi_cl u).2.1 v).2.2.1 = "Z" ∧ w = 1))))))
    | .invokevirtual idx => decide (w < 11) && (decide ((pi_cl w).1 = (pi_mt u).1.cls) && (decide (v = pi_na u) && (decide (pi_ms u = false) && (decide (Cond.methodLink (pi_mt m).1.cls idx (pi_mt u).1 ∈ pi_wl (pi_mc m)) && (decide (0 < u) && (decide (u < pi_M)))))))
    | .invokestatic idx => if w = 2 then decide (Cond.methodLink (pi_mt m).1.cls idx arraycopyName ∈ pi_wl (pi_mc m)) else if w = 3 then decide (Cond.methodLink (pi_mt m).1.cls idx Lib.Math.max.name ∈ pi_wl (pi_mc m)) else if w = 4 then decide (Cond.methodLink (pi_mt m).1.cls idx Lib.Math.min.name ∈ pi_wl (pi_mc m)) else decide (v = pi_na u) && (decide (pi_ms u = true) && ((if w = 1 then decide (Cond.methodLinkNest (pi_mt m).1.cls idx (pi_mt u).1 "SweptDownhill" ∈ pi_nest) else decide (Cond.methodLink (pi_mt m).1.cls idx (pi_mt u).1 ∈ pi_wl (pi_mc m))) && (decide (0 < u) && (decide (u < pi_M)))))
    | .ireturn => decide ((pi_mt m).2.2.2 = some .int ∨ ((pi_mt m).2.2.2 = some .boolean ∧ u = 1))
    | .lreturn => decide ((pi_mt m).2.2.2 = some .long)
    | .areturn => (match (pi_mt m).2.2.2 with
      | some (.object _) => true
      | _ => false)
    | .return_ => decide ((pi_mt m).2.2.2 = none)
    | _ => true)
theorem pi_ok_of (m : Nat) (r : pi_Row) (h : pi_okB m r = true) : pi_ok m r := by
  obtain ⟨pc, n, u, v, w, i⟩ := r
  simp only [pi_okB, Bool.and_eq_true] at h
  obtain ⟨h1, h2⟩ := h
  refine ⟨?_, ?_⟩
  · cases i <;> first | trivial | exact of_decide_eq_true h1 | (simp only [Bool.and_eq_true, decide_eq_true_eq] at h1; exact h1)
  · cases i with
    | putfield idx =>
      rw [Bool.and_eq_true, Bool.and_eq_true, Bool.and_eq_true] at h2
      exact ⟨of_decide_eq_true h2.1, of_decide_eq_true h2.2.1, of_decide_eq_true h2.2.2.1, of_decide_eq_true h2.2.2.2⟩
    | areturn =>
      simp only at h2 ⊢
      split at h2
      · rename_i nm he; exact ⟨_, he⟩
      · cases h2
    | invokestatic idx =>
      simp only at h2 ⊢
      by_cases hw2 : w = 2
      · rw [if_pos hw2] at h2 ⊢; exact of_decide_eq_true h2
      rw [if_neg hw2] at h2 ⊢
      by_cases hw3 : w = 3
      · rw [if_pos hw3] at h2 ⊢; exact of_decide_eq_true h2
      rw [if_neg hw3] at h2 ⊢
      by_cases hw4 : w = 4
      · rw [if_pos hw4] at h2 ⊢; exact of_decide_eq_true h2
      rw [if_neg hw4] at h2 ⊢
      rw [Bool.and_eq_true, Bool.and_eq_true, Bool.and_eq_true, Bool.and_eq_true] at h2
      refine ⟨of_decide_eq_true h2.1, of_decide_eq_true h2.2.1, ?_, of_decide_eq_true h2.2.2.2.1, of_decide_eq_true h2.2.2.2.2⟩
      have h3 := h2.2.2.1
      by_cases hw1 : w = 1
      · rw [if_pos hw1] at h3 ⊢; exact of_decide_eq_true h3
      · rw [if_neg hw1] at h3 ⊢; exact of_decide_eq_true h3
    | _ => first | trivial | exact of_decide_eq_true h2 | (simp only [Bool.and_eq_true, decide_eq_true_eq] at h2; exact h2)
def pi_rowB (m pc : Nat) (o : Option pi_Row) : Bool := match o with
  | none => true
  | some r => Nat.beq r.1 pc && pi_okB m r
def pi_mOk (m : Nat) : Prop := Cond.initialized (pi_mt m).1.cls ∈ pi_wl (pi_mc m) ∧ plainName (pi_mt m).1.cls = true ∧ (pi_mt m).2.2.1 = pi_ml m ∧ pi_ml m ≤ 61 ∧ ((pi_mt m).1.cls ≠ "java/lang/invoke/MethodHandle" ∧ (pi_mt m).1.cls ≠ "java/lang/invoke/VarHandle" ∧ (parseMethodDescriptor (pi_mt m).1.desc).map (fun d => d.parameters.length) = some (pi_na m)) ∧
  (pi_ms m = true → Cond.static (pi_mt m).1 ∈ pi_wl (pi_mc m)) ∧ (pi_ms m = false → Cond.instanceMethod (pi_mt m).1 ∈ pi_wl (pi_mc m) ∧ Cond.selects (pi_mt m).1.cls (pi_mt m).1 (pi_mt m).1 ∈ pi_wl (pi_mc m))
def pi_mOkB (m : Nat) : Bool := (decide (Cond.initialized (pi_mt m).1.cls ∈ pi_wl (pi_mc m)) && (plainName (pi_mt m).1.cls && (decide ((pi_mt m).2.2.1 = pi_ml m) && (decide (pi_ml m ≤ 61) && (decide ((pi_mt m).1.cls ≠ "java/lang/invoke/MethodHandle" ∧ (pi_mt m).1.cls ≠ "java/lang/invoke/VarHandle" ∧ (parseMethodDescriptor (pi_mt m).1.desc).map (fun d => d.parameters.length) = some (pi_na m)) &&
  (cond (pi_ms m) (decide (Cond.static (pi_mt m).1 ∈ pi_wl (pi_mc m))) (decide (Cond.instanceMethod (pi_mt m).1 ∈ pi_wl (pi_mc m)) && decide (Cond.selects (pi_mt m).1.cls (pi_mt m).1 (pi_mt m).1 ∈ pi_wl (pi_mc m)))))))))
theorem pi_mOk_of (m : Nat) (h : pi_mOkB m = true) : pi_mOk m := by
  simp only [pi_mOkB, Bool.and_eq_true, decide_eq_true_eq] at h
  obtain ⟨h2, h3, h4, h5, h6, h7⟩ := h
  refine ⟨h2, h3, h4, h5, h6, fun q => ?_, fun q => ?_⟩
  · rw [q, cond_true] at h7
    exact of_decide_eq_true h7
  · rw [q, cond_false, Bool.and_eq_true] at h7
    exact ⟨of_decide_eq_true h7.1, of_decide_eq_true h7.2⟩
set_option maxRecDepth 100000 in
theorem pi_m_ok : ∀ m, 0 < m → m < pi_M → pi_mOk m := by
  have h : (List.range pi_M).all (fun m => Nat.beq m 0 || pi_mOkB m) = true := by decide +kernel
  intro m h0 hm
  have h1 := List.all_eq_true.mp h m (List.mem_range.mpr hm)
  rw [Bool.or_eq_true] at h1
  rcases h1 with h1 | h1
  · exact absurd (Nat.eq_of_beq_eq_true h1) (by omega)
  · exact pi_mOk_of m h1
set_option maxRecDepth 100000 in
theorem pi_r0_0 : (List.range 48).all (fun j => pi_rowB 0 (0 + j) (pi_t0 (0 + j))) = true := by decide +kernel
set_option maxRecDepth 100000 in
theorem pi_r0_1 : (List.range 48).all (fun j => pi_rowB 0 (48 + j) (pi_t0 (48 + j))) = true := by decide +kernel
set_option maxRecDepth 100000 in
theorem pi_r0_2 : (List.range 48).all (fun j => pi_rowB 0 (96 + j) (pi_t0 (96 + j))) = true := by decide +kernel
set_option maxRecDepth 100000 in
theorem pi_r0_3 : (List.range 48).all (fun j => pi_rowB 0 (144 + j) (pi_t0 (144 + j))) = true := by decide +kernel
set_option maxRecDepth 100000 in
theorem pi_r0_4 : (List.range 48).all (fun j => pi_rowB 0 (192 + j) (pi_t0 (192 + j))) = true := by decide +kernel
set_option maxRecDepth 100000 in
theorem pi_r0_5 : (List.range 48).all (fun j => pi_rowB 0 (240 + j) (pi_t0 (240 + j))) = true := by decide +kernel
set_option maxRecDepth 100000 in
theorem pi_r0_6 : (List.range 48).all (fun j => pi_rowB 0 (288 + j) (pi_t0 (288 + j))) = true := by decide +kernel
set_option maxRecDepth 100000 in
theorem pi_r0_7 : (List.range 48).all (fun j => pi_rowB 0 (336 + j) (pi_t0 (336 + j))) = true := by decide +kernel
set_option maxRecDepth 100000 in
theorem pi_r0_8 : (List.range 48).all (fun j => pi_rowB 0 (384 + j) (pi_t0 (384 + j))) = true := by decide +kernel
set_option maxRecDepth 100000 in
theorem pi_r0_9 : (List.range 48).all (fun j => pi_rowB 0 (432 + j) (pi_t0 (432 + j))) = true := by decide +kernel
set_option maxRecDepth 100000 in
theorem pi_r0_10 : (List.range 48).all (fun j => pi_rowB 0 (480 + j) (pi_t0 (480 + j))) = true := by decide +kernel
set_option maxRecDepth 100000 in
theorem pi_r0_11 : (List.range 48).all (fun j => pi_rowB 0 (528 + j) (pi_t0 (528 + j))) = true := by decide +kernel
set_option maxRecDepth 100000 in
theorem pi_r0_12 : (List.range 48).all (fun j => pi_rowB 0 (576 + j) (pi_t0 (576 + j))) = true := by decide +kernel
set_option maxRecDepth 100000 in
theorem pi_r0_13 : (List.range 48).all (fun j => pi_rowB 0 (624 + j) (pi_t0 (624 + j))) = true := by decide +kernel
set_option maxRecDepth 100000 in
theorem pi_r0_14 : (List.range 48).all (fun j => pi_rowB 0 (672 + j) (pi_t0 (672 + j))) = true := by decide +kernel
set_option maxRecDepth 100000 in
theorem pi_r0_15 : (List.range 48).all (fun j => pi_rowB 0 (720 + j) (pi_t0 (720 + j))) = true := by decide +kernel
set_option maxRecDepth 100000 in
theorem pi_r0_16 : (List.range 48).all (fun j => pi_rowB 0 (768 + j) (pi_t0 (768 + j))) = true := by decide +kernel
set_option maxRecDepth 100000 in
theorem pi_r0_17 : (List.range 48).all (fun j => pi_rowB 0 (816 + j) (pi_t0 (816 + j))) = true := by decide +kernel
set_option maxRecDepth 100000 in
theorem pi_r0_18 : (List.range 48).all (fun j => pi_rowB 0 (864 + j) (pi_t0 (864 + j))) = true := by decide +kernel
set_option maxRecDepth 100000 in
theorem pi_r0_19 : (List.range 48).all (fun j => pi_rowB 0 (912 + j) (pi_t0 (912 + j))) = true := by decide +kernel
set_option maxRecDepth 100000 in
theorem pi_r0_20 : (List.range 48).all (fun j => pi_rowB 0 (960 + j) (pi_t0 (960 + j))) = true := by decide +kernel
set_option maxRecDepth 100000 in
theorem pi_r0_21 : (List.range 48).all (fun j => pi_rowB 0 (1008 + j) (pi_t0 (1008 + j))) = true := by decide +kernel
set_option maxRecDepth 100000 in
theorem pi_r0_22 : (List.range 48).all (fun j => pi_rowB 0 (1056 + j) (pi_t0 (1056 + j))) = true := by decide +kernel
set_option maxRecDepth 100000 in
theorem pi_r0_23 : (List.range 48).all (fun j => pi_rowB 0 (1104 + j) (pi_t0 (1104 + j))) = true := by decide +kernel
set_option maxRecDepth 100000 in
theorem pi_r0_24 : (List.range 48).all (fun j => pi_rowB 0 (1152 + j) (pi_t0 (1152 + j))) = true := by decide +kernel
set_option maxRecDepth 100000 in
theorem pi_r0_25 : (List.range 39).all (fun j => pi_rowB 0 (1200 + j) (pi_t0 (1200 + j))) = true := by decide +kernel
theorem pi_q0 {pc : Nat} {r : pi_Row} (h : pi_t0 pc = some r) : r.1 = pc ∧ pi_ok 0 r := by
  have hp : pc < 1239 := by
    cases hx : Nat.blt pc 1239 with
    | true => exact Nat.le_of_ble_eq_true hx
    | false =>
      unfold pi_t0 at h
      rw [hx] at h
      cases h
  have h1 : pi_rowB 0 pc (pi_t0 pc) = true := by
    by_cases c0 : pc < 48
    · obtain ⟨j, rfl⟩ : ∃ j, pc = 0 + j := ⟨pc - 0, by omega⟩
      exact List.all_eq_true.mp pi_r0_0 j (List.mem_range.mpr (by omega))
    by_cases c1 : pc < 96
    · obtain ⟨j, rfl⟩ : ∃ j, pc = 48 + j := ⟨pc - 48, by omega⟩
      exact List.all_eq_true.mp pi_r0_1 j (List.mem_range.mpr (by omega))
    by_cases c2 : pc < 144
    · obtain ⟨j, rfl⟩ : ∃ j, pc = 96 + j := ⟨pc - 96, by omega⟩
      exact List.all_eq_true.mp pi_r0_2 j (List.mem_range.mpr (by omega))
    by_cases c3 : pc < 192
    · obtain ⟨j, rfl⟩ : ∃ j, pc = 144 + j := ⟨pc - 144, by omega⟩
      exact List.all_eq_true.mp pi_r0_3 j (List.mem_range.mpr (by omega))
    by_cases c4 : pc < 240
    · obtain ⟨j, rfl⟩ : ∃ j, pc = 192 + j := ⟨pc - 192, by omega⟩
      exact List.all_eq_true.mp pi_r0_4 j (List.mem_range.mpr (by omega))
    by_cases c5 : pc < 288
    · obtain ⟨j, rfl⟩ : ∃ j, pc = 240 + j := ⟨pc - 240, by omega⟩
      exact List.all_eq_true.mp pi_r0_5 j (List.mem_range.mpr (by omega))
    by_cases c6 : pc < 336
    · obtain ⟨j, rfl⟩ : ∃ j, pc = 288 + j := ⟨pc - 288, by omega⟩
      exact List.all_eq_true.mp pi_r0_6 j (List.mem_range.mpr (by omega))
    by_cases c7 : pc < 384
    · obtain ⟨j, rfl⟩ : ∃ j, pc = 336 + j := ⟨pc - 336, by omega⟩
      exact List.all_eq_true.mp pi_r0_7 j (List.mem_range.mpr (by omega))
    by_cases c8 : pc < 432
    · obtain ⟨j, rfl⟩ : ∃ j, pc = 384 + j := ⟨pc - 384, by omega⟩
      exact List.all_eq_true.mp pi_r0_8 j (List.mem_range.mpr (by omega))
    by_cases c9 : pc < 480
    · obtain ⟨j, rfl⟩ : ∃ j, pc = 432 + j := ⟨pc - 432, by omega⟩
      exact List.all_eq_true.mp pi_r0_9 j (List.mem_range.mpr (by omega))
    by_cases c10 : pc < 528
    · obtain ⟨j, rfl⟩ : ∃ j, pc = 480 + j := ⟨pc - 480, by omega⟩
      exact List.all_eq_true.mp pi_r0_10 j (List.mem_range.mpr (by omega))
    by_cases c11 : pc < 576
    · obtain ⟨j, rfl⟩ : ∃ j, pc = 528 + j := ⟨pc - 528, by omega⟩
      exact List.all_eq_true.mp pi_r0_11 j (List.mem_range.mpr (by omega))
    by_cases c12 : pc < 624
    · obtain ⟨j, rfl⟩ : ∃ j, pc = 576 + j := ⟨pc - 576, by omega⟩
      exact List.all_eq_true.mp pi_r0_12 j (List.mem_range.mpr (by omega))
    by_cases c13 : pc < 672
    · obtain ⟨j, rfl⟩ : ∃ j, pc = 624 + j := ⟨pc - 624, by omega⟩
      exact List.all_eq_true.mp pi_r0_13 j (List.mem_range.mpr (by omega))
    by_cases c14 : pc < 720
    · obtain ⟨j, rfl⟩ : ∃ j, pc = 672 + j := ⟨pc - 672, by omega⟩
      exact List.all_eq_true.mp pi_r0_14 j (List.mem_range.mpr (by omega))
    by_cases c15 : pc < 768
    · obtain ⟨j, rfl⟩ : ∃ j, pc = 720 + j := ⟨pc - 720, by omega⟩
      exact List.all_eq_true.mp pi_r0_15 j (List.mem_range.mpr (by omega))
    by_cases c16 : pc < 816
    · obtain ⟨j, rfl⟩ : ∃ j, pc = 768 + j := ⟨pc - 768, by omega⟩
      exact List.all_eq_true.mp pi_r0_16 j (List.mem_range.mpr (by omega))
    by_cases c17 : pc < 864
    · obtain ⟨j, rfl⟩ : ∃ j, pc = 816 + j := ⟨pc - 816, by omega⟩
      exact List.all_eq_true.mp pi_r0_17 j (List.mem_range.mpr (by omega))
    by_cases c18 : pc < 912
    · obtain ⟨j, rfl⟩ : ∃ j, pc = 864 + j := ⟨pc - 864, by omega⟩
      exact List.all_eq_true.mp pi_r0_18 j (List.mem_range.mpr (by omega))
    by_cases c19 : pc < 960
    · obtain ⟨j, rfl⟩ : ∃ j, pc = 912 + j := ⟨pc - 912, by omega⟩
      exact List.all_eq_true.mp pi_r0_19 j (List.mem_range.mpr (by omega))
    by_cases c20 : pc < 1008
    · obtain ⟨j, rfl⟩ : ∃ j, pc = 960 + j := ⟨pc - 960, by omega⟩
      exact List.all_eq_true.mp pi_r0_20 j (List.mem_range.mpr (by omega))
    by_cases c21 : pc < 1056
    · obtain ⟨j, rfl⟩ : ∃ j, pc = 1008 + j := ⟨pc - 1008, by omega⟩
      exact List.all_eq_true.mp pi_r0_21 j (List.mem_range.mpr (by omega))
    by_cases c22 : pc < 1104
    · obtain ⟨j, rfl⟩ : ∃ j, pc = 1056 + j := ⟨pc - 1056, by omega⟩
      exact List.all_eq_true.mp pi_r0_22 j (List.mem_range.mpr (by omega))
    by_cases c23 : pc < 1152
    · obtain ⟨j, rfl⟩ : ∃ j, pc = 1104 + j := ⟨pc - 1104, by omega⟩
      exact List.all_eq_true.mp pi_r0_23 j (List.mem_range.mpr (by omega))
    by_cases c24 : pc < 1200
    · obtain ⟨j, rfl⟩ : ∃ j, pc = 1152 + j := ⟨pc - 1152, by omega⟩
      exact List.all_eq_true.mp pi_r0_24 j (List.mem_range.mpr (by omega))
    obtain ⟨j, rfl⟩ : ∃ j, pc = 1200 + j := ⟨pc - 1200, by omega⟩
    exact List.all_eq_true.mp pi_r0_25 j (List.mem_range.mpr (by omega))
  simp only [pi_rowB, h, Bool.and_eq_true] at h1
  exact ⟨Nat.eq_of_beq_eq_true h1.1, pi_ok_of _ _ h1.2⟩
set_option maxRecDepth 100000 in
theorem pi_r1_0 : (List.range 48).all (fun j => pi_rowB 1 (0 + j) (pi_t1 (0 + j))) = true := by decide +kernel
set_option maxRecDepth 100000 in
theorem pi_r1_1 : (List.range 29).all (fun j => pi_rowB 1 (48 + j) (pi_t1 (48 + j))) = true := by decide +kernel
theorem pi_q1 {pc : Nat} {r : pi_Row} (h : pi_t1 pc = some r) : r.1 = pc ∧ pi_ok 1 r := by
  have hp : pc < 77 := by
    cases hx : Nat.blt pc 77 with
    | true => exact Nat.le_of_ble_eq_true hx
    | false =>
      unfold pi_t1 at h
      rw [hx] at h
      cases h
  have h1 : pi_rowB 1 pc (pi_t1 pc) = true := by
    by_cases c0 : pc < 48
    · obtain ⟨j, rfl⟩ : ∃ j, pc = 0 + j := ⟨pc - 0, by omega⟩
      exact List.all_eq_true.mp pi_r1_0 j (List.mem_range.mpr (by omega))
    obtain ⟨j, rfl⟩ : ∃ j, pc = 48 + j := ⟨pc - 48, by omega⟩
    exact List.all_eq_true.mp pi_r1_1 j (List.mem_range.mpr (by omega))
  simp only [pi_rowB, h, Bool.and_eq_true] at h1
  exact ⟨Nat.eq_of_beq_eq_true h1.1, pi_ok_of _ _ h1.2⟩
set_option maxRecDepth 100000 in
theorem pi_r2_0 : (List.range 25).all (fun j => pi_rowB 2 (0 + j) (pi_t2 (0 + j))) = true := by decide +kernel
theorem pi_q2 {pc : Nat} {r : pi_Row} (h : pi_t2 pc = some r) : r.1 = pc ∧ pi_ok 2 r := by
  have hp : pc < 25 := by
    cases hx : Nat.blt pc 25 with
    | true => exact Nat.le_of_ble_eq_true hx
    | false =>
      unfold pi_t2 at h
      rw [hx] at h
      cases h
  have h1 : pi_rowB 2 pc (pi_t2 pc) = true := by
    obtain ⟨j, rfl⟩ : ∃ j, pc = 0 + j := ⟨pc - 0, by omega⟩
    exact List.all_eq_true.mp pi_r2_0 j (List.mem_range.mpr (by omega))
  simp only [pi_rowB, h, Bool.and_eq_true] at h1
  exact ⟨Nat.eq_of_beq_eq_true h1.1, pi_ok_of _ _ h1.2⟩
set_option maxRecDepth 100000 in
theorem pi_r3_0 : (List.range 30).all (fun j => pi_rowB 3 (0 + j) (pi_t3 (0 + j))) = true := by decide +kernel
theorem pi_q3 {pc : Nat} {r : pi_Row} (h : pi_t3 pc = some r) : r.1 = pc ∧ pi_ok 3 r := by
  have hp : pc < 30 := by
    cases hx : Nat.blt pc 30 with
    | true => exact Nat.le_of_ble_eq_true hx
    | false =>
      unfold pi_t3 at h
      rw [hx] at h
      cases h
  have h1 : pi_rowB 3 pc (pi_t3 pc) = true := by
    obtain ⟨j, rfl⟩ : ∃ j, pc = 0 + j := ⟨pc - 0, by omega⟩
    exact List.all_eq_true.mp pi_r3_0 j (List.mem_range.mpr (by omega))
  simp only [pi_rowB, h, Bool.and_eq_true] at h1
  exact ⟨Nat.eq_of_beq_eq_true h1.1, pi_ok_of _ _ h1.2⟩
set_option maxRecDepth 100000 in
theorem pi_r4_0 : (List.range 6).all (fun j => pi_rowB 4 (0 + j) (pi_t4 (0 + j))) = true := by decide +kernel
theorem pi_q4 {pc : Nat} {r : pi_Row} (h : pi_t4 pc = some r) : r.1 = pc ∧ pi_ok 4 r := by
  have hp : pc < 6 := by
    cases hx : Nat.blt pc 6 with
    | true => exact Nat.le_of_ble_eq_true hx
    | false =>
      unfold pi_t4 at h
      rw [hx] at h
      cases h
  have h1 : pi_rowB 4 pc (pi_t4 pc) = true := by
    obtain ⟨j, rfl⟩ : ∃ j, pc = 0 + j := ⟨pc - 0, by omega⟩
    exact List.all_eq_true.mp pi_r4_0 j (List.mem_range.mpr (by omega))
  simp only [pi_rowB, h, Bool.and_eq_true] at h1
  exact ⟨Nat.eq_of_beq_eq_true h1.1, pi_ok_of _ _ h1.2⟩
set_option maxRecDepth 100000 in
theorem pi_r5_0 : (List.range 19).all (fun j => pi_rowB 5 (0 + j) (pi_t5 (0 + j))) = true := by decide +kernel
theorem pi_q5 {pc : Nat} {r : pi_Row} (h : pi_t5 pc = some r) : r.1 = pc ∧ pi_ok 5 r := by
  have hp : pc < 19 := by
    cases hx : Nat.blt pc 19 with
    | true => exact Nat.le_of_ble_eq_true hx
    | false =>
      unfold pi_t5 at h
      rw [hx] at h
      cases h
  have h1 : pi_rowB 5 pc (pi_t5 pc) = true := by
    obtain ⟨j, rfl⟩ : ∃ j, pc = 0 + j := ⟨pc - 0, by omega⟩
    exact List.all_eq_true.mp pi_r5_0 j (List.mem_range.mpr (by omega))
  simp only [pi_rowB, h, Bool.and_eq_true] at h1
  exact ⟨Nat.eq_of_beq_eq_true h1.1, pi_ok_of _ _ h1.2⟩
set_option maxRecDepth 100000 in
theorem pi_r6_0 : (List.range 6).all (fun j => pi_rowB 6 (0 + j) (pi_t6 (0 + j))) = true := by decide +kernel
theorem pi_q6 {pc : Nat} {r : pi_Row} (h : pi_t6 pc = some r) : r.1 = pc ∧ pi_ok 6 r := by
  have hp : pc < 6 := by
    cases hx : Nat.blt pc 6 with
    | true => exact Nat.le_of_ble_eq_true hx
    | false =>
      unfold pi_t6 at h
      rw [hx] at h
      cases h
  have h1 : pi_rowB 6 pc (pi_t6 pc) = true := by
    obtain ⟨j, rfl⟩ : ∃ j, pc = 0 + j := ⟨pc - 0, by omega⟩
    exact List.all_eq_true.mp pi_r6_0 j (List.mem_range.mpr (by omega))
  simp only [pi_rowB, h, Bool.and_eq_true] at h1
  exact ⟨Nat.eq_of_beq_eq_true h1.1, pi_ok_of _ _ h1.2⟩
set_option maxRecDepth 100000 in
theorem pi_r7_0 : (List.range 16).all (fun j => pi_rowB 7 (0 + j) (pi_t7 (0 + j))) = true := by decide +kernel
theorem pi_q7 {pc : Nat} {r : pi_Row} (h : pi_t7 pc = some r) : r.1 = pc ∧ pi_ok 7 r := by
  have hp : pc < 16 := by
    cases hx : Nat.blt pc 16 with
    | true => exact Nat.le_of_ble_eq_true hx
    | false =>
      unfold pi_t7 at h
      rw [hx] at h
      cases h
  have h1 : pi_rowB 7 pc (pi_t7 pc) = true := by
    obtain ⟨j, rfl⟩ : ∃ j, pc = 0 + j := ⟨pc - 0, by omega⟩
    exact List.all_eq_true.mp pi_r7_0 j (List.mem_range.mpr (by omega))
  simp only [pi_rowB, h, Bool.and_eq_true] at h1
  exact ⟨Nat.eq_of_beq_eq_true h1.1, pi_ok_of _ _ h1.2⟩
set_option maxRecDepth 100000 in
theorem pi_r8_0 : (List.range 48).all (fun j => pi_rowB 8 (0 + j) (pi_t8 (0 + j))) = true := by decide +kernel
set_option maxRecDepth 100000 in
theorem pi_r8_1 : (List.range 19).all (fun j => pi_rowB 8 (48 + j) (pi_t8 (48 + j))) = true := by decide +kernel
theorem pi_q8 {pc : Nat} {r : pi_Row} (h : pi_t8 pc = some r) : r.1 = pc ∧ pi_ok 8 r := by
  have hp : pc < 67 := by
    cases hx : Nat.blt pc 67 with
    | true => exact Nat.le_of_ble_eq_true hx
    | false =>
      unfold pi_t8 at h
      rw [hx] at h
      cases h
  have h1 : pi_rowB 8 pc (pi_t8 pc) = true := by
    by_cases c0 : pc < 48
    · obtain ⟨j, rfl⟩ : ∃ j, pc = 0 + j := ⟨pc - 0, by omega⟩
      exact List.all_eq_true.mp pi_r8_0 j (List.mem_range.mpr (by omega))
    obtain ⟨j, rfl⟩ : ∃ j, pc = 48 + j := ⟨pc - 48, by omega⟩
    exact List.all_eq_true.mp pi_r8_1 j (List.mem_range.mpr (by omega))
  simp only [pi_rowB, h, Bool.and_eq_true] at h1
  exact ⟨Nat.eq_of_beq_eq_true h1.1, pi_ok_of _ _ h1.2⟩
set_option maxRecDepth 100000 in
theorem pi_r9_0 : (List.range 48).all (fun j => pi_rowB 9 (0 + j) (pi_t9 (0 + j))) = true := by decide +kernel
set_option maxRecDepth 100000 in
theorem pi_r9_1 : (List.range 48).all (fun j => pi_rowB 9 (48 + j) (pi_t9 (48 + j))) = true := by decide +kernel
set_option maxRecDepth 100000 in
theorem pi_r9_2 : (List.range 18).all (fun j => pi_rowB 9 (96 + j) (pi_t9 (96 + j))) = true := by decide +kernel
theorem pi_q9 {pc : Nat} {r : pi_Row} (h : pi_t9 pc = some r) : r.1 = pc ∧ pi_ok 9 r := by
  have hp : pc < 114 := by
    cases hx : Nat.blt pc 114 with
    | true => exact Nat.le_of_ble_eq_true hx
    | false =>
      unfold pi_t9 at h
      rw [hx] at h
      cases h
  have h1 : pi_rowB 9 pc (pi_t9 pc) = true := by
    by_cases c0 : pc < 48
    · obtain ⟨j, rfl⟩ : ∃ j, pc = 0 + j := ⟨pc - 0, by omega⟩
      exact List.all_eq_true.mp pi_r9_0 j (List.mem_range.mpr (by omega))
    by_cases c1 : pc < 96
    · obtain ⟨j, rfl⟩ : ∃ j, pc = 48 + j := ⟨pc - 48, by omega⟩
      exact List.all_eq_true.mp pi_r9_1 j (List.mem_range.mpr (by omega))
    obtain ⟨j, rfl⟩ : ∃ j, pc = 96 + j := ⟨pc - 96, by omega⟩
    exact List.all_eq_true.mp pi_r9_2 j (List.mem_range.mpr (by omega))
  simp only [pi_rowB, h, Bool.and_eq_true] at h1
  exact ⟨Nat.eq_of_beq_eq_true h1.1, pi_ok_of _ _ h1.2⟩
set_option maxRecDepth 100000 in
theorem pi_r10_0 : (List.range 48).all (fun j => pi_rowB 10 (0 + j) (pi_t10 (0 + j))) = true := by decide +kernel
set_option maxRecDepth 100000 in
theorem pi_r10_1 : (List.range 4).all (fun j => pi_rowB 10 (48 + j) (pi_t10 (48 + j))) = true := by decide +kernel
theorem pi_q10 {pc : Nat} {r : pi_Row} (h : pi_t10 pc = some r) : r.1 = pc ∧ pi_ok 10 r := by
  have hp : pc < 52 := by
    cases hx : Nat.blt pc 52 with
    | true => exact Nat.le_of_ble_eq_true hx
    | false =>
      unfold pi_t10 at h
      rw [hx] at h
      cases h
  have h1 : pi_rowB 10 pc (pi_t10 pc) = true := by
    by_cases c0 : pc < 48
    · obtain ⟨j, rfl⟩ : ∃ j, pc = 0 + j := ⟨pc - 0, by omega⟩
      exact List.all_eq_true.mp pi_r10_0 j (List.mem_range.mpr (by omega))
    obtain ⟨j, rfl⟩ : ∃ j, pc = 48 + j := ⟨pc - 48, by omega⟩
    exact List.all_eq_true.mp pi_r10_1 j (List.mem_range.mpr (by omega))
  simp only [pi_rowB, h, Bool.and_eq_true] at h1
  exact ⟨Nat.eq_of_beq_eq_true h1.1, pi_ok_of _ _ h1.2⟩
set_option maxRecDepth 100000 in
theorem pi_r11_0 : (List.range 48).all (fun j => pi_rowB 11 (0 + j) (pi_t11 (0 + j))) = true := by decide +kernel
set_option maxRecDepth 100000 in
theorem pi_r11_1 : (List.range 20).all (fun j => pi_rowB 11 (48 + j) (pi_t11 (48 + j))) = true := by decide +kernel
theorem pi_q11 {pc : Nat} {r : pi_Row} (h : pi_t11 pc = some r) : r.1 = pc ∧ pi_ok 11 r := by
  have hp : pc < 68 := by
    cases hx : Nat.blt pc 68 with
    | true => exact Nat.le_of_ble_eq_true hx
    | false =>
      unfold pi_t11 at h
      rw [hx] at h
      cases h
  have h1 : pi_rowB 11 pc (pi_t11 pc) = true := by
    by_cases c0 : pc < 48
    · obtain ⟨j, rfl⟩ : ∃ j, pc = 0 + j := ⟨pc - 0, by omega⟩
      exact List.all_eq_true.mp pi_r11_0 j (List.mem_range.mpr (by omega))
    obtain ⟨j, rfl⟩ : ∃ j, pc = 48 + j := ⟨pc - 48, by omega⟩
    exact List.all_eq_true.mp pi_r11_1 j (List.mem_range.mpr (by omega))
  simp only [pi_rowB, h, Bool.and_eq_true] at h1
  exact ⟨Nat.eq_of_beq_eq_true h1.1, pi_ok_of _ _ h1.2⟩
set_option maxRecDepth 100000 in
theorem pi_r12_0 : (List.range 48).all (fun j => pi_rowB 12 (0 + j) (pi_t12 (0 + j))) = true := by decide +kernel
set_option maxRecDepth 100000 in
theorem pi_r12_1 : (List.range 17).all (fun j => pi_rowB 12 (48 + j) (pi_t12 (48 + j))) = true := by decide +kernel
theorem pi_q12 {pc : Nat} {r : pi_Row} (h : pi_t12 pc = some r) : r.1 = pc ∧ pi_ok 12 r := by
  have hp : pc < 65 := by
    cases hx : Nat.blt pc 65 with
    | true => exact Nat.le_of_ble_eq_true hx
    | false =>
      unfold pi_t12 at h
      rw [hx] at h
      cases h
  have h1 : pi_rowB 12 pc (pi_t12 pc) = true := by
    by_cases c0 : pc < 48
    · obtain ⟨j, rfl⟩ : ∃ j, pc = 0 + j := ⟨pc - 0, by omega⟩
      exact List.all_eq_true.mp pi_r12_0 j (List.mem_range.mpr (by omega))
    obtain ⟨j, rfl⟩ : ∃ j, pc = 48 + j := ⟨pc - 48, by omega⟩
    exact List.all_eq_true.mp pi_r12_1 j (List.mem_range.mpr (by omega))
  simp only [pi_rowB, h, Bool.and_eq_true] at h1
  exact ⟨Nat.eq_of_beq_eq_true h1.1, pi_ok_of _ _ h1.2⟩
set_option maxRecDepth 100000 in
theorem pi_r13_0 : (List.range 48).all (fun j => pi_rowB 13 (0 + j) (pi_t13 (0 + j))) = true := by decide +kernel
set_option maxRecDepth 100000 in
theorem pi_r13_1 : (List.range 27).all (fun j => pi_rowB 13 (48 + j) (pi_t13 (48 + j))) = true := by decide +kernel
theorem pi_q13 {pc : Nat} {r : pi_Row} (h : pi_t13 pc = some r) : r.1 = pc ∧ pi_ok 13 r := by
  have hp : pc < 75 := by
    cases hx : Nat.blt pc 75 with
    | true => exact Nat.le_of_ble_eq_true hx
    | false =>
      unfold pi_t13 at h
      rw [hx] at h
      cases h
  have h1 : pi_rowB 13 pc (pi_t13 pc) = true := by
    by_cases c0 : pc < 48
    · obtain ⟨j, rfl⟩ : ∃ j, pc = 0 + j := ⟨pc - 0, by omega⟩
      exact List.all_eq_true.mp pi_r13_0 j (List.mem_range.mpr (by omega))
    obtain ⟨j, rfl⟩ : ∃ j, pc = 48 + j := ⟨pc - 48, by omega⟩
    exact List.all_eq_true.mp pi_r13_1 j (List.mem_range.mpr (by omega))
  simp only [pi_rowB, h, Bool.and_eq_true] at h1
  exact ⟨Nat.eq_of_beq_eq_true h1.1, pi_ok_of _ _ h1.2⟩
set_option maxRecDepth 100000 in
theorem pi_r14_0 : (List.range 48).all (fun j => pi_rowB 14 (0 + j) (pi_t14 (0 + j))) = true := by decide +kernel
set_option maxRecDepth 100000 in
theorem pi_r14_1 : (List.range 16).all (fun j => pi_rowB 14 (48 + j) (pi_t14 (48 + j))) = true := by decide +kernel
theorem pi_q14 {pc : Nat} {r : pi_Row} (h : pi_t14 pc = some r) : r.1 = pc ∧ pi_ok 14 r := by
  have hp : pc < 64 := by
    cases hx : Nat.blt pc 64 with
    | true => exact Nat.le_of_ble_eq_true hx
    | false =>
      unfold pi_t14 at h
      rw [hx] at h
      cases h
  have h1 : pi_rowB 14 pc (pi_t14 pc) = true := by
    by_cases c0 : pc < 48
    · obtain ⟨j, rfl⟩ : ∃ j, pc = 0 + j := ⟨pc - 0, by omega⟩
      exact List.all_eq_true.mp pi_r14_0 j (List.mem_range.mpr (by omega))
    obtain ⟨j, rfl⟩ : ∃ j, pc = 48 + j := ⟨pc - 48, by omega⟩
    exact List.all_eq_true.mp pi_r14_1 j (List.mem_range.mpr (by omega))
  simp only [pi_rowB, h, Bool.and_eq_true] at h1
  exact ⟨Nat.eq_of_beq_eq_true h1.1, pi_ok_of _ _ h1.2⟩
set_option maxRecDepth 100000 in
theorem pi_r15_0 : (List.range 48).all (fun j => pi_rowB 15 (0 + j) (pi_t15 (0 + j))) = true := by decide +kernel
set_option maxRecDepth 100000 in
theorem pi_r15_1 : (List.range 4).all (fun j => pi_rowB 15 (48 + j) (pi_t15 (48 + j))) = true := by decide +kernel
theorem pi_q15 {pc : Nat} {r : pi_Row} (h : pi_t15 pc = some r) : r.1 = pc ∧ pi_ok 15 r := by
  have hp : pc < 52 := by
    cases hx : Nat.blt pc 52 with
    | true => exact Nat.le_of_ble_eq_true hx
    | false =>
      unfold pi_t15 at h
      rw [hx] at h
      cases h
  have h1 : pi_rowB 15 pc (pi_t15 pc) = true := by
    by_cases c0 : pc < 48
    · obtain ⟨j, rfl⟩ : ∃ j, pc = 0 + j := ⟨pc - 0, by omega⟩
      exact List.all_eq_true.mp pi_r15_0 j (List.mem_range.mpr (by omega))
    obtain ⟨j, rfl⟩ : ∃ j, pc = 48 + j := ⟨pc - 48, by omega⟩
    exact List.all_eq_true.mp pi_r15_1 j (List.mem_range.mpr (by omega))
  simp only [pi_rowB, h, Bool.and_eq_true] at h1
  exact ⟨Nat.eq_of_beq_eq_true h1.1, pi_ok_of _ _ h1.2⟩
set_option maxRecDepth 100000 in
theorem pi_r16_0 : (List.range 39).all (fun j => pi_rowB 16 (0 + j) (pi_t16 (0 + j))) = true := by decide +kernel
theorem pi_q16 {pc : Nat} {r : pi_Row} (h : pi_t16 pc = some r) : r.1 = pc ∧ pi_ok 16 r := by
  have hp : pc < 39 := by
    cases hx : Nat.blt pc 39 with
    | true => exact Nat.le_of_ble_eq_true hx
    | false =>
      unfold pi_t16 at h
      rw [hx] at h
      cases h
  have h1 : pi_rowB 16 pc (pi_t16 pc) = true := by
    obtain ⟨j, rfl⟩ : ∃ j, pc = 0 + j := ⟨pc - 0, by omega⟩
    exact List.all_eq_true.mp pi_r16_0 j (List.mem_range.mpr (by omega))
  simp only [pi_rowB, h, Bool.and_eq_true] at h1
  exact ⟨Nat.eq_of_beq_eq_true h1.1, pi_ok_of _ _ h1.2⟩
set_option maxRecDepth 100000 in
theorem pi_r17_0 : (List.range 31).all (fun j => pi_rowB 17 (0 + j) (pi_t17 (0 + j))) = true := by decide +kernel
theorem pi_q17 {pc : Nat} {r : pi_Row} (h : pi_t17 pc = some r) : r.1 = pc ∧ pi_ok 17 r := by
  have hp : pc < 31 := by
    cases hx : Nat.blt pc 31 with
    | true => exact Nat.le_of_ble_eq_true hx
    | false =>
      unfold pi_t17 at h
      rw [hx] at h
      cases h
  have h1 : pi_rowB 17 pc (pi_t17 pc) = true := by
    obtain ⟨j, rfl⟩ : ∃ j, pc = 0 + j := ⟨pc - 0, by omega⟩
    exact List.all_eq_true.mp pi_r17_0 j (List.mem_range.mpr (by omega))
  simp only [pi_rowB, h, Bool.and_eq_true] at h1
  exact ⟨Nat.eq_of_beq_eq_true h1.1, pi_ok_of _ _ h1.2⟩
set_option maxRecDepth 100000 in
theorem pi_r18_0 : (List.range 41).all (fun j => pi_rowB 18 (0 + j) (pi_t18 (0 + j))) = true := by decide +kernel
theorem pi_q18 {pc : Nat} {r : pi_Row} (h : pi_t18 pc = some r) : r.1 = pc ∧ pi_ok 18 r := by
  have hp : pc < 41 := by
    cases hx : Nat.blt pc 41 with
    | true => exact Nat.le_of_ble_eq_true hx
    | false =>
      unfold pi_t18 at h
      rw [hx] at h
      cases h
  have h1 : pi_rowB 18 pc (pi_t18 pc) = true := by
    obtain ⟨j, rfl⟩ : ∃ j, pc = 0 + j := ⟨pc - 0, by omega⟩
    exact List.all_eq_true.mp pi_r18_0 j (List.mem_range.mpr (by omega))
  simp only [pi_rowB, h, Bool.and_eq_true] at h1
  exact ⟨Nat.eq_of_beq_eq_true h1.1, pi_ok_of _ _ h1.2⟩
set_option maxRecDepth 100000 in
theorem pi_r19_0 : (List.range 45).all (fun j => pi_rowB 19 (0 + j) (pi_t19 (0 + j))) = true := by decide +kernel
theorem pi_q19 {pc : Nat} {r : pi_Row} (h : pi_t19 pc = some r) : r.1 = pc ∧ pi_ok 19 r := by
  have hp : pc < 45 := by
    cases hx : Nat.blt pc 45 with
    | true => exact Nat.le_of_ble_eq_true hx
    | false =>
      unfold pi_t19 at h
      rw [hx] at h
      cases h
  have h1 : pi_rowB 19 pc (pi_t19 pc) = true := by
    obtain ⟨j, rfl⟩ : ∃ j, pc = 0 + j := ⟨pc - 0, by omega⟩
    exact List.all_eq_true.mp pi_r19_0 j (List.mem_range.mpr (by omega))
  simp only [pi_rowB, h, Bool.and_eq_true] at h1
  exact ⟨Nat.eq_of_beq_eq_true h1.1, pi_ok_of _ _ h1.2⟩
set_option maxRecDepth 100000 in
theorem pi_r20_0 : (List.range 48).all (fun j => pi_rowB 20 (0 + j) (pi_t20 (0 + j))) = true := by decide +kernel
set_option maxRecDepth 100000 in
theorem pi_r20_1 : (List.range 1).all (fun j => pi_rowB 20 (48 + j) (pi_t20 (48 + j))) = true := by decide +kernel
theorem pi_q20 {pc : Nat} {r : pi_Row} (h : pi_t20 pc = some r) : r.1 = pc ∧ pi_ok 20 r := by
  have hp : pc < 49 := by
    cases hx : Nat.blt pc 49 with
    | true => exact Nat.le_of_ble_eq_true hx
    | false =>
      unfold pi_t20 at h
      rw [hx] at h
      cases h
  have h1 : pi_rowB 20 pc (pi_t20 pc) = true := by
    by_cases c0 : pc < 48
    · obtain ⟨j, rfl⟩ : ∃ j, pc = 0 + j := ⟨pc - 0, by omega⟩
      exact List.all_eq_true.mp pi_r20_0 j (List.mem_range.mpr (by omega))
    obtain ⟨j, rfl⟩ : ∃ j, pc = 48 + j := ⟨pc - 48, by omega⟩
    exact List.all_eq_true.mp pi_r20_1 j (List.mem_range.mpr (by omega))
  simp only [pi_rowB, h, Bool.and_eq_true] at h1
  exact ⟨Nat.eq_of_beq_eq_true h1.1, pi_ok_of _ _ h1.2⟩
set_option maxRecDepth 100000 in
theorem pi_r21_0 : (List.range 48).all (fun j => pi_rowB 21 (0 + j) (pi_t21 (0 + j))) = true := by decide +kernel
set_option maxRecDepth 100000 in
theorem pi_r21_1 : (List.range 48).all (fun j => pi_rowB 21 (48 + j) (pi_t21 (48 + j))) = true := by decide +kernel
set_option maxRecDepth 100000 in
theorem pi_r21_2 : (List.range 6).all (fun j => pi_rowB 21 (96 + j) (pi_t21 (96 + j))) = true := by decide +kernel
theorem pi_q21 {pc : Nat} {r : pi_Row} (h : pi_t21 pc = some r) : r.1 = pc ∧ pi_ok 21 r := by
  have hp : pc < 102 := by
    cases hx : Nat.blt pc 102 with
    | true => exact Nat.le_of_ble_eq_true hx
    | false =>
      unfold pi_t21 at h
      rw [hx] at h
      cases h
  have h1 : pi_rowB 21 pc (pi_t21 pc) = true := by
    by_cases c0 : pc < 48
    · obtain ⟨j, rfl⟩ : ∃ j, pc = 0 + j := ⟨pc - 0, by omega⟩
      exact List.all_eq_true.mp pi_r21_0 j (List.mem_range.mpr (by omega))
    by_cases c1 : pc < 96
    · obtain ⟨j, rfl⟩ : ∃ j, pc = 48 + j := ⟨pc - 48, by omega⟩
      exact List.all_eq_true.mp pi_r21_1 j (List.mem_range.mpr (by omega))
    obtain ⟨j, rfl⟩ : ∃ j, pc = 96 + j := ⟨pc - 96, by omega⟩
    exact List.all_eq_true.mp pi_r21_2 j (List.mem_range.mpr (by omega))
  simp only [pi_rowB, h, Bool.and_eq_true] at h1
  exact ⟨Nat.eq_of_beq_eq_true h1.1, pi_ok_of _ _ h1.2⟩
set_option maxRecDepth 100000 in
theorem pi_r22_0 : (List.range 32).all (fun j => pi_rowB 22 (0 + j) (pi_t22 (0 + j))) = true := by decide +kernel
theorem pi_q22 {pc : Nat} {r : pi_Row} (h : pi_t22 pc = some r) : r.1 = pc ∧ pi_ok 22 r := by
  have hp : pc < 32 := by
    cases hx : Nat.blt pc 32 with
    | true => exact Nat.le_of_ble_eq_true hx
    | false =>
      unfold pi_t22 at h
      rw [hx] at h
      cases h
  have h1 : pi_rowB 22 pc (pi_t22 pc) = true := by
    obtain ⟨j, rfl⟩ : ∃ j, pc = 0 + j := ⟨pc - 0, by omega⟩
    exact List.all_eq_true.mp pi_r22_0 j (List.mem_range.mpr (by omega))
  simp only [pi_rowB, h, Bool.and_eq_true] at h1
  exact ⟨Nat.eq_of_beq_eq_true h1.1, pi_ok_of _ _ h1.2⟩
set_option maxRecDepth 100000 in
theorem pi_r23_0 : (List.range 39).all (fun j => pi_rowB 23 (0 + j) (pi_t23 (0 + j))) = true := by decide +kernel
theorem pi_q23 {pc : Nat} {r : pi_Row} (h : pi_t23 pc = some r) : r.1 = pc ∧ pi_ok 23 r := by
  have hp : pc < 39 := by
    cases hx : Nat.blt pc 39 with
    | true => exact Nat.le_of_ble_eq_true hx
    | false =>
      unfold pi_t23 at h
      rw [hx] at h
      cases h
  have h1 : pi_rowB 23 pc (pi_t23 pc) = true := by
    obtain ⟨j, rfl⟩ : ∃ j, pc = 0 + j := ⟨pc - 0, by omega⟩
    exact List.all_eq_true.mp pi_r23_0 j (List.mem_range.mpr (by omega))
  simp only [pi_rowB, h, Bool.and_eq_true] at h1
  exact ⟨Nat.eq_of_beq_eq_true h1.1, pi_ok_of _ _ h1.2⟩
set_option maxRecDepth 100000 in
theorem pi_r24_0 : (List.range 32).all (fun j => pi_rowB 24 (0 + j) (pi_t24 (0 + j))) = true := by decide +kernel
theorem pi_q24 {pc : Nat} {r : pi_Row} (h : pi_t24 pc = some r) : r.1 = pc ∧ pi_ok 24 r := by
  have hp : pc < 32 := by
    cases hx : Nat.blt pc 32 with
    | true => exact Nat.le_of_ble_eq_true hx
    | false =>
      unfold pi_t24 at h
      rw [hx] at h
      cases h
  have h1 : pi_rowB 24 pc (pi_t24 pc) = true := by
    obtain ⟨j, rfl⟩ : ∃ j, pc = 0 + j := ⟨pc - 0, by omega⟩
    exact List.all_eq_true.mp pi_r24_0 j (List.mem_range.mpr (by omega))
  simp only [pi_rowB, h, Bool.and_eq_true] at h1
  exact ⟨Nat.eq_of_beq_eq_true h1.1, pi_ok_of _ _ h1.2⟩
set_option maxRecDepth 100000 in
theorem pi_r25_0 : (List.range 48).all (fun j => pi_rowB 25 (0 + j) (pi_t25 (0 + j))) = true := by decide +kernel
set_option maxRecDepth 100000 in
theorem pi_r25_1 : (List.range 48).all (fun j => pi_rowB 25 (48 + j) (pi_t25 (48 + j))) = true := by decide +kernel
set_option maxRecDepth 100000 in
theorem pi_r25_2 : (List.range 27).all (fun j => pi_rowB 25 (96 + j) (pi_t25 (96 + j))) = true := by decide +kernel
theorem pi_q25 {pc : Nat} {r : pi_Row} (h : pi_t25 pc = some r) : r.1 = pc ∧ pi_ok 25 r := by
  have hp : pc < 123 := by
    cases hx : Nat.blt pc 123 with
    | true => exact Nat.le_of_ble_eq_true hx
    | false =>
      unfold pi_t25 at h
      rw [hx] at h
      cases h
  have h1 : pi_rowB 25 pc (pi_t25 pc) = true := by
    by_cases c0 : pc < 48
    · obtain ⟨j, rfl⟩ : ∃ j, pc = 0 + j := ⟨pc - 0, by omega⟩
      exact List.all_eq_true.mp pi_r25_0 j (List.mem_range.mpr (by omega))
    by_cases c1 : pc < 96
    · obtain ⟨j, rfl⟩ : ∃ j, pc = 48 + j := ⟨pc - 48, by omega⟩
      exact List.all_eq_true.mp pi_r25_1 j (List.mem_range.mpr (by omega))
    obtain ⟨j, rfl⟩ : ∃ j, pc = 96 + j := ⟨pc - 96, by omega⟩
    exact List.all_eq_true.mp pi_r25_2 j (List.mem_range.mpr (by omega))
  simp only [pi_rowB, h, Bool.and_eq_true] at h1
  exact ⟨Nat.eq_of_beq_eq_true h1.1, pi_ok_of _ _ h1.2⟩
set_option maxRecDepth 100000 in
theorem pi_r26_0 : (List.range 22).all (fun j => pi_rowB 26 (0 + j) (pi_t26 (0 + j))) = true := by decide +kernel
theorem pi_q26 {pc : Nat} {r : pi_Row} (h : pi_t26 pc = some r) : r.1 = pc ∧ pi_ok 26 r := by
  have hp : pc < 22 := by
    cases hx : Nat.blt pc 22 with
    | true => exact Nat.le_of_ble_eq_true hx
    | false =>
      unfold pi_t26 at h
      rw [hx] at h
      cases h
  have h1 : pi_rowB 26 pc (pi_t26 pc) = true := by
    obtain ⟨j, rfl⟩ : ∃ j, pc = 0 + j := ⟨pc - 0, by omega⟩
    exact List.all_eq_true.mp pi_r26_0 j (List.mem_range.mpr (by omega))
  simp only [pi_rowB, h, Bool.and_eq_true] at h1
  exact ⟨Nat.eq_of_beq_eq_true h1.1, pi_ok_of _ _ h1.2⟩
set_option maxRecDepth 100000 in
theorem pi_r27_0 : (List.range 24).all (fun j => pi_rowB 27 (0 + j) (pi_t27 (0 + j))) = true := by decide +kernel
theorem pi_q27 {pc : Nat} {r : pi_Row} (h : pi_t27 pc = some r) : r.1 = pc ∧ pi_ok 27 r := by
  have hp : pc < 24 := by
    cases hx : Nat.blt pc 24 with
    | true => exact Nat.le_of_ble_eq_true hx
    | false =>
      unfold pi_t27 at h
      rw [hx] at h
      cases h
  have h1 : pi_rowB 27 pc (pi_t27 pc) = true := by
    obtain ⟨j, rfl⟩ : ∃ j, pc = 0 + j := ⟨pc - 0, by omega⟩
    exact List.all_eq_true.mp pi_r27_0 j (List.mem_range.mpr (by omega))
  simp only [pi_rowB, h, Bool.and_eq_true] at h1
  exact ⟨Nat.eq_of_beq_eq_true h1.1, pi_ok_of _ _ h1.2⟩
set_option maxRecDepth 100000 in
theorem pi_r28_0 : (List.range 16).all (fun j => pi_rowB 28 (0 + j) (pi_t28 (0 + j))) = true := by decide +kernel
theorem pi_q28 {pc : Nat} {r : pi_Row} (h : pi_t28 pc = some r) : r.1 = pc ∧ pi_ok 28 r := by
  have hp : pc < 16 := by
    cases hx : Nat.blt pc 16 with
    | true => exact Nat.le_of_ble_eq_true hx
    | false =>
      unfold pi_t28 at h
      rw [hx] at h
      cases h
  have h1 : pi_rowB 28 pc (pi_t28 pc) = true := by
    obtain ⟨j, rfl⟩ : ∃ j, pc = 0 + j := ⟨pc - 0, by omega⟩
    exact List.all_eq_true.mp pi_r28_0 j (List.mem_range.mpr (by omega))
  simp only [pi_rowB, h, Bool.and_eq_true] at h1
  exact ⟨Nat.eq_of_beq_eq_true h1.1, pi_ok_of _ _ h1.2⟩
set_option maxRecDepth 100000 in
theorem pi_r29_0 : (List.range 46).all (fun j => pi_rowB 29 (0 + j) (pi_t29 (0 + j))) = true := by decide +kernel
theorem pi_q29 {pc : Nat} {r : pi_Row} (h : pi_t29 pc = some r) : r.1 = pc ∧ pi_ok 29 r := by
  have hp : pc < 46 := by
    cases hx : Nat.blt pc 46 with
    | true => exact Nat.le_of_ble_eq_true hx
    | false =>
      unfold pi_t29 at h
      rw [hx] at h
      cases h
  have h1 : pi_rowB 29 pc (pi_t29 pc) = true := by
    obtain ⟨j, rfl⟩ : ∃ j, pc = 0 + j := ⟨pc - 0, by omega⟩
    exact List.all_eq_true.mp pi_r29_0 j (List.mem_range.mpr (by omega))
  simp only [pi_rowB, h, Bool.and_eq_true] at h1
  exact ⟨Nat.eq_of_beq_eq_true h1.1, pi_ok_of _ _ h1.2⟩
set_option maxRecDepth 100000 in
theorem pi_r30_0 : (List.range 48).all (fun j => pi_rowB 30 (0 + j) (pi_t30 (0 + j))) = true := by decide +kernel
set_option maxRecDepth 100000 in
theorem pi_r30_1 : (List.range 48).all (fun j => pi_rowB 30 (48 + j) (pi_t30 (48 + j))) = true := by decide +kernel
set_option maxRecDepth 100000 in
theorem pi_r30_2 : (List.range 13).all (fun j => pi_rowB 30 (96 + j) (pi_t30 (96 + j))) = true := by decide +kernel
theorem pi_q30 {pc : Nat} {r : pi_Row} (h : pi_t30 pc = some r) : r.1 = pc ∧ pi_ok 30 r := by
  have hp : pc < 109 := by
    cases hx : Nat.blt pc 109 with
    | true => exact Nat.le_of_ble_eq_true hx
    | false =>
      unfold pi_t30 at h
      rw [hx] at h
      cases h
  have h1 : pi_rowB 30 pc (pi_t30 pc) = true := by
    by_cases c0 : pc < 48
    · obtain ⟨j, rfl⟩ : ∃ j, pc = 0 + j := ⟨pc - 0, by omega⟩
      exact List.all_eq_true.mp pi_r30_0 j (List.mem_range.mpr (by omega))
    by_cases c1 : pc < 96
    · obtain ⟨j, rfl⟩ : ∃ j, pc = 48 + j := ⟨pc - 48, by omega⟩
      exact List.all_eq_true.mp pi_r30_1 j (List.mem_range.mpr (by omega))
    obtain ⟨j, rfl⟩ : ∃ j, pc = 96 + j := ⟨pc - 96, by omega⟩
    exact List.all_eq_true.mp pi_r30_2 j (List.mem_range.mpr (by omega))
  simp only [pi_rowB, h, Bool.and_eq_true] at h1
  exact ⟨Nat.eq_of_beq_eq_true h1.1, pi_ok_of _ _ h1.2⟩
set_option maxRecDepth 100000 in
theorem pi_r31_0 : (List.range 11).all (fun j => pi_rowB 31 (0 + j) (pi_t31 (0 + j))) = true := by decide +kernel
theorem pi_q31 {pc : Nat} {r : pi_Row} (h : pi_t31 pc = some r) : r.1 = pc ∧ pi_ok 31 r := by
  have hp : pc < 11 := by
    cases hx : Nat.blt pc 11 with
    | true => exact Nat.le_of_ble_eq_true hx
    | false =>
      unfold pi_t31 at h
      rw [hx] at h
      cases h
  have h1 : pi_rowB 31 pc (pi_t31 pc) = true := by
    obtain ⟨j, rfl⟩ : ∃ j, pc = 0 + j := ⟨pc - 0, by omega⟩
    exact List.all_eq_true.mp pi_r31_0 j (List.mem_range.mpr (by omega))
  simp only [pi_rowB, h, Bool.and_eq_true] at h1
  exact ⟨Nat.eq_of_beq_eq_true h1.1, pi_ok_of _ _ h1.2⟩
set_option maxRecDepth 100000 in
theorem pi_r32_0 : (List.range 22).all (fun j => pi_rowB 32 (0 + j) (pi_t32 (0 + j))) = true := by decide +kernel
theorem pi_q32 {pc : Nat} {r : pi_Row} (h : pi_t32 pc = some r) : r.1 = pc ∧ pi_ok 32 r := by
  have hp : pc < 22 := by
    cases hx : Nat.blt pc 22 with
    | true => exact Nat.le_of_ble_eq_true hx
    | false =>
      unfold pi_t32 at h
      rw [hx] at h
      cases h
  have h1 : pi_rowB 32 pc (pi_t32 pc) = true := by
    obtain ⟨j, rfl⟩ : ∃ j, pc = 0 + j := ⟨pc - 0, by omega⟩
    exact List.all_eq_true.mp pi_r32_0 j (List.mem_range.mpr (by omega))
  simp only [pi_rowB, h, Bool.and_eq_true] at h1
  exact ⟨Nat.eq_of_beq_eq_true h1.1, pi_ok_of _ _ h1.2⟩
set_option maxRecDepth 100000 in
theorem pi_r33_0 : (List.range 48).all (fun j => pi_rowB 33 (0 + j) (pi_t33 (0 + j))) = true := by decide +kernel
set_option maxRecDepth 100000 in
theorem pi_r33_1 : (List.range 48).all (fun j => pi_rowB 33 (48 + j) (pi_t33 (48 + j))) = true := by decide +kernel
set_option maxRecDepth 100000 in
theorem pi_r33_2 : (List.range 48).all (fun j => pi_rowB 33 (96 + j) (pi_t33 (96 + j))) = true := by decide +kernel
theorem pi_q33 {pc : Nat} {r : pi_Row} (h : pi_t33 pc = some r) : r.1 = pc ∧ pi_ok 33 r := by
  have hp : pc < 144 := by
    cases hx : Nat.blt pc 144 with
    | true => exact Nat.le_of_ble_eq_true hx
    | false =>
      unfold pi_t33 at h
      rw [hx] at h
      cases h
  have h1 : pi_rowB 33 pc (pi_t33 pc) = true := by
    by_cases c0 : pc < 48
    · obtain ⟨j, rfl⟩ : ∃ j, pc = 0 + j := ⟨pc - 0, by omega⟩
      exact List.all_eq_true.mp pi_r33_0 j (List.mem_range.mpr (by omega))
    by_cases c1 : pc < 96
    · obtain ⟨j, rfl⟩ : ∃ j, pc = 48 + j := ⟨pc - 48, by omega⟩
      exact List.all_eq_true.mp pi_r33_1 j (List.mem_range.mpr (by omega))
    obtain ⟨j, rfl⟩ : ∃ j, pc = 96 + j := ⟨pc - 96, by omega⟩
    exact List.all_eq_true.mp pi_r33_2 j (List.mem_range.mpr (by omega))
  simp only [pi_rowB, h, Bool.and_eq_true] at h1
  exact ⟨Nat.eq_of_beq_eq_true h1.1, pi_ok_of _ _ h1.2⟩
set_option maxRecDepth 100000 in
theorem pi_r34_0 : (List.range 48).all (fun j => pi_rowB 34 (0 + j) (pi_t34 (0 + j))) = true := by decide +kernel
set_option maxRecDepth 100000 in
theorem pi_r34_1 : (List.range 43).all (fun j => pi_rowB 34 (48 + j) (pi_t34 (48 + j))) = true := by decide +kernel
theorem pi_q34 {pc : Nat} {r : pi_Row} (h : pi_t34 pc = some r) : r.1 = pc ∧ pi_ok 34 r := by
  have hp : pc < 91 := by
    cases hx : Nat.blt pc 91 with
    | true => exact Nat.le_of_ble_eq_true hx
    | false =>
      unfold pi_t34 at h
      rw [hx] at h
      cases h
  have h1 : pi_rowB 34 pc (pi_t34 pc) = true := by
    by_cases c0 : pc < 48
    · obtain ⟨j, rfl⟩ : ∃ j, pc = 0 + j := ⟨pc - 0, by omega⟩
      exact List.all_eq_true.mp pi_r34_0 j (List.mem_range.mpr (by omega))
    obtain ⟨j, rfl⟩ : ∃ j, pc = 48 + j := ⟨pc - 48, by omega⟩
    exact List.all_eq_true.mp pi_r34_1 j (List.mem_range.mpr (by omega))
  simp only [pi_rowB, h, Bool.and_eq_true] at h1
  exact ⟨Nat.eq_of_beq_eq_true h1.1, pi_ok_of _ _ h1.2⟩
set_option maxRecDepth 100000 in
theorem pi_r35_0 : (List.range 48).all (fun j => pi_rowB 35 (0 + j) (pi_t35 (0 + j))) = true := by decide +kernel
set_option maxRecDepth 100000 in
theorem pi_r35_1 : (List.range 27).all (fun j => pi_rowB 35 (48 + j) (pi_t35 (48 + j))) = true := by decide +kernel
theorem pi_q35 {pc : Nat} {r : pi_Row} (h : pi_t35 pc = some r) : r.1 = pc ∧ pi_ok 35 r := by
  have hp : pc < 75 := by
    cases hx : Nat.blt pc 75 with
    | true => exact Nat.le_of_ble_eq_true hx
    | false =>
      unfold pi_t35 at h
      rw [hx] at h
      cases h
  have h1 : pi_rowB 35 pc (pi_t35 pc) = true := by
    by_cases c0 : pc < 48
    · obtain ⟨j, rfl⟩ : ∃ j, pc = 0 + j := ⟨pc - 0, by omega⟩
      exact List.all_eq_true.mp pi_r35_0 j (List.mem_range.mpr (by omega))
    obtain ⟨j, rfl⟩ : ∃ j, pc = 48 + j := ⟨pc - 48, by omega⟩
    exact List.all_eq_true.mp pi_r35_1 j (List.mem_range.mpr (by omega))
  simp only [pi_rowB, h, Bool.and_eq_true] at h1
  exact ⟨Nat.eq_of_beq_eq_true h1.1, pi_ok_of _ _ h1.2⟩
set_option maxRecDepth 100000 in
theorem pi_r36_0 : (List.range 14).all (fun j => pi_rowB 36 (0 + j) (pi_t36 (0 + j))) = true := by decide +kernel
theorem pi_q36 {pc : Nat} {r : pi_Row} (h : pi_t36 pc = some r) : r.1 = pc ∧ pi_ok 36 r := by
  have hp : pc < 14 := by
    cases hx : Nat.blt pc 14 with
    | true => exact Nat.le_of_ble_eq_true hx
    | false =>
      unfold pi_t36 at h
      rw [hx] at h
      cases h
  have h1 : pi_rowB 36 pc (pi_t36 pc) = true := by
    obtain ⟨j, rfl⟩ : ∃ j, pc = 0 + j := ⟨pc - 0, by omega⟩
    exact List.all_eq_true.mp pi_r36_0 j (List.mem_range.mpr (by omega))
  simp only [pi_rowB, h, Bool.and_eq_true] at h1
  exact ⟨Nat.eq_of_beq_eq_true h1.1, pi_ok_of _ _ h1.2⟩
set_option maxRecDepth 100000 in
theorem pi_r37_0 : (List.range 37).all (fun j => pi_rowB 37 (0 + j) (pi_t37 (0 + j))) = true := by decide +kernel
theorem pi_q37 {pc : Nat} {r : pi_Row} (h : pi_t37 pc = some r) : r.1 = pc ∧ pi_ok 37 r := by
  have hp : pc < 37 := by
    cases hx : Nat.blt pc 37 with
    | true => exact Nat.le_of_ble_eq_true hx
    | false =>
      unfold pi_t37 at h
      rw [hx] at h
      cases h
  have h1 : pi_rowB 37 pc (pi_t37 pc) = true := by
    obtain ⟨j, rfl⟩ : ∃ j, pc = 0 + j := ⟨pc - 0, by omega⟩
    exact List.all_eq_true.mp pi_r37_0 j (List.mem_range.mpr (by omega))
  simp only [pi_rowB, h, Bool.and_eq_true] at h1
  exact ⟨Nat.eq_of_beq_eq_true h1.1, pi_ok_of _ _ h1.2⟩
set_option maxRecDepth 100000 in
theorem pi_r38_0 : (List.range 36).all (fun j => pi_rowB 38 (0 + j) (pi_t38 (0 + j))) = true := by decide +kernel
theorem pi_q38 {pc : Nat} {r : pi_Row} (h : pi_t38 pc = some r) : r.1 = pc ∧ pi_ok 38 r := by
  have hp : pc < 36 := by
    cases hx : Nat.blt pc 36 with
    | true => exact Nat.le_of_ble_eq_true hx
    | false =>
      unfold pi_t38 at h
      rw [hx] at h
      cases h
  have h1 : pi_rowB 38 pc (pi_t38 pc) = true := by
    obtain ⟨j, rfl⟩ : ∃ j, pc = 0 + j := ⟨pc - 0, by omega⟩
    exact List.all_eq_true.mp pi_r38_0 j (List.mem_range.mpr (by omega))
  simp only [pi_rowB, h, Bool.and_eq_true] at h1
  exact ⟨Nat.eq_of_beq_eq_true h1.1, pi_ok_of _ _ h1.2⟩
set_option maxRecDepth 100000 in
theorem pi_r39_0 : (List.range 32).all (fun j => pi_rowB 39 (0 + j) (pi_t39 (0 + j))) = true := by decide +kernel
theorem pi_q39 {pc : Nat} {r : pi_Row} (h : pi_t39 pc = some r) : r.1 = pc ∧ pi_ok 39 r := by
  have hp : pc < 32 := by
    cases hx : Nat.blt pc 32 with
    | true => exact Nat.le_of_ble_eq_true hx
    | false =>
      unfold pi_t39 at h
      rw [hx] at h
      cases h
  have h1 : pi_rowB 39 pc (pi_t39 pc) = true := by
    obtain ⟨j, rfl⟩ : ∃ j, pc = 0 + j := ⟨pc - 0, by omega⟩
    exact List.all_eq_true.mp pi_r39_0 j (List.mem_range.mpr (by omega))
  simp only [pi_rowB, h, Bool.and_eq_true] at h1
  exact ⟨Nat.eq_of_beq_eq_true h1.1, pi_ok_of _ _ h1.2⟩
set_option maxRecDepth 100000 in
theorem pi_r40_0 : (List.range 22).all (fun j => pi_rowB 40 (0 + j) (pi_t40 (0 + j))) = true := by decide +kernel
theorem pi_q40 {pc : Nat} {r : pi_Row} (h : pi_t40 pc = some r) : r.1 = pc ∧ pi_ok 40 r := by
  have hp : pc < 22 := by
    cases hx : Nat.blt pc 22 with
    | true => exact Nat.le_of_ble_eq_true hx
    | false =>
      unfold pi_t40 at h
      rw [hx] at h
      cases h
  have h1 : pi_rowB 40 pc (pi_t40 pc) = true := by
    obtain ⟨j, rfl⟩ : ∃ j, pc = 0 + j := ⟨pc - 0, by omega⟩
    exact List.all_eq_true.mp pi_r40_0 j (List.mem_range.mpr (by omega))
  simp only [pi_rowB, h, Bool.and_eq_true] at h1
  exact ⟨Nat.eq_of_beq_eq_true h1.1, pi_ok_of _ _ h1.2⟩
set_option maxRecDepth 100000 in
theorem pi_r41_0 : (List.range 23).all (fun j => pi_rowB 41 (0 + j) (pi_t41 (0 + j))) = true := by decide +kernel
theorem pi_q41 {pc : Nat} {r : pi_Row} (h : pi_t41 pc = some r) : r.1 = pc ∧ pi_ok 41 r := by
  have hp : pc < 23 := by
    cases hx : Nat.blt pc 23 with
    | true => exact Nat.le_of_ble_eq_true hx
    | false =>
      unfold pi_t41 at h
      rw [hx] at h
      cases h
  have h1 : pi_rowB 41 pc (pi_t41 pc) = true := by
    obtain ⟨j, rfl⟩ : ∃ j, pc = 0 + j := ⟨pc - 0, by omega⟩
    exact List.all_eq_true.mp pi_r41_0 j (List.mem_range.mpr (by omega))
  simp only [pi_rowB, h, Bool.and_eq_true] at h1
  exact ⟨Nat.eq_of_beq_eq_true h1.1, pi_ok_of _ _ h1.2⟩
set_option maxRecDepth 100000 in
theorem pi_r42_0 : (List.range 25).all (fun j => pi_rowB 42 (0 + j) (pi_t42 (0 + j))) = true := by decide +kernel
theorem pi_q42 {pc : Nat} {r : pi_Row} (h : pi_t42 pc = some r) : r.1 = pc ∧ pi_ok 42 r := by
  have hp : pc < 25 := by
    cases hx : Nat.blt pc 25 with
    | true => exact Nat.le_of_ble_eq_true hx
    | false =>
      unfold pi_t42 at h
      rw [hx] at h
      cases h
  have h1 : pi_rowB 42 pc (pi_t42 pc) = true := by
    obtain ⟨j, rfl⟩ : ∃ j, pc = 0 + j := ⟨pc - 0, by omega⟩
    exact List.all_eq_true.mp pi_r42_0 j (List.mem_range.mpr (by omega))
  simp only [pi_rowB, h, Bool.and_eq_true] at h1
  exact ⟨Nat.eq_of_beq_eq_true h1.1, pi_ok_of _ _ h1.2⟩
set_option maxRecDepth 100000 in
theorem pi_r43_0 : (List.range 46).all (fun j => pi_rowB 43 (0 + j) (pi_t43 (0 + j))) = true := by decide +kernel
theorem pi_q43 {pc : Nat} {r : pi_Row} (h : pi_t43 pc = some r) : r.1 = pc ∧ pi_ok 43 r := by
  have hp : pc < 46 := by
    cases hx : Nat.blt pc 46 with
    | true => exact Nat.le_of_ble_eq_true hx
    | false =>
      unfold pi_t43 at h
      rw [hx] at h
      cases h
  have h1 : pi_rowB 43 pc (pi_t43 pc) = true := by
    obtain ⟨j, rfl⟩ : ∃ j, pc = 0 + j := ⟨pc - 0, by omega⟩
    exact List.all_eq_true.mp pi_r43_0 j (List.mem_range.mpr (by omega))
  simp only [pi_rowB, h, Bool.and_eq_true] at h1
  exact ⟨Nat.eq_of_beq_eq_true h1.1, pi_ok_of _ _ h1.2⟩
set_option maxRecDepth 100000 in
theorem pi_r44_0 : (List.range 12).all (fun j => pi_rowB 44 (0 + j) (pi_t44 (0 + j))) = true := by decide +kernel
theorem pi_q44 {pc : Nat} {r : pi_Row} (h : pi_t44 pc = some r) : r.1 = pc ∧ pi_ok 44 r := by
  have hp : pc < 12 := by
    cases hx : Nat.blt pc 12 with
    | true => exact Nat.le_of_ble_eq_true hx
    | false =>
      unfold pi_t44 at h
      rw [hx] at h
      cases h
  have h1 : pi_rowB 44 pc (pi_t44 pc) = true := by
    obtain ⟨j, rfl⟩ : ∃ j, pc = 0 + j := ⟨pc - 0, by omega⟩
    exact List.all_eq_true.mp pi_r44_0 j (List.mem_range.mpr (by omega))
  simp only [pi_rowB, h, Bool.and_eq_true] at h1
  exact ⟨Nat.eq_of_beq_eq_true h1.1, pi_ok_of _ _ h1.2⟩
set_option maxRecDepth 100000 in
theorem pi_r45_0 : (List.range 22).all (fun j => pi_rowB 45 (0 + j) (pi_t45 (0 + j))) = true := by decide +kernel
theorem pi_q45 {pc : Nat} {r : pi_Row} (h : pi_t45 pc = some r) : r.1 = pc ∧ pi_ok 45 r := by
  have hp : pc < 22 := by
    cases hx : Nat.blt pc 22 with
    | true => exact Nat.le_of_ble_eq_true hx
    | false =>
      unfold pi_t45 at h
      rw [hx] at h
      cases h
  have h1 : pi_rowB 45 pc (pi_t45 pc) = true := by
    obtain ⟨j, rfl⟩ : ∃ j, pc = 0 + j := ⟨pc - 0, by omega⟩
    exact List.all_eq_true.mp pi_r45_0 j (List.mem_range.mpr (by omega))
  simp only [pi_rowB, h, Bool.and_eq_true] at h1
  exact ⟨Nat.eq_of_beq_eq_true h1.1, pi_ok_of _ _ h1.2⟩
set_option maxRecDepth 100000 in
theorem pi_r46_0 : (List.range 26).all (fun j => pi_rowB 46 (0 + j) (pi_t46 (0 + j))) = true := by decide +kernel
theorem pi_q46 {pc : Nat} {r : pi_Row} (h : pi_t46 pc = some r) : r.1 = pc ∧ pi_ok 46 r := by
  have hp : pc < 26 := by
    cases hx : Nat.blt pc 26 with
    | true => exact Nat.le_of_ble_eq_true hx
    | false =>
      unfold pi_t46 at h
      rw [hx] at h
      cases h
  have h1 : pi_rowB 46 pc (pi_t46 pc) = true := by
    obtain ⟨j, rfl⟩ : ∃ j, pc = 0 + j := ⟨pc - 0, by omega⟩
    exact List.all_eq_true.mp pi_r46_0 j (List.mem_range.mpr (by omega))
  simp only [pi_rowB, h, Bool.and_eq_true] at h1
  exact ⟨Nat.eq_of_beq_eq_true h1.1, pi_ok_of _ _ h1.2⟩
set_option maxRecDepth 100000 in
theorem pi_r47_0 : (List.range 16).all (fun j => pi_rowB 47 (0 + j) (pi_t47 (0 + j))) = true := by decide +kernel
theorem pi_q47 {pc : Nat} {r : pi_Row} (h : pi_t47 pc = some r) : r.1 = pc ∧ pi_ok 47 r := by
  have hp : pc < 16 := by
    cases hx : Nat.blt pc 16 with
    | true => exact Nat.le_of_ble_eq_true hx
    | false =>
      unfold pi_t47 at h
      rw [hx] at h
      cases h
  have h1 : pi_rowB 47 pc (pi_t47 pc) = true := by
    obtain ⟨j, rfl⟩ : ∃ j, pc = 0 + j := ⟨pc - 0, by omega⟩
    exact List.all_eq_true.mp pi_r47_0 j (List.mem_range.mpr (by omega))
  simp only [pi_rowB, h, Bool.and_eq_true] at h1
  exact ⟨Nat.eq_of_beq_eq_true h1.1, pi_ok_of _ _ h1.2⟩
set_option maxRecDepth 100000 in
theorem pi_r48_0 : (List.range 9).all (fun j => pi_rowB 48 (0 + j) (pi_t48 (0 + j))) = true := by decide +kernel
theorem pi_q48 {pc : Nat} {r : pi_Row} (h : pi_t48 pc = some r) : r.1 = pc ∧ pi_ok 48 r := by
  have hp : pc < 9 := by
    cases hx : Nat.blt pc 9 with
    | true => exact Nat.le_of_ble_eq_true hx
    | false =>
      unfold pi_t48 at h
      rw [hx] at h
      cases h
  have h1 : pi_rowB 48 pc (pi_t48 pc) = true := by
    obtain ⟨j, rfl⟩ : ∃ j, pc = 0 + j := ⟨pc - 0, by omega⟩
    exact List.all_eq_true.mp pi_r48_0 j (List.mem_range.mpr (by omega))
  simp only [pi_rowB, h, Bool.and_eq_true] at h1
  exact ⟨Nat.eq_of_beq_eq_true h1.1, pi_ok_of _ _ h1.2⟩
set_option maxRecDepth 100000 in
theorem pi_r49_0 : (List.range 9).all (fun j => pi_rowB 49 (0 + j) (pi_t49 (0 + j))) = true := by decide +kernel
theorem pi_q49 {pc : Nat} {r : pi_Row} (h : pi_t49 pc = some r) : r.1 = pc ∧ pi_ok 49 r := by
  have hp : pc < 9 := by
    cases hx : Nat.blt pc 9 with
    | true => exact Nat.le_of_ble_eq_true hx
    | false =>
      unfold pi_t49 at h
      rw [hx] at h
      cases h
  have h1 : pi_rowB 49 pc (pi_t49 pc) = true := by
    obtain ⟨j, rfl⟩ : ∃ j, pc = 0 + j := ⟨pc - 0, by omega⟩
    exact List.all_eq_true.mp pi_r49_0 j (List.mem_range.mpr (by omega))
  simp only [pi_rowB, h, Bool.and_eq_true] at h1
  exact ⟨Nat.eq_of_beq_eq_true h1.1, pi_ok_of _ _ h1.2⟩
set_option maxRecDepth 100000 in
theorem pi_r50_0 : (List.range 48).all (fun j => pi_rowB 50 (0 + j) (pi_t50 (0 + j))) = true := by decide +kernel
set_option maxRecDepth 100000 in
theorem pi_r50_1 : (List.range 48).all (fun j => pi_rowB 50 (48 + j) (pi_t50 (48 + j))) = true := by decide +kernel
set_option maxRecDepth 100000 in
theorem pi_r50_2 : (List.range 48).all (fun j => pi_rowB 50 (96 + j) (pi_t50 (96 + j))) = true := by decide +kernel
set_option maxRecDepth 100000 in
theorem pi_r50_3 : (List.range 21).all (fun j => pi_rowB 50 (144 + j) (pi_t50 (144 + j))) = true := by decide +kernel
theorem pi_q50 {pc : Nat} {r : pi_Row} (h : pi_t50 pc = some r) : r.1 = pc ∧ pi_ok 50 r := by
  have hp : pc < 165 := by
    cases hx : Nat.blt pc 165 with
    | true => exact Nat.le_of_ble_eq_true hx
    | false =>
      unfold pi_t50 at h
      rw [hx] at h
      cases h
  have h1 : pi_rowB 50 pc (pi_t50 pc) = true := by
    by_cases c0 : pc < 48
    · obtain ⟨j, rfl⟩ : ∃ j, pc = 0 + j := ⟨pc - 0, by omega⟩
      exact List.all_eq_true.mp pi_r50_0 j (List.mem_range.mpr (by omega))
    by_cases c1 : pc < 96
    · obtain ⟨j, rfl⟩ : ∃ j, pc = 48 + j := ⟨pc - 48, by omega⟩
      exact List.all_eq_true.mp pi_r50_1 j (List.mem_range.mpr (by omega))
    by_cases c2 : pc < 144
    · obtain ⟨j, rfl⟩ : ∃ j, pc = 96 + j := ⟨pc - 96, by omega⟩
      exact List.all_eq_true.mp pi_r50_2 j (List.mem_range.mpr (by omega))
    obtain ⟨j, rfl⟩ : ∃ j, pc = 144 + j := ⟨pc - 144, by omega⟩
    exact List.all_eq_true.mp pi_r50_3 j (List.mem_range.mpr (by omega))
  simp only [pi_rowB, h, Bool.and_eq_true] at h1
  exact ⟨Nat.eq_of_beq_eq_true h1.1, pi_ok_of _ _ h1.2⟩
set_option maxRecDepth 100000 in
theorem pi_r51_0 : (List.range 24).all (fun j => pi_rowB 51 (0 + j) (pi_t51 (0 + j))) = true := by decide +kernel
theorem pi_q51 {pc : Nat} {r : pi_Row} (h : pi_t51 pc = some r) : r.1 = pc ∧ pi_ok 51 r := by
  have hp : pc < 24 := by
    cases hx : Nat.blt pc 24 with
    | true => exact Nat.le_of_ble_eq_true hx
    | false =>
      unfold pi_t51 at h
      rw [hx] at h
      cases h
  have h1 : pi_rowB 51 pc (pi_t51 pc) = true := by
    obtain ⟨j, rfl⟩ : ∃ j, pc = 0 + j := ⟨pc - 0, by omega⟩
    exact List.all_eq_true.mp pi_r51_0 j (List.mem_range.mpr (by omega))
  simp only [pi_rowB, h, Bool.and_eq_true] at h1
  exact ⟨Nat.eq_of_beq_eq_true h1.1, pi_ok_of _ _ h1.2⟩
set_option maxRecDepth 100000 in
theorem pi_r52_0 : (List.range 35).all (fun j => pi_rowB 52 (0 + j) (pi_t52 (0 + j))) = true := by decide +kernel
theorem pi_q52 {pc : Nat} {r : pi_Row} (h : pi_t52 pc = some r) : r.1 = pc ∧ pi_ok 52 r := by
  have hp : pc < 35 := by
    cases hx : Nat.blt pc 35 with
    | true => exact Nat.le_of_ble_eq_true hx
    | false =>
      unfold pi_t52 at h
      rw [hx] at h
      cases h
  have h1 : pi_rowB 52 pc (pi_t52 pc) = true := by
    obtain ⟨j, rfl⟩ : ∃ j, pc = 0 + j := ⟨pc - 0, by omega⟩
    exact List.all_eq_true.mp pi_r52_0 j (List.mem_range.mpr (by omega))
  simp only [pi_rowB, h, Bool.and_eq_true] at h1
  exact ⟨Nat.eq_of_beq_eq_true h1.1, pi_ok_of _ _ h1.2⟩
set_option maxRecDepth 100000 in
theorem pi_r53_0 : (List.range 48).all (fun j => pi_rowB 53 (0 + j) (pi_t53 (0 + j))) = true := by decide +kernel
theorem pi_q53 {pc : Nat} {r : pi_Row} (h : pi_t53 pc = some r) : r.1 = pc ∧ pi_ok 53 r := by
  have hp : pc < 48 := by
    cases hx : Nat.blt pc 48 with
    | true => exact Nat.le_of_ble_eq_true hx
    | false =>
      unfold pi_t53 at h
      rw [hx] at h
      cases h
  have h1 : pi_rowB 53 pc (pi_t53 pc) = true := by
    obtain ⟨j, rfl⟩ : ∃ j, pc = 0 + j := ⟨pc - 0, by omega⟩
    exact List.all_eq_true.mp pi_r53_0 j (List.mem_range.mpr (by omega))
  simp only [pi_rowB, h, Bool.and_eq_true] at h1
  exact ⟨Nat.eq_of_beq_eq_true h1.1, pi_ok_of _ _ h1.2⟩
set_option maxRecDepth 100000 in
theorem pi_r54_0 : (List.range 48).all (fun j => pi_rowB 54 (0 + j) (pi_t54 (0 + j))) = true := by decide +kernel
set_option maxRecDepth 100000 in
theorem pi_r54_1 : (List.range 48).all (fun j => pi_rowB 54 (48 + j) (pi_t54 (48 + j))) = true := by decide +kernel
set_option maxRecDepth 100000 in
theorem pi_r54_2 : (List.range 9).all (fun j => pi_rowB 54 (96 + j) (pi_t54 (96 + j))) = true := by decide +kernel
theorem pi_q54 {pc : Nat} {r : pi_Row} (h : pi_t54 pc = some r) : r.1 = pc ∧ pi_ok 54 r := by
  have hp : pc < 105 := by
    cases hx : Nat.blt pc 105 with
    | true => exact Nat.le_of_ble_eq_true hx
    | false =>
      unfold pi_t54 at h
      rw [hx] at h
      cases h
  have h1 : pi_rowB 54 pc (pi_t54 pc) = true := by
    by_cases c0 : pc < 48
    · obtain ⟨j, rfl⟩ : ∃ j, pc = 0 + j := ⟨pc - 0, by omega⟩
      exact List.all_eq_true.mp pi_r54_0 j (List.mem_range.mpr (by omega))
    by_cases c1 : pc < 96
    · obtain ⟨j, rfl⟩ : ∃ j, pc = 48 + j := ⟨pc - 48, by omega⟩
      exact List.all_eq_true.mp pi_r54_1 j (List.mem_range.mpr (by omega))
    obtain ⟨j, rfl⟩ : ∃ j, pc = 96 + j := ⟨pc - 96, by omega⟩
    exact List.all_eq_true.mp pi_r54_2 j (List.mem_range.mpr (by omega))
  simp only [pi_rowB, h, Bool.and_eq_true] at h1
  exact ⟨Nat.eq_of_beq_eq_true h1.1, pi_ok_of _ _ h1.2⟩
set_option maxRecDepth 100000 in
theorem pi_r55_0 : (List.range 48).all (fun j => pi_rowB 55 (0 + j) (pi_t55 (0 + j))) = true := by decide +kernel
set_option maxRecDepth 100000 in
theorem pi_r55_1 : (List.range 10).all (fun j => pi_rowB 55 (48 + j) (pi_t55 (48 + j))) = true := by decide +kernel
theorem pi_q55 {pc : Nat} {r : pi_Row} (h : pi_t55 pc = some r) : r.1 = pc ∧ pi_ok 55 r := by
  have hp : pc < 58 := by
    cases hx : Nat.blt pc 58 with
    | true => exact Nat.le_of_ble_eq_true hx
    | false =>
      unfold pi_t55 at h
      rw [hx] at h
      cases h
  have h1 : pi_rowB 55 pc (pi_t55 pc) = true := by
    by_cases c0 : pc < 48
    · obtain ⟨j, rfl⟩ : ∃ j, pc = 0 + j := ⟨pc - 0, by omega⟩
      exact List.all_eq_true.mp pi_r55_0 j (List.mem_range.mpr (by omega))
    obtain ⟨j, rfl⟩ : ∃ j, pc = 48 + j := ⟨pc - 48, by omega⟩
    exact List.all_eq_true.mp pi_r55_1 j (List.mem_range.mpr (by omega))
  simp only [pi_rowB, h, Bool.and_eq_true] at h1
  exact ⟨Nat.eq_of_beq_eq_true h1.1, pi_ok_of _ _ h1.2⟩
set_option maxRecDepth 100000 in
theorem pi_r56_0 : (List.range 48).all (fun j => pi_rowB 56 (0 + j) (pi_t56 (0 + j))) = true := by decide +kernel
set_option maxRecDepth 100000 in
theorem pi_r56_1 : (List.range 48).all (fun j => pi_rowB 56 (48 + j) (pi_t56 (48 + j))) = true := by decide +kernel
set_option maxRecDepth 100000 in
theorem pi_r56_2 : (List.range 1).all (fun j => pi_rowB 56 (96 + j) (pi_t56 (96 + j))) = true := by decide +kernel
theorem pi_q56 {pc : Nat} {r : pi_Row} (h : pi_t56 pc = some r) : r.1 = pc ∧ pi_ok 56 r := by
  have hp : pc < 97 := by
    cases hx : Nat.blt pc 97 with
    | true => exact Nat.le_of_ble_eq_true hx
    | false =>
      unfold pi_t56 at h
      rw [hx] at h
      cases h
  have h1 : pi_rowB 56 pc (pi_t56 pc) = true := by
    by_cases c0 : pc < 48
    · obtain ⟨j, rfl⟩ : ∃ j, pc = 0 + j := ⟨pc - 0, by omega⟩
      exact List.all_eq_true.mp pi_r56_0 j (List.mem_range.mpr (by omega))
    by_cases c1 : pc < 96
    · obtain ⟨j, rfl⟩ : ∃ j, pc = 48 + j := ⟨pc - 48, by omega⟩
      exact List.all_eq_true.mp pi_r56_1 j (List.mem_range.mpr (by omega))
    obtain ⟨j, rfl⟩ : ∃ j, pc = 96 + j := ⟨pc - 96, by omega⟩
    exact List.all_eq_true.mp pi_r56_2 j (List.mem_range.mpr (by omega))
  simp only [pi_rowB, h, Bool.and_eq_true] at h1
  exact ⟨Nat.eq_of_beq_eq_true h1.1, pi_ok_of _ _ h1.2⟩
set_option maxRecDepth 100000 in
theorem pi_r57_0 : (List.range 48).all (fun j => pi_rowB 57 (0 + j) (pi_t57 (0 + j))) = true := by decide +kernel
set_option maxRecDepth 100000 in
theorem pi_r57_1 : (List.range 33).all (fun j => pi_rowB 57 (48 + j) (pi_t57 (48 + j))) = true := by decide +kernel
theorem pi_q57 {pc : Nat} {r : pi_Row} (h : pi_t57 pc = some r) : r.1 = pc ∧ pi_ok 57 r := by
  have hp : pc < 81 := by
    cases hx : Nat.blt pc 81 with
    | true => exact Nat.le_of_ble_eq_true hx
    | false =>
      unfold pi_t57 at h
      rw [hx] at h
      cases h
  have h1 : pi_rowB 57 pc (pi_t57 pc) = true := by
    by_cases c0 : pc < 48
    · obtain ⟨j, rfl⟩ : ∃ j, pc = 0 + j := ⟨pc - 0, by omega⟩
      exact List.all_eq_true.mp pi_r57_0 j (List.mem_range.mpr (by omega))
    obtain ⟨j, rfl⟩ : ∃ j, pc = 48 + j := ⟨pc - 48, by omega⟩
    exact List.all_eq_true.mp pi_r57_1 j (List.mem_range.mpr (by omega))
  simp only [pi_rowB, h, Bool.and_eq_true] at h1
  exact ⟨Nat.eq_of_beq_eq_true h1.1, pi_ok_of _ _ h1.2⟩
set_option maxRecDepth 100000 in
theorem pi_r58_0 : (List.range 13).all (fun j => pi_rowB 58 (0 + j) (pi_t58 (0 + j))) = true := by decide +kernel
theorem pi_q58 {pc : Nat} {r : pi_Row} (h : pi_t58 pc = some r) : r.1 = pc ∧ pi_ok 58 r := by
  have hp : pc < 13 := by
    cases hx : Nat.blt pc 13 with
    | true => exact Nat.le_of_ble_eq_true hx
    | false =>
      unfold pi_t58 at h
      rw [hx] at h
      cases h
  have h1 : pi_rowB 58 pc (pi_t58 pc) = true := by
    obtain ⟨j, rfl⟩ : ∃ j, pc = 0 + j := ⟨pc - 0, by omega⟩
    exact List.all_eq_true.mp pi_r58_0 j (List.mem_range.mpr (by omega))
  simp only [pi_rowB, h, Bool.and_eq_true] at h1
  exact ⟨Nat.eq_of_beq_eq_true h1.1, pi_ok_of _ _ h1.2⟩
set_option maxRecDepth 100000 in
theorem pi_r59_0 : (List.range 45).all (fun j => pi_rowB 59 (0 + j) (pi_t59 (0 + j))) = true := by decide +kernel
theorem pi_q59 {pc : Nat} {r : pi_Row} (h : pi_t59 pc = some r) : r.1 = pc ∧ pi_ok 59 r := by
  have hp : pc < 45 := by
    cases hx : Nat.blt pc 45 with
    | true => exact Nat.le_of_ble_eq_true hx
    | false =>
      unfold pi_t59 at h
      rw [hx] at h
      cases h
  have h1 : pi_rowB 59 pc (pi_t59 pc) = true := by
    obtain ⟨j, rfl⟩ : ∃ j, pc = 0 + j := ⟨pc - 0, by omega⟩
    exact List.all_eq_true.mp pi_r59_0 j (List.mem_range.mpr (by omega))
  simp only [pi_rowB, h, Bool.and_eq_true] at h1
  exact ⟨Nat.eq_of_beq_eq_true h1.1, pi_ok_of _ _ h1.2⟩
set_option maxRecDepth 100000 in
theorem pi_r60_0 : (List.range 48).all (fun j => pi_rowB 60 (0 + j) (pi_t60 (0 + j))) = true := by decide +kernel
set_option maxRecDepth 100000 in
theorem pi_r60_1 : (List.range 26).all (fun j => pi_rowB 60 (48 + j) (pi_t60 (48 + j))) = true := by decide +kernel
theorem pi_q60 {pc : Nat} {r : pi_Row} (h : pi_t60 pc = some r) : r.1 = pc ∧ pi_ok 60 r := by
  have hp : pc < 74 := by
    cases hx : Nat.blt pc 74 with
    | true => exact Nat.le_of_ble_eq_true hx
    | false =>
      unfold pi_t60 at h
      rw [hx] at h
      cases h
  have h1 : pi_rowB 60 pc (pi_t60 pc) = true := by
    by_cases c0 : pc < 48
    · obtain ⟨j, rfl⟩ : ∃ j, pc = 0 + j := ⟨pc - 0, by omega⟩
      exact List.all_eq_true.mp pi_r60_0 j (List.mem_range.mpr (by omega))
    obtain ⟨j, rfl⟩ : ∃ j, pc = 48 + j := ⟨pc - 48, by omega⟩
    exact List.all_eq_true.mp pi_r60_1 j (List.mem_range.mpr (by omega))
  simp only [pi_rowB, h, Bool.and_eq_true] at h1
  exact ⟨Nat.eq_of_beq_eq_true h1.1, pi_ok_of _ _ h1.2⟩
set_option maxRecDepth 100000 in
theorem pi_r61_0 : (List.range 47).all (fun j => pi_rowB 61 (0 + j) (pi_t61 (0 + j))) = true := by decide +kernel
theorem pi_q61 {pc : Nat} {r : pi_Row} (h : pi_t61 pc = some r) : r.1 = pc ∧ pi_ok 61 r := by
  have hp : pc < 47 := by
    cases hx : Nat.blt pc 47 with
    | true => exact Nat.le_of_ble_eq_true hx
    | false =>
      unfold pi_t61 at h
      rw [hx] at h
      cases h
  have h1 : pi_rowB 61 pc (pi_t61 pc) = true := by
    obtain ⟨j, rfl⟩ : ∃ j, pc = 0 + j := ⟨pc - 0, by omega⟩
    exact List.all_eq_true.mp pi_r61_0 j (List.mem_range.mpr (by omega))
  simp only [pi_rowB, h, Bool.and_eq_true] at h1
  exact ⟨Nat.eq_of_beq_eq_true h1.1, pi_ok_of _ _ h1.2⟩
set_option maxRecDepth 100000 in
theorem pi_r62_0 : (List.range 36).all (fun j => pi_rowB 62 (0 + j) (pi_t62 (0 + j))) = true := by decide +kernel
theorem pi_q62 {pc : Nat} {r : pi_Row} (h : pi_t62 pc = some r) : r.1 = pc ∧ pi_ok 62 r := by
  have hp : pc < 36 := by
    cases hx : Nat.blt pc 36 with
    | true => exact Nat.le_of_ble_eq_true hx
    | false =>
      unfold pi_t62 at h
      rw [hx] at h
      cases h
  have h1 : pi_rowB 62 pc (pi_t62 pc) = true := by
    obtain ⟨j, rfl⟩ : ∃ j, pc = 0 + j := ⟨pc - 0, by omega⟩
    exact List.all_eq_true.mp pi_r62_0 j (List.mem_range.mpr (by omega))
  simp only [pi_rowB, h, Bool.and_eq_true] at h1
  exact ⟨Nat.eq_of_beq_eq_true h1.1, pi_ok_of _ _ h1.2⟩
set_option maxRecDepth 100000 in
theorem pi_r63_0 : (List.range 33).all (fun j => pi_rowB 63 (0 + j) (pi_t63 (0 + j))) = true := by decide +kernel
theorem pi_q63 {pc : Nat} {r : pi_Row} (h : pi_t63 pc = some r) : r.1 = pc ∧ pi_ok 63 r := by
  have hp : pc < 33 := by
    cases hx : Nat.blt pc 33 with
    | true => exact Nat.le_of_ble_eq_true hx
    | false =>
      unfold pi_t63 at h
      rw [hx] at h
      cases h
  have h1 : pi_rowB 63 pc (pi_t63 pc) = true := by
    obtain ⟨j, rfl⟩ : ∃ j, pc = 0 + j := ⟨pc - 0, by omega⟩
    exact List.all_eq_true.mp pi_r63_0 j (List.mem_range.mpr (by omega))
  simp only [pi_rowB, h, Bool.and_eq_true] at h1
  exact ⟨Nat.eq_of_beq_eq_true h1.1, pi_ok_of _ _ h1.2⟩
set_option maxRecDepth 100000 in
theorem pi_r64_0 : (List.range 26).all (fun j => pi_rowB 64 (0 + j) (pi_t64 (0 + j))) = true := by decide +kernel
theorem pi_q64 {pc : Nat} {r : pi_Row} (h : pi_t64 pc = some r) : r.1 = pc ∧ pi_ok 64 r := by
  have hp : pc < 26 := by
    cases hx : Nat.blt pc 26 with
    | true => exact Nat.le_of_ble_eq_true hx
    | false =>
      unfold pi_t64 at h
      rw [hx] at h
      cases h
  have h1 : pi_rowB 64 pc (pi_t64 pc) = true := by
    obtain ⟨j, rfl⟩ : ∃ j, pc = 0 + j := ⟨pc - 0, by omega⟩
    exact List.all_eq_true.mp pi_r64_0 j (List.mem_range.mpr (by omega))
  simp only [pi_rowB, h, Bool.and_eq_true] at h1
  exact ⟨Nat.eq_of_beq_eq_true h1.1, pi_ok_of _ _ h1.2⟩
set_option maxRecDepth 100000 in
theorem pi_r65_0 : (List.range 48).all (fun j => pi_rowB 65 (0 + j) (pi_t65 (0 + j))) = true := by decide +kernel
theorem pi_q65 {pc : Nat} {r : pi_Row} (h : pi_t65 pc = some r) : r.1 = pc ∧ pi_ok 65 r := by
  have hp : pc < 48 := by
    cases hx : Nat.blt pc 48 with
    | true => exact Nat.le_of_ble_eq_true hx
    | false =>
      unfold pi_t65 at h
      rw [hx] at h
      cases h
  have h1 : pi_rowB 65 pc (pi_t65 pc) = true := by
    obtain ⟨j, rfl⟩ : ∃ j, pc = 0 + j := ⟨pc - 0, by omega⟩
    exact List.all_eq_true.mp pi_r65_0 j (List.mem_range.mpr (by omega))
  simp only [pi_rowB, h, Bool.and_eq_true] at h1
  exact ⟨Nat.eq_of_beq_eq_true h1.1, pi_ok_of _ _ h1.2⟩
set_option maxRecDepth 100000 in
theorem pi_r66_0 : (List.range 15).all (fun j => pi_rowB 66 (0 + j) (pi_t66 (0 + j))) = true := by decide +kernel
theorem pi_q66 {pc : Nat} {r : pi_Row} (h : pi_t66 pc = some r) : r.1 = pc ∧ pi_ok 66 r := by
  have hp : pc < 15 := by
    cases hx : Nat.blt pc 15 with
    | true => exact Nat.le_of_ble_eq_true hx
    | false =>
      unfold pi_t66 at h
      rw [hx] at h
      cases h
  have h1 : pi_rowB 66 pc (pi_t66 pc) = true := by
    obtain ⟨j, rfl⟩ : ∃ j, pc = 0 + j := ⟨pc - 0, by omega⟩
    exact List.all_eq_true.mp pi_r66_0 j (List.mem_range.mpr (by omega))
  simp only [pi_rowB, h, Bool.and_eq_true] at h1
  exact ⟨Nat.eq_of_beq_eq_true h1.1, pi_ok_of _ _ h1.2⟩
set_option maxRecDepth 100000 in
theorem pi_r67_0 : (List.range 44).all (fun j => pi_rowB 67 (0 + j) (pi_t67 (0 + j))) = true := by decide +kernel
theorem pi_q67 {pc : Nat} {r : pi_Row} (h : pi_t67 pc = some r) : r.1 = pc ∧ pi_ok 67 r := by
  have hp : pc < 44 := by
    cases hx : Nat.blt pc 44 with
    | true => exact Nat.le_of_ble_eq_true hx
    | false =>
      unfold pi_t67 at h
      rw [hx] at h
      cases h
  have h1 : pi_rowB 67 pc (pi_t67 pc) = true := by
    obtain ⟨j, rfl⟩ : ∃ j, pc = 0 + j := ⟨pc - 0, by omega⟩
    exact List.all_eq_true.mp pi_r67_0 j (List.mem_range.mpr (by omega))
  simp only [pi_rowB, h, Bool.and_eq_true] at h1
  exact ⟨Nat.eq_of_beq_eq_true h1.1, pi_ok_of _ _ h1.2⟩
set_option maxRecDepth 100000 in
theorem pi_r68_0 : (List.range 48).all (fun j => pi_rowB 68 (0 + j) (pi_t68 (0 + j))) = true := by decide +kernel
set_option maxRecDepth 100000 in
theorem pi_r68_1 : (List.range 14).all (fun j => pi_rowB 68 (48 + j) (pi_t68 (48 + j))) = true := by decide +kernel
theorem pi_q68 {pc : Nat} {r : pi_Row} (h : pi_t68 pc = some r) : r.1 = pc ∧ pi_ok 68 r := by
  have hp : pc < 62 := by
    cases hx : Nat.blt pc 62 with
    | true => exact Nat.le_of_ble_eq_true hx
    | false =>
      unfold pi_t68 at h
      rw [hx] at h
      cases h
  have h1 : pi_rowB 68 pc (pi_t68 pc) = true := by
    by_cases c0 : pc < 48
    · obtain ⟨j, rfl⟩ : ∃ j, pc = 0 + j := ⟨pc - 0, by omega⟩
      exact List.all_eq_true.mp pi_r68_0 j (List.mem_range.mpr (by omega))
    obtain ⟨j, rfl⟩ : ∃ j, pc = 48 + j := ⟨pc - 48, by omega⟩
    exact List.all_eq_true.mp pi_r68_1 j (List.mem_range.mpr (by omega))
  simp only [pi_rowB, h, Bool.and_eq_true] at h1
  exact ⟨Nat.eq_of_beq_eq_true h1.1, pi_ok_of _ _ h1.2⟩
set_option maxRecDepth 100000 in
theorem pi_r69_0 : (List.range 40).all (fun j => pi_rowB 69 (0 + j) (pi_t69 (0 + j))) = true := by decide +kernel
theorem pi_q69 {pc : Nat} {r : pi_Row} (h : pi_t69 pc = some r) : r.1 = pc ∧ pi_ok 69 r := by
  have hp : pc < 40 := by
    cases hx : Nat.blt pc 40 with
    | true => exact Nat.le_of_ble_eq_true hx
    | false =>
      unfold pi_t69 at h
      rw [hx] at h
      cases h
  have h1 : pi_rowB 69 pc (pi_t69 pc) = true := by
    obtain ⟨j, rfl⟩ : ∃ j, pc = 0 + j := ⟨pc - 0, by omega⟩
    exact List.all_eq_true.mp pi_r69_0 j (List.mem_range.mpr (by omega))
  simp only [pi_rowB, h, Bool.and_eq_true] at h1
  exact ⟨Nat.eq_of_beq_eq_true h1.1, pi_ok_of _ _ h1.2⟩
set_option maxRecDepth 100000 in
theorem pi_r70_0 : (List.range 40).all (fun j => pi_rowB 70 (0 + j) (pi_t70 (0 + j))) = true := by decide +kernel
theorem pi_q70 {pc : Nat} {r : pi_Row} (h : pi_t70 pc = some r) : r.1 = pc ∧ pi_ok 70 r := by
  have hp : pc < 40 := by
    cases hx : Nat.blt pc 40 with
    | true => exact Nat.le_of_ble_eq_true hx
    | false =>
      unfold pi_t70 at h
      rw [hx] at h
      cases h
  have h1 : pi_rowB 70 pc (pi_t70 pc) = true := by
    obtain ⟨j, rfl⟩ : ∃ j, pc = 0 + j := ⟨pc - 0, by omega⟩
    exact List.all_eq_true.mp pi_r70_0 j (List.mem_range.mpr (by omega))
  simp only [pi_rowB, h, Bool.and_eq_true] at h1
  exact ⟨Nat.eq_of_beq_eq_true h1.1, pi_ok_of _ _ h1.2⟩
set_option maxRecDepth 100000 in
theorem pi_r71_0 : (List.range 46).all (fun j => pi_rowB 71 (0 + j) (pi_t71 (0 + j))) = true := by decide +kernel
theorem pi_q71 {pc : Nat} {r : pi_Row} (h : pi_t71 pc = some r) : r.1 = pc ∧ pi_ok 71 r := by
  have hp : pc < 46 := by
    cases hx : Nat.blt pc 46 with
    | true => exact Nat.le_of_ble_eq_true hx
    | false =>
      unfold pi_t71 at h
      rw [hx] at h
      cases h
  have h1 : pi_rowB 71 pc (pi_t71 pc) = true := by
    obtain ⟨j, rfl⟩ : ∃ j, pc = 0 + j := ⟨pc - 0, by omega⟩
    exact List.all_eq_true.mp pi_r71_0 j (List.mem_range.mpr (by omega))
  simp only [pi_rowB, h, Bool.and_eq_true] at h1
  exact ⟨Nat.eq_of_beq_eq_true h1.1, pi_ok_of _ _ h1.2⟩
set_option maxRecDepth 100000 in
theorem pi_r72_0 : (List.range 27).all (fun j => pi_rowB 72 (0 + j) (pi_t72 (0 + j))) = true := by decide +kernel
theorem pi_q72 {pc : Nat} {r : pi_Row} (h : pi_t72 pc = some r) : r.1 = pc ∧ pi_ok 72 r := by
  have hp : pc < 27 := by
    cases hx : Nat.blt pc 27 with
    | true => exact Nat.le_of_ble_eq_true hx
    | false =>
      unfold pi_t72 at h
      rw [hx] at h
      cases h
  have h1 : pi_rowB 72 pc (pi_t72 pc) = true := by
    obtain ⟨j, rfl⟩ : ∃ j, pc = 0 + j := ⟨pc - 0, by omega⟩
    exact List.all_eq_true.mp pi_r72_0 j (List.mem_range.mpr (by omega))
  simp only [pi_rowB, h, Bool.and_eq_true] at h1
  exact ⟨Nat.eq_of_beq_eq_true h1.1, pi_ok_of _ _ h1.2⟩
set_option maxRecDepth 100000 in
theorem pi_r73_0 : (List.range 48).all (fun j => pi_rowB 73 (0 + j) (pi_t73 (0 + j))) = true := by decide +kernel
set_option maxRecDepth 100000 in
theorem pi_r73_1 : (List.range 16).all (fun j => pi_rowB 73 (48 + j) (pi_t73 (48 + j))) = true := by decide +kernel
theorem pi_q73 {pc : Nat} {r : pi_Row} (h : pi_t73 pc = some r) : r.1 = pc ∧ pi_ok 73 r := by
  have hp : pc < 64 := by
    cases hx : Nat.blt pc 64 with
    | true => exact Nat.le_of_ble_eq_true hx
    | false =>
      unfold pi_t73 at h
      rw [hx] at h
      cases h
  have h1 : pi_rowB 73 pc (pi_t73 pc) = true := by
    by_cases c0 : pc < 48
    · obtain ⟨j, rfl⟩ : ∃ j, pc = 0 + j := ⟨pc - 0, by omega⟩
      exact List.all_eq_true.mp pi_r73_0 j (List.mem_range.mpr (by omega))
    obtain ⟨j, rfl⟩ : ∃ j, pc = 48 + j := ⟨pc - 48, by omega⟩
    exact List.all_eq_true.mp pi_r73_1 j (List.mem_range.mpr (by omega))
  simp only [pi_rowB, h, Bool.and_eq_true] at h1
  exact ⟨Nat.eq_of_beq_eq_true h1.1, pi_ok_of _ _ h1.2⟩
set_option maxRecDepth 100000 in
theorem pi_r74_0 : (List.range 38).all (fun j => pi_rowB 74 (0 + j) (pi_t74 (0 + j))) = true := by decide +kernel
theorem pi_q74 {pc : Nat} {r : pi_Row} (h : pi_t74 pc = some r) : r.1 = pc ∧ pi_ok 74 r := by
  have hp : pc < 38 := by
    cases hx : Nat.blt pc 38 with
    | true => exact Nat.le_of_ble_eq_true hx
    | false =>
      unfold pi_t74 at h
      rw [hx] at h
      cases h
  have h1 : pi_rowB 74 pc (pi_t74 pc) = true := by
    obtain ⟨j, rfl⟩ : ∃ j, pc = 0 + j := ⟨pc - 0, by omega⟩
    exact List.all_eq_true.mp pi_r74_0 j (List.mem_range.mpr (by omega))
  simp only [pi_rowB, h, Bool.and_eq_true] at h1
  exact ⟨Nat.eq_of_beq_eq_true h1.1, pi_ok_of _ _ h1.2⟩
set_option maxRecDepth 100000 in
theorem pi_r75_0 : (List.range 8).all (fun j => pi_rowB 75 (0 + j) (pi_t75 (0 + j))) = true := by decide +kernel
theorem pi_q75 {pc : Nat} {r : pi_Row} (h : pi_t75 pc = some r) : r.1 = pc ∧ pi_ok 75 r := by
  have hp : pc < 8 := by
    cases hx : Nat.blt pc 8 with
    | true => exact Nat.le_of_ble_eq_true hx
    | false =>
      unfold pi_t75 at h
      rw [hx] at h
      cases h
  have h1 : pi_rowB 75 pc (pi_t75 pc) = true := by
    obtain ⟨j, rfl⟩ : ∃ j, pc = 0 + j := ⟨pc - 0, by omega⟩
    exact List.all_eq_true.mp pi_r75_0 j (List.mem_range.mpr (by omega))
  simp only [pi_rowB, h, Bool.and_eq_true] at h1
  exact ⟨Nat.eq_of_beq_eq_true h1.1, pi_ok_of _ _ h1.2⟩
set_option maxRecDepth 100000 in
theorem pi_r76_0 : (List.range 48).all (fun j => pi_rowB 76 (0 + j) (pi_t76 (0 + j))) = true := by decide +kernel
set_option maxRecDepth 100000 in
theorem pi_r76_1 : (List.range 48).all (fun j => pi_rowB 76 (48 + j) (pi_t76 (48 + j))) = true := by decide +kernel
set_option maxRecDepth 100000 in
theorem pi_r76_2 : (List.range 3).all (fun j => pi_rowB 76 (96 + j) (pi_t76 (96 + j))) = true := by decide +kernel
theorem pi_q76 {pc : Nat} {r : pi_Row} (h : pi_t76 pc = some r) : r.1 = pc ∧ pi_ok 76 r := by
  have hp : pc < 99 := by
    cases hx : Nat.blt pc 99 with
    | true => exact Nat.le_of_ble_eq_true hx
    | false =>
      unfold pi_t76 at h
      rw [hx] at h
      cases h
  have h1 : pi_rowB 76 pc (pi_t76 pc) = true := by
    by_cases c0 : pc < 48
    · obtain ⟨j, rfl⟩ : ∃ j, pc = 0 + j := ⟨pc - 0, by omega⟩
      exact List.all_eq_true.mp pi_r76_0 j (List.mem_range.mpr (by omega))
    by_cases c1 : pc < 96
    · obtain ⟨j, rfl⟩ : ∃ j, pc = 48 + j := ⟨pc - 48, by omega⟩
      exact List.all_eq_true.mp pi_r76_1 j (List.mem_range.mpr (by omega))
    obtain ⟨j, rfl⟩ : ∃ j, pc = 96 + j := ⟨pc - 96, by omega⟩
    exact List.all_eq_true.mp pi_r76_2 j (List.mem_range.mpr (by omega))
  simp only [pi_rowB, h, Bool.and_eq_true] at h1
  exact ⟨Nat.eq_of_beq_eq_true h1.1, pi_ok_of _ _ h1.2⟩
set_option maxRecDepth 100000 in
theorem pi_r77_0 : (List.range 46).all (fun j => pi_rowB 77 (0 + j) (pi_t77 (0 + j))) = true := by decide +kernel
theorem pi_q77 {pc : Nat} {r : pi_Row} (h : pi_t77 pc = some r) : r.1 = pc ∧ pi_ok 77 r := by
  have hp : pc < 46 := by
    cases hx : Nat.blt pc 46 with
    | true => exact Nat.le_of_ble_eq_true hx
    | false =>
      unfold pi_t77 at h
      rw [hx] at h
      cases h
  have h1 : pi_rowB 77 pc (pi_t77 pc) = true := by
    obtain ⟨j, rfl⟩ : ∃ j, pc = 0 + j := ⟨pc - 0, by omega⟩
    exact List.all_eq_true.mp pi_r77_0 j (List.mem_range.mpr (by omega))
  simp only [pi_rowB, h, Bool.and_eq_true] at h1
  exact ⟨Nat.eq_of_beq_eq_true h1.1, pi_ok_of _ _ h1.2⟩
set_option maxRecDepth 100000 in
theorem pi_r78_0 : (List.range 48).all (fun j => pi_rowB 78 (0 + j) (pi_t78 (0 + j))) = true := by decide +kernel
set_option maxRecDepth 100000 in
theorem pi_r78_1 : (List.range 16).all (fun j => pi_rowB 78 (48 + j) (pi_t78 (48 + j))) = true := by decide +kernel
theorem pi_q78 {pc : Nat} {r : pi_Row} (h : pi_t78 pc = some r) : r.1 = pc ∧ pi_ok 78 r := by
  have hp : pc < 64 := by
    cases hx : Nat.blt pc 64 with
    | true => exact Nat.le_of_ble_eq_true hx
    | false =>
      unfold pi_t78 at h
      rw [hx] at h
      cases h
  have h1 : pi_rowB 78 pc (pi_t78 pc) = true := by
    by_cases c0 : pc < 48
    · obtain ⟨j, rfl⟩ : ∃ j, pc = 0 + j := ⟨pc - 0, by omega⟩
      exact List.all_eq_true.mp pi_r78_0 j (List.mem_range.mpr (by omega))
    obtain ⟨j, rfl⟩ : ∃ j, pc = 48 + j := ⟨pc - 48, by omega⟩
    exact List.all_eq_true.mp pi_r78_1 j (List.mem_range.mpr (by omega))
  simp only [pi_rowB, h, Bool.and_eq_true] at h1
  exact ⟨Nat.eq_of_beq_eq_true h1.1, pi_ok_of _ _ h1.2⟩
set_option maxRecDepth 100000 in
theorem pi_r79_0 : (List.range 48).all (fun j => pi_rowB 79 (0 + j) (pi_t79 (0 + j))) = true := by decide +kernel
set_option maxRecDepth 100000 in
theorem pi_r79_1 : (List.range 48).all (fun j => pi_rowB 79 (48 + j) (pi_t79 (48 + j))) = true := by decide +kernel
set_option maxRecDepth 100000 in
theorem pi_r79_2 : (List.range 9).all (fun j => pi_rowB 79 (96 + j) (pi_t79 (96 + j))) = true := by decide +kernel
theorem pi_q79 {pc : Nat} {r : pi_Row} (h : pi_t79 pc = some r) : r.1 = pc ∧ pi_ok 79 r := by
  have hp : pc < 105 := by
    cases hx : Nat.blt pc 105 with
    | true => exact Nat.le_of_ble_eq_true hx
    | false =>
      unfold pi_t79 at h
      rw [hx] at h
      cases h
  have h1 : pi_rowB 79 pc (pi_t79 pc) = true := by
    by_cases c0 : pc < 48
    · obtain ⟨j, rfl⟩ : ∃ j, pc = 0 + j := ⟨pc - 0, by omega⟩
      exact List.all_eq_true.mp pi_r79_0 j (List.mem_range.mpr (by omega))
    by_cases c1 : pc < 96
    · obtain ⟨j, rfl⟩ : ∃ j, pc = 48 + j := ⟨pc - 48, by omega⟩
      exact List.all_eq_true.mp pi_r79_1 j (List.mem_range.mpr (by omega))
    obtain ⟨j, rfl⟩ : ∃ j, pc = 96 + j := ⟨pc - 96, by omega⟩
    exact List.all_eq_true.mp pi_r79_2 j (List.mem_range.mpr (by omega))
  simp only [pi_rowB, h, Bool.and_eq_true] at h1
  exact ⟨Nat.eq_of_beq_eq_true h1.1, pi_ok_of _ _ h1.2⟩
set_option maxRecDepth 100000 in
theorem pi_r80_0 : (List.range 38).all (fun j => pi_rowB 80 (0 + j) (pi_t80 (0 + j))) = true := by decide +kernel
theorem pi_q80 {pc : Nat} {r : pi_Row} (h : pi_t80 pc = some r) : r.1 = pc ∧ pi_ok 80 r := by
  have hp : pc < 38 := by
    cases hx : Nat.blt pc 38 with
    | true => exact Nat.le_of_ble_eq_true hx
    | false =>
      unfold pi_t80 at h
      rw [hx] at h
      cases h
  have h1 : pi_rowB 80 pc (pi_t80 pc) = true := by
    obtain ⟨j, rfl⟩ : ∃ j, pc = 0 + j := ⟨pc - 0, by omega⟩
    exact List.all_eq_true.mp pi_r80_0 j (List.mem_range.mpr (by omega))
  simp only [pi_rowB, h, Bool.and_eq_true] at h1
  exact ⟨Nat.eq_of_beq_eq_true h1.1, pi_ok_of _ _ h1.2⟩
set_option maxRecDepth 100000 in
theorem pi_r81_0 : (List.range 48).all (fun j => pi_rowB 81 (0 + j) (pi_t81 (0 + j))) = true := by decide +kernel
set_option maxRecDepth 100000 in
theorem pi_r81_1 : (List.range 31).all (fun j => pi_rowB 81 (48 + j) (pi_t81 (48 + j))) = true := by decide +kernel
theorem pi_q81 {pc : Nat} {r : pi_Row} (h : pi_t81 pc = some r) : r.1 = pc ∧ pi_ok 81 r := by
  have hp : pc < 79 := by
    cases hx : Nat.blt pc 79 with
    | true => exact Nat.le_of_ble_eq_true hx
    | false =>
      unfold pi_t81 at h
      rw [hx] at h
      cases h
  have h1 : pi_rowB 81 pc (pi_t81 pc) = true := by
    by_cases c0 : pc < 48
    · obtain ⟨j, rfl⟩ : ∃ j, pc = 0 + j := ⟨pc - 0, by omega⟩
      exact List.all_eq_true.mp pi_r81_0 j (List.mem_range.mpr (by omega))
    obtain ⟨j, rfl⟩ : ∃ j, pc = 48 + j := ⟨pc - 48, by omega⟩
    exact List.all_eq_true.mp pi_r81_1 j (List.mem_range.mpr (by omega))
  simp only [pi_rowB, h, Bool.and_eq_true] at h1
  exact ⟨Nat.eq_of_beq_eq_true h1.1, pi_ok_of _ _ h1.2⟩
set_option maxRecDepth 100000 in
theorem pi_r82_0 : (List.range 48).all (fun j => pi_rowB 82 (0 + j) (pi_t82 (0 + j))) = true := by decide +kernel
set_option maxRecDepth 100000 in
theorem pi_r82_1 : (List.range 5).all (fun j => pi_rowB 82 (48 + j) (pi_t82 (48 + j))) = true := by decide +kernel
theorem pi_q82 {pc : Nat} {r : pi_Row} (h : pi_t82 pc = some r) : r.1 = pc ∧ pi_ok 82 r := by
  have hp : pc < 53 := by
    cases hx : Nat.blt pc 53 with
    | true => exact Nat.le_of_ble_eq_true hx
    | false =>
      unfold pi_t82 at h
      rw [hx] at h
      cases h
  have h1 : pi_rowB 82 pc (pi_t82 pc) = true := by
    by_cases c0 : pc < 48
    · obtain ⟨j, rfl⟩ : ∃ j, pc = 0 + j := ⟨pc - 0, by omega⟩
      exact List.all_eq_true.mp pi_r82_0 j (List.mem_range.mpr (by omega))
    obtain ⟨j, rfl⟩ : ∃ j, pc = 48 + j := ⟨pc - 48, by omega⟩
    exact List.all_eq_true.mp pi_r82_1 j (List.mem_range.mpr (by omega))
  simp only [pi_rowB, h, Bool.and_eq_true] at h1
  exact ⟨Nat.eq_of_beq_eq_true h1.1, pi_ok_of _ _ h1.2⟩
set_option maxRecDepth 100000 in
theorem pi_r83_0 : (List.range 48).all (fun j => pi_rowB 83 (0 + j) (pi_t83 (0 + j))) = true := by decide +kernel
set_option maxRecDepth 100000 in
theorem pi_r83_1 : (List.range 48).all (fun j => pi_rowB 83 (48 + j) (pi_t83 (48 + j))) = true := by decide +kernel
set_option maxRecDepth 100000 in
theorem pi_r83_2 : (List.range 35).all (fun j => pi_rowB 83 (96 + j) (pi_t83 (96 + j))) = true := by decide +kernel
theorem pi_q83 {pc : Nat} {r : pi_Row} (h : pi_t83 pc = some r) : r.1 = pc ∧ pi_ok 83 r := by
  have hp : pc < 131 := by
    cases hx : Nat.blt pc 131 with
    | true => exact Nat.le_of_ble_eq_true hx
    | false =>
      unfold pi_t83 at h
      rw [hx] at h
      cases h
  have h1 : pi_rowB 83 pc (pi_t83 pc) = true := by
    by_cases c0 : pc < 48
    · obtain ⟨j, rfl⟩ : ∃ j, pc = 0 + j := ⟨pc - 0, by omega⟩
      exact List.all_eq_true.mp pi_r83_0 j (List.mem_range.mpr (by omega))
    by_cases c1 : pc < 96
    · obtain ⟨j, rfl⟩ : ∃ j, pc = 48 + j := ⟨pc - 48, by omega⟩
      exact List.all_eq_true.mp pi_r83_1 j (List.mem_range.mpr (by omega))
    obtain ⟨j, rfl⟩ : ∃ j, pc = 96 + j := ⟨pc - 96, by omega⟩
    exact List.all_eq_true.mp pi_r83_2 j (List.mem_range.mpr (by omega))
  simp only [pi_rowB, h, Bool.and_eq_true] at h1
  exact ⟨Nat.eq_of_beq_eq_true h1.1, pi_ok_of _ _ h1.2⟩
set_option maxRecDepth 100000 in
theorem pi_r84_0 : (List.range 35).all (fun j => pi_rowB 84 (0 + j) (pi_t84 (0 + j))) = true := by decide +kernel
theorem pi_q84 {pc : Nat} {r : pi_Row} (h : pi_t84 pc = some r) : r.1 = pc ∧ pi_ok 84 r := by
  have hp : pc < 35 := by
    cases hx : Nat.blt pc 35 with
    | true => exact Nat.le_of_ble_eq_true hx
    | false =>
      unfold pi_t84 at h
      rw [hx] at h
      cases h
  have h1 : pi_rowB 84 pc (pi_t84 pc) = true := by
    obtain ⟨j, rfl⟩ : ∃ j, pc = 0 + j := ⟨pc - 0, by omega⟩
    exact List.all_eq_true.mp pi_r84_0 j (List.mem_range.mpr (by omega))
  simp only [pi_rowB, h, Bool.and_eq_true] at h1
  exact ⟨Nat.eq_of_beq_eq_true h1.1, pi_ok_of _ _ h1.2⟩
set_option maxRecDepth 100000 in
theorem pi_r85_0 : (List.range 46).all (fun j => pi_rowB 85 (0 + j) (pi_t85 (0 + j))) = true := by decide +kernel
theorem pi_q85 {pc : Nat} {r : pi_Row} (h : pi_t85 pc = some r) : r.1 = pc ∧ pi_ok 85 r := by
  have hp : pc < 46 := by
    cases hx : Nat.blt pc 46 with
    | true => exact Nat.le_of_ble_eq_true hx
    | false =>
      unfold pi_t85 at h
      rw [hx] at h
      cases h
  have h1 : pi_rowB 85 pc (pi_t85 pc) = true := by
    obtain ⟨j, rfl⟩ : ∃ j, pc = 0 + j := ⟨pc - 0, by omega⟩
    exact List.all_eq_true.mp pi_r85_0 j (List.mem_range.mpr (by omega))
  simp only [pi_rowB, h, Bool.and_eq_true] at h1
  exact ⟨Nat.eq_of_beq_eq_true h1.1, pi_ok_of _ _ h1.2⟩
set_option maxRecDepth 100000 in
theorem pi_r86_0 : (List.range 48).all (fun j => pi_rowB 86 (0 + j) (pi_t86 (0 + j))) = true := by decide +kernel
theorem pi_q86 {pc : Nat} {r : pi_Row} (h : pi_t86 pc = some r) : r.1 = pc ∧ pi_ok 86 r := by
  have hp : pc < 48 := by
    cases hx : Nat.blt pc 48 with
    | true => exact Nat.le_of_ble_eq_true hx
    | false =>
      unfold pi_t86 at h
      rw [hx] at h
      cases h
  have h1 : pi_rowB 86 pc (pi_t86 pc) = true := by
    obtain ⟨j, rfl⟩ : ∃ j, pc = 0 + j := ⟨pc - 0, by omega⟩
    exact List.all_eq_true.mp pi_r86_0 j (List.mem_range.mpr (by omega))
  simp only [pi_rowB, h, Bool.and_eq_true] at h1
  exact ⟨Nat.eq_of_beq_eq_true h1.1, pi_ok_of _ _ h1.2⟩
set_option maxRecDepth 100000 in
theorem pi_r87_0 : (List.range 43).all (fun j => pi_rowB 87 (0 + j) (pi_t87 (0 + j))) = true := by decide +kernel
theorem pi_q87 {pc : Nat} {r : pi_Row} (h : pi_t87 pc = some r) : r.1 = pc ∧ pi_ok 87 r := by
  have hp : pc < 43 := by
    cases hx : Nat.blt pc 43 with
    | true => exact Nat.le_of_ble_eq_true hx
    | false =>
      unfold pi_t87 at h
      rw [hx] at h
      cases h
  have h1 : pi_rowB 87 pc (pi_t87 pc) = true := by
    obtain ⟨j, rfl⟩ : ∃ j, pc = 0 + j := ⟨pc - 0, by omega⟩
    exact List.all_eq_true.mp pi_r87_0 j (List.mem_range.mpr (by omega))
  simp only [pi_rowB, h, Bool.and_eq_true] at h1
  exact ⟨Nat.eq_of_beq_eq_true h1.1, pi_ok_of _ _ h1.2⟩
set_option maxRecDepth 100000 in
theorem pi_r88_0 : (List.range 48).all (fun j => pi_rowB 88 (0 + j) (pi_t88 (0 + j))) = true := by decide +kernel
set_option maxRecDepth 100000 in
theorem pi_r88_1 : (List.range 10).all (fun j => pi_rowB 88 (48 + j) (pi_t88 (48 + j))) = true := by decide +kernel
theorem pi_q88 {pc : Nat} {r : pi_Row} (h : pi_t88 pc = some r) : r.1 = pc ∧ pi_ok 88 r := by
  have hp : pc < 58 := by
    cases hx : Nat.blt pc 58 with
    | true => exact Nat.le_of_ble_eq_true hx
    | false =>
      unfold pi_t88 at h
      rw [hx] at h
      cases h
  have h1 : pi_rowB 88 pc (pi_t88 pc) = true := by
    by_cases c0 : pc < 48
    · obtain ⟨j, rfl⟩ : ∃ j, pc = 0 + j := ⟨pc - 0, by omega⟩
      exact List.all_eq_true.mp pi_r88_0 j (List.mem_range.mpr (by omega))
    obtain ⟨j, rfl⟩ : ∃ j, pc = 48 + j := ⟨pc - 48, by omega⟩
    exact List.all_eq_true.mp pi_r88_1 j (List.mem_range.mpr (by omega))
  simp only [pi_rowB, h, Bool.and_eq_true] at h1
  exact ⟨Nat.eq_of_beq_eq_true h1.1, pi_ok_of _ _ h1.2⟩
set_option maxRecDepth 100000 in
theorem pi_r89_0 : (List.range 48).all (fun j => pi_rowB 89 (0 + j) (pi_t89 (0 + j))) = true := by decide +kernel
set_option maxRecDepth 100000 in
theorem pi_r89_1 : (List.range 11).all (fun j => pi_rowB 89 (48 + j) (pi_t89 (48 + j))) = true := by decide +kernel
theorem pi_q89 {pc : Nat} {r : pi_Row} (h : pi_t89 pc = some r) : r.1 = pc ∧ pi_ok 89 r := by
  have hp : pc < 59 := by
    cases hx : Nat.blt pc 59 with
    | true => exact Nat.le_of_ble_eq_true hx
    | false =>
      unfold pi_t89 at h
      rw [hx] at h
      cases h
  have h1 : pi_rowB 89 pc (pi_t89 pc) = true := by
    by_cases c0 : pc < 48
    · obtain ⟨j, rfl⟩ : ∃ j, pc = 0 + j := ⟨pc - 0, by omega⟩
      exact List.all_eq_true.mp pi_r89_0 j (List.mem_range.mpr (by omega))
    obtain ⟨j, rfl⟩ : ∃ j, pc = 48 + j := ⟨pc - 48, by omega⟩
    exact List.all_eq_true.mp pi_r89_1 j (List.mem_range.mpr (by omega))
  simp only [pi_rowB, h, Bool.and_eq_true] at h1
  exact ⟨Nat.eq_of_beq_eq_true h1.1, pi_ok_of _ _ h1.2⟩
set_option maxRecDepth 100000 in
theorem pi_r90_0 : (List.range 48).all (fun j => pi_rowB 90 (0 + j) (pi_t90 (0 + j))) = true := by decide +kernel
set_option maxRecDepth 100000 in
theorem pi_r90_1 : (List.range 48).all (fun j => pi_rowB 90 (48 + j) (pi_t90 (48 + j))) = true := by decide +kernel
set_option maxRecDepth 100000 in
theorem pi_r90_2 : (List.range 29).all (fun j => pi_rowB 90 (96 + j) (pi_t90 (96 + j))) = true := by decide +kernel
theorem pi_q90 {pc : Nat} {r : pi_Row} (h : pi_t90 pc = some r) : r.1 = pc ∧ pi_ok 90 r := by
  have hp : pc < 125 := by
    cases hx : Nat.blt pc 125 with
    | true => exact Nat.le_of_ble_eq_true hx
    | false =>
      unfold pi_t90 at h
      rw [hx] at h
      cases h
  have h1 : pi_rowB 90 pc (pi_t90 pc) = true := by
    by_cases c0 : pc < 48
    · obtain ⟨j, rfl⟩ : ∃ j, pc = 0 + j := ⟨pc - 0, by omega⟩
      exact List.all_eq_true.mp pi_r90_0 j (List.mem_range.mpr (by omega))
    by_cases c1 : pc < 96
    · obtain ⟨j, rfl⟩ : ∃ j, pc = 48 + j := ⟨pc - 48, by omega⟩
      exact List.all_eq_true.mp pi_r90_1 j (List.mem_range.mpr (by omega))
    obtain ⟨j, rfl⟩ : ∃ j, pc = 96 + j := ⟨pc - 96, by omega⟩
    exact List.all_eq_true.mp pi_r90_2 j (List.mem_range.mpr (by omega))
  simp only [pi_rowB, h, Bool.and_eq_true] at h1
  exact ⟨Nat.eq_of_beq_eq_true h1.1, pi_ok_of _ _ h1.2⟩
set_option maxRecDepth 100000 in
theorem pi_r91_0 : (List.range 48).all (fun j => pi_rowB 91 (0 + j) (pi_t91 (0 + j))) = true := by decide +kernel
set_option maxRecDepth 100000 in
theorem pi_r91_1 : (List.range 48).all (fun j => pi_rowB 91 (48 + j) (pi_t91 (48 + j))) = true := by decide +kernel
set_option maxRecDepth 100000 in
theorem pi_r91_2 : (List.range 1).all (fun j => pi_rowB 91 (96 + j) (pi_t91 (96 + j))) = true := by decide +kernel
theorem pi_q91 {pc : Nat} {r : pi_Row} (h : pi_t91 pc = some r) : r.1 = pc ∧ pi_ok 91 r := by
  have hp : pc < 97 := by
    cases hx : Nat.blt pc 97 with
    | true => exact Nat.le_of_ble_eq_true hx
    | false =>
      unfold pi_t91 at h
      rw [hx] at h
      cases h
  have h1 : pi_rowB 91 pc (pi_t91 pc) = true := by
    by_cases c0 : pc < 48
    · obtain ⟨j, rfl⟩ : ∃ j, pc = 0 + j := ⟨pc - 0, by omega⟩
      exact List.all_eq_true.mp pi_r91_0 j (List.mem_range.mpr (by omega))
    by_cases c1 : pc < 96
    · obtain ⟨j, rfl⟩ : ∃ j, pc = 48 + j := ⟨pc - 48, by omega⟩
      exact List.all_eq_true.mp pi_r91_1 j (List.mem_range.mpr (by omega))
    obtain ⟨j, rfl⟩ : ∃ j, pc = 96 + j := ⟨pc - 96, by omega⟩
    exact List.all_eq_true.mp pi_r91_2 j (List.mem_range.mpr (by omega))
  simp only [pi_rowB, h, Bool.and_eq_true] at h1
  exact ⟨Nat.eq_of_beq_eq_true h1.1, pi_ok_of _ _ h1.2⟩
set_option maxRecDepth 100000 in
theorem pi_r92_0 : (List.range 48).all (fun j => pi_rowB 92 (0 + j) (pi_t92 (0 + j))) = true := by decide +kernel
set_option maxRecDepth 100000 in
theorem pi_r92_1 : (List.range 48).all (fun j => pi_rowB 92 (48 + j) (pi_t92 (48 + j))) = true := by decide +kernel
set_option maxRecDepth 100000 in
theorem pi_r92_2 : (List.range 43).all (fun j => pi_rowB 92 (96 + j) (pi_t92 (96 + j))) = true := by decide +kernel
theorem pi_q92 {pc : Nat} {r : pi_Row} (h : pi_t92 pc = some r) : r.1 = pc ∧ pi_ok 92 r := by
  have hp : pc < 139 := by
    cases hx : Nat.blt pc 139 with
    | true => exact Nat.le_of_ble_eq_true hx
    | false =>
      unfold pi_t92 at h
      rw [hx] at h
      cases h
  have h1 : pi_rowB 92 pc (pi_t92 pc) = true := by
    by_cases c0 : pc < 48
    · obtain ⟨j, rfl⟩ : ∃ j, pc = 0 + j := ⟨pc - 0, by omega⟩
      exact List.all_eq_true.mp pi_r92_0 j (List.mem_range.mpr (by omega))
    by_cases c1 : pc < 96
    · obtain ⟨j, rfl⟩ : ∃ j, pc = 48 + j := ⟨pc - 48, by omega⟩
      exact List.all_eq_true.mp pi_r92_1 j (List.mem_range.mpr (by omega))
    obtain ⟨j, rfl⟩ : ∃ j, pc = 96 + j := ⟨pc - 96, by omega⟩
    exact List.all_eq_true.mp pi_r92_2 j (List.mem_range.mpr (by omega))
  simp only [pi_rowB, h, Bool.and_eq_true] at h1
  exact ⟨Nat.eq_of_beq_eq_true h1.1, pi_ok_of _ _ h1.2⟩
set_option maxRecDepth 100000 in
theorem pi_r93_0 : (List.range 48).all (fun j => pi_rowB 93 (0 + j) (pi_t93 (0 + j))) = true := by decide +kernel
set_option maxRecDepth 100000 in
theorem pi_r93_1 : (List.range 48).all (fun j => pi_rowB 93 (48 + j) (pi_t93 (48 + j))) = true := by decide +kernel
set_option maxRecDepth 100000 in
theorem pi_r93_2 : (List.range 48).all (fun j => pi_rowB 93 (96 + j) (pi_t93 (96 + j))) = true := by decide +kernel
set_option maxRecDepth 100000 in
theorem pi_r93_3 : (List.range 48).all (fun j => pi_rowB 93 (144 + j) (pi_t93 (144 + j))) = true := by decide +kernel
set_option maxRecDepth 100000 in
theorem pi_r93_4 : (List.range 48).all (fun j => pi_rowB 93 (192 + j) (pi_t93 (192 + j))) = true := by decide +kernel
set_option maxRecDepth 100000 in
theorem pi_r93_5 : (List.range 48).all (fun j => pi_rowB 93 (240 + j) (pi_t93 (240 + j))) = true := by decide +kernel
set_option maxRecDepth 100000 in
theorem pi_r93_6 : (List.range 48).all (fun j => pi_rowB 93 (288 + j) (pi_t93 (288 + j))) = true := by decide +kernel
set_option maxRecDepth 100000 in
theorem pi_r93_7 : (List.range 48).all (fun j => pi_rowB 93 (336 + j) (pi_t93 (336 + j))) = true := by decide +kernel
set_option maxRecDepth 100000 in
theorem pi_r93_8 : (List.range 30).all (fun j => pi_rowB 93 (384 + j) (pi_t93 (384 + j))) = true := by decide +kernel
theorem pi_q93 {pc : Nat} {r : pi_Row} (h : pi_t93 pc = some r) : r.1 = pc ∧ pi_ok 93 r := by
  have hp : pc < 414 := by
    cases hx : Nat.blt pc 414 with
    | true => exact Nat.le_of_ble_eq_true hx
    | false =>
      unfold pi_t93 at h
      rw [hx] at h
      cases h
  have h1 : pi_rowB 93 pc (pi_t93 pc) = true := by
    by_cases c0 : pc < 48
    · obtain ⟨j, rfl⟩ : ∃ j, pc = 0 + j := ⟨pc - 0, by omega⟩
      exact List.all_eq_true.mp pi_r93_0 j (List.mem_range.mpr (by omega))
    by_cases c1 : pc < 96
    · obtain ⟨j, rfl⟩ : ∃ j, pc = 48 + j := ⟨pc - 48, by omega⟩
      exact List.all_eq_true.mp pi_r93_1 j (List.mem_range.mpr (by omega))
    by_cases c2 : pc < 144
    · obtain ⟨j, rfl⟩ : ∃ j, pc = 96 + j := ⟨pc - 96, by omega⟩
      exact List.all_eq_true.mp pi_r93_2 j (List.mem_range.mpr (by omega))
    by_cases c3 : pc < 192
    · obtain ⟨j, rfl⟩ : ∃ j, pc = 144 + j := ⟨pc - 144, by omega⟩
      exact List.all_eq_true.mp pi_r93_3 j (List.mem_range.mpr (by omega))
    by_cases c4 : pc < 240
    · obtain ⟨j, rfl⟩ : ∃ j, pc = 192 + j := ⟨pc - 192, by omega⟩
      exact List.all_eq_true.mp pi_r93_4 j (List.mem_range.mpr (by omega))
    by_cases c5 : pc < 288
    · obtain ⟨j, rfl⟩ : ∃ j, pc = 240 + j := ⟨pc - 240, by omega⟩
      exact List.all_eq_true.mp pi_r93_5 j (List.mem_range.mpr (by omega))
    by_cases c6 : pc < 336
    · obtain ⟨j, rfl⟩ : ∃ j, pc = 288 + j := ⟨pc - 288, by omega⟩
      exact List.all_eq_true.mp pi_r93_6 j (List.mem_range.mpr (by omega))
    by_cases c7 : pc < 384
    · obtain ⟨j, rfl⟩ : ∃ j, pc = 336 + j := ⟨pc - 336, by omega⟩
      exact List.all_eq_true.mp pi_r93_7 j (List.mem_range.mpr (by omega))
    obtain ⟨j, rfl⟩ : ∃ j, pc = 384 + j := ⟨pc - 384, by omega⟩
    exact List.all_eq_true.mp pi_r93_8 j (List.mem_range.mpr (by omega))
  simp only [pi_rowB, h, Bool.and_eq_true] at h1
  exact ⟨Nat.eq_of_beq_eq_true h1.1, pi_ok_of _ _ h1.2⟩
set_option maxRecDepth 100000 in
theorem pi_r94_0 : (List.range 15).all (fun j => pi_rowB 94 (0 + j) (pi_t94 (0 + j))) = true := by decide +kernel
theorem pi_q94 {pc : Nat} {r : pi_Row} (h : pi_t94 pc = some r) : r.1 = pc ∧ pi_ok 94 r := by
  have hp : pc < 15 := by
    cases hx : Nat.blt pc 15 with
    | true => exact Nat.le_of_ble_eq_true hx
    | false =>
      unfold pi_t94 at h
      rw [hx] at h
      cases h
  have h1 : pi_rowB 94 pc (pi_t94 pc) = true := by
    obtain ⟨j, rfl⟩ : ∃ j, pc = 0 + j := ⟨pc - 0, by omega⟩
    exact List.all_eq_true.mp pi_r94_0 j (List.mem_range.mpr (by omega))
  simp only [pi_rowB, h, Bool.and_eq_true] at h1
  exact ⟨Nat.eq_of_beq_eq_true h1.1, pi_ok_of _ _ h1.2⟩
set_option maxRecDepth 100000 in
theorem pi_r95_0 : (List.range 21).all (fun j => pi_rowB 95 (0 + j) (pi_t95 (0 + j))) = true := by decide +kernel
theorem pi_q95 {pc : Nat} {r : pi_Row} (h : pi_t95 pc = some r) : r.1 = pc ∧ pi_ok 95 r := by
  have hp : pc < 21 := by
    cases hx : Nat.blt pc 21 with
    | true => exact Nat.le_of_ble_eq_true hx
    | false =>
      unfold pi_t95 at h
      rw [hx] at h
      cases h
  have h1 : pi_rowB 95 pc (pi_t95 pc) = true := by
    obtain ⟨j, rfl⟩ : ∃ j, pc = 0 + j := ⟨pc - 0, by omega⟩
    exact List.all_eq_true.mp pi_r95_0 j (List.mem_range.mpr (by omega))
  simp only [pi_rowB, h, Bool.and_eq_true] at h1
  exact ⟨Nat.eq_of_beq_eq_true h1.1, pi_ok_of _ _ h1.2⟩
set_option maxRecDepth 100000 in
theorem pi_r96_0 : (List.range 10).all (fun j => pi_rowB 96 (0 + j) (pi_t96 (0 + j))) = true := by decide +kernel
theorem pi_q96 {pc : Nat} {r : pi_Row} (h : pi_t96 pc = some r) : r.1 = pc ∧ pi_ok 96 r := by
  have hp : pc < 10 := by
    cases hx : Nat.blt pc 10 with
    | true => exact Nat.le_of_ble_eq_true hx
    | false =>
      unfold pi_t96 at h
      rw [hx] at h
      cases h
  have h1 : pi_rowB 96 pc (pi_t96 pc) = true := by
    obtain ⟨j, rfl⟩ : ∃ j, pc = 0 + j := ⟨pc - 0, by omega⟩
    exact List.all_eq_true.mp pi_r96_0 j (List.mem_range.mpr (by omega))
  simp only [pi_rowB, h, Bool.and_eq_true] at h1
  exact ⟨Nat.eq_of_beq_eq_true h1.1, pi_ok_of _ _ h1.2⟩
set_option maxRecDepth 100000 in
theorem pi_r97_0 : (List.range 23).all (fun j => pi_rowB 97 (0 + j) (pi_t97 (0 + j))) = true := by decide +kernel
theorem pi_q97 {pc : Nat} {r : pi_Row} (h : pi_t97 pc = some r) : r.1 = pc ∧ pi_ok 97 r := by
  have hp : pc < 23 := by
    cases hx : Nat.blt pc 23 with
    | true => exact Nat.le_of_ble_eq_true hx
    | false =>
      unfold pi_t97 at h
      rw [hx] at h
      cases h
  have h1 : pi_rowB 97 pc (pi_t97 pc) = true := by
    obtain ⟨j, rfl⟩ : ∃ j, pc = 0 + j := ⟨pc - 0, by omega⟩
    exact List.all_eq_true.mp pi_r97_0 j (List.mem_range.mpr (by omega))
  simp only [pi_rowB, h, Bool.and_eq_true] at h1
  exact ⟨Nat.eq_of_beq_eq_true h1.1, pi_ok_of _ _ h1.2⟩
set_option maxRecDepth 100000 in
theorem pi_r98_0 : (List.range 36).all (fun j => pi_rowB 98 (0 + j) (pi_t98 (0 + j))) = true := by decide +kernel
theorem pi_q98 {pc : Nat} {r : pi_Row} (h : pi_t98 pc = some r) : r.1 = pc ∧ pi_ok 98 r := by
  have hp : pc < 36 := by
    cases hx : Nat.blt pc 36 with
    | true => exact Nat.le_of_ble_eq_true hx
    | false =>
      unfold pi_t98 at h
      rw [hx] at h
      cases h
  have h1 : pi_rowB 98 pc (pi_t98 pc) = true := by
    obtain ⟨j, rfl⟩ : ∃ j, pc = 0 + j := ⟨pc - 0, by omega⟩
    exact List.all_eq_true.mp pi_r98_0 j (List.mem_range.mpr (by omega))
  simp only [pi_rowB, h, Bool.and_eq_true] at h1
  exact ⟨Nat.eq_of_beq_eq_true h1.1, pi_ok_of _ _ h1.2⟩
set_option maxRecDepth 100000 in
theorem pi_r99_0 : (List.range 48).all (fun j => pi_rowB 99 (0 + j) (pi_t99 (0 + j))) = true := by decide +kernel
set_option maxRecDepth 100000 in
theorem pi_r99_1 : (List.range 34).all (fun j => pi_rowB 99 (48 + j) (pi_t99 (48 + j))) = true := by decide +kernel
theorem pi_q99 {pc : Nat} {r : pi_Row} (h : pi_t99 pc = some r) : r.1 = pc ∧ pi_ok 99 r := by
  have hp : pc < 82 := by
    cases hx : Nat.blt pc 82 with
    | true => exact Nat.le_of_ble_eq_true hx
    | false =>
      unfold pi_t99 at h
      rw [hx] at h
      cases h
  have h1 : pi_rowB 99 pc (pi_t99 pc) = true := by
    by_cases c0 : pc < 48
    · obtain ⟨j, rfl⟩ : ∃ j, pc = 0 + j := ⟨pc - 0, by omega⟩
      exact List.all_eq_true.mp pi_r99_0 j (List.mem_range.mpr (by omega))
    obtain ⟨j, rfl⟩ : ∃ j, pc = 48 + j := ⟨pc - 48, by omega⟩
    exact List.all_eq_true.mp pi_r99_1 j (List.mem_range.mpr (by omega))
  simp only [pi_rowB, h, Bool.and_eq_true] at h1
  exact ⟨Nat.eq_of_beq_eq_true h1.1, pi_ok_of _ _ h1.2⟩
set_option maxRecDepth 100000 in
theorem pi_r100_0 : (List.range 16).all (fun j => pi_rowB 100 (0 + j) (pi_t100 (0 + j))) = true := by decide +kernel
theorem pi_q100 {pc : Nat} {r : pi_Row} (h : pi_t100 pc = some r) : r.1 = pc ∧ pi_ok 100 r := by
  have hp : pc < 16 := by
    cases hx : Nat.blt pc 16 with
    | true => exact Nat.le_of_ble_eq_true hx
    | false =>
      unfold pi_t100 at h
      rw [hx] at h
      cases h
  have h1 : pi_rowB 100 pc (pi_t100 pc) = true := by
    obtain ⟨j, rfl⟩ : ∃ j, pc = 0 + j := ⟨pc - 0, by omega⟩
    exact List.all_eq_true.mp pi_r100_0 j (List.mem_range.mpr (by omega))
  simp only [pi_rowB, h, Bool.and_eq_true] at h1
  exact ⟨Nat.eq_of_beq_eq_true h1.1, pi_ok_of _ _ h1.2⟩
set_option maxRecDepth 100000 in
theorem pi_r101_0 : (List.range 15).all (fun j => pi_rowB 101 (0 + j) (pi_t101 (0 + j))) = true := by decide +kernel
theorem pi_q101 {pc : Nat} {r : pi_Row} (h : pi_t101 pc = some r) : r.1 = pc ∧ pi_ok 101 r := by
  have hp : pc < 15 := by
    cases hx : Nat.blt pc 15 with
    | true => exact Nat.le_of_ble_eq_true hx
    | false =>
      unfold pi_t101 at h
      rw [hx] at h
      cases h
  have h1 : pi_rowB 101 pc (pi_t101 pc) = true := by
    obtain ⟨j, rfl⟩ : ∃ j, pc = 0 + j := ⟨pc - 0, by omega⟩
    exact List.all_eq_true.mp pi_r101_0 j (List.mem_range.mpr (by omega))
  simp only [pi_rowB, h, Bool.and_eq_true] at h1
  exact ⟨Nat.eq_of_beq_eq_true h1.1, pi_ok_of _ _ h1.2⟩
set_option maxRecDepth 100000 in
theorem pi_r102_0 : (List.range 26).all (fun j => pi_rowB 102 (0 + j) (pi_t102 (0 + j))) = true := by decide +kernel
theorem pi_q102 {pc : Nat} {r : pi_Row} (h : pi_t102 pc = some r) : r.1 = pc ∧ pi_ok 102 r := by
  have hp : pc < 26 := by
    cases hx : Nat.blt pc 26 with
    | true => exact Nat.le_of_ble_eq_true hx
    | false =>
      unfold pi_t102 at h
      rw [hx] at h
      cases h
  have h1 : pi_rowB 102 pc (pi_t102 pc) = true := by
    obtain ⟨j, rfl⟩ : ∃ j, pc = 0 + j := ⟨pc - 0, by omega⟩
    exact List.all_eq_true.mp pi_r102_0 j (List.mem_range.mpr (by omega))
  simp only [pi_rowB, h, Bool.and_eq_true] at h1
  exact ⟨Nat.eq_of_beq_eq_true h1.1, pi_ok_of _ _ h1.2⟩
set_option maxRecDepth 100000 in
theorem pi_r103_0 : (List.range 7).all (fun j => pi_rowB 103 (0 + j) (pi_t103 (0 + j))) = true := by decide +kernel
theorem pi_q103 {pc : Nat} {r : pi_Row} (h : pi_t103 pc = some r) : r.1 = pc ∧ pi_ok 103 r := by
  have hp : pc < 7 := by
    cases hx : Nat.blt pc 7 with
    | true => exact Nat.le_of_ble_eq_true hx
    | false =>
      unfold pi_t103 at h
      rw [hx] at h
      cases h
  have h1 : pi_rowB 103 pc (pi_t103 pc) = true := by
    obtain ⟨j, rfl⟩ : ∃ j, pc = 0 + j := ⟨pc - 0, by omega⟩
    exact List.all_eq_true.mp pi_r103_0 j (List.mem_range.mpr (by omega))
  simp only [pi_rowB, h, Bool.and_eq_true] at h1
  exact ⟨Nat.eq_of_beq_eq_true h1.1, pi_ok_of _ _ h1.2⟩
set_option maxRecDepth 100000 in
theorem pi_r104_0 : (List.range 48).all (fun j => pi_rowB 104 (0 + j) (pi_t104 (0 + j))) = true := by decide +kernel
theorem pi_q104 {pc : Nat} {r : pi_Row} (h : pi_t104 pc = some r) : r.1 = pc ∧ pi_ok 104 r := by
  have hp : pc < 48 := by
    cases hx : Nat.blt pc 48 with
    | true => exact Nat.le_of_ble_eq_true hx
    | false =>
      unfold pi_t104 at h
      rw [hx] at h
      cases h
  have h1 : pi_rowB 104 pc (pi_t104 pc) = true := by
    obtain ⟨j, rfl⟩ : ∃ j, pc = 0 + j := ⟨pc - 0, by omega⟩
    exact List.all_eq_true.mp pi_r104_0 j (List.mem_range.mpr (by omega))
  simp only [pi_rowB, h, Bool.and_eq_true] at h1
  exact ⟨Nat.eq_of_beq_eq_true h1.1, pi_ok_of _ _ h1.2⟩
set_option maxRecDepth 100000 in
theorem pi_r105_0 : (List.range 48).all (fun j => pi_rowB 105 (0 + j) (pi_t105 (0 + j))) = true := by decide +kernel
set_option maxRecDepth 100000 in
theorem pi_r105_1 : (List.range 32).all (fun j => pi_rowB 105 (48 + j) (pi_t105 (48 + j))) = true := by decide +kernel
theorem pi_q105 {pc : Nat} {r : pi_Row} (h : pi_t105 pc = some r) : r.1 = pc ∧ pi_ok 105 r := by
  have hp : pc < 80 := by
    cases hx : Nat.blt pc 80 with
    | true => exact Nat.le_of_ble_eq_true hx
    | false =>
      unfold pi_t105 at h
      rw [hx] at h
      cases h
  have h1 : pi_rowB 105 pc (pi_t105 pc) = true := by
    by_cases c0 : pc < 48
    · obtain ⟨j, rfl⟩ : ∃ j, pc = 0 + j := ⟨pc - 0, by omega⟩
      exact List.all_eq_true.mp pi_r105_0 j (List.mem_range.mpr (by omega))
    obtain ⟨j, rfl⟩ : ∃ j, pc = 48 + j := ⟨pc - 48, by omega⟩
    exact List.all_eq_true.mp pi_r105_1 j (List.mem_range.mpr (by omega))
  simp only [pi_rowB, h, Bool.and_eq_true] at h1
  exact ⟨Nat.eq_of_beq_eq_true h1.1, pi_ok_of _ _ h1.2⟩
set_option maxRecDepth 100000 in
theorem pi_r106_0 : (List.range 28).all (fun j => pi_rowB 106 (0 + j) (pi_t106 (0 + j))) = true := by decide +kernel
theorem pi_q106 {pc : Nat} {r : pi_Row} (h : pi_t106 pc = some r) : r.1 = pc ∧ pi_ok 106 r := by
  have hp : pc < 28 := by
    cases hx : Nat.blt pc 28 with
    | true => exact Nat.le_of_ble_eq_true hx
    | false =>
      unfold pi_t106 at h
      rw [hx] at h
      cases h
  have h1 : pi_rowB 106 pc (pi_t106 pc) = true := by
    obtain ⟨j, rfl⟩ : ∃ j, pc = 0 + j := ⟨pc - 0, by omega⟩
    exact List.all_eq_true.mp pi_r106_0 j (List.mem_range.mpr (by omega))
  simp only [pi_rowB, h, Bool.and_eq_true] at h1
  exact ⟨Nat.eq_of_beq_eq_true h1.1, pi_ok_of _ _ h1.2⟩
set_option maxRecDepth 100000 in
theorem pi_r107_0 : (List.range 45).all (fun j => pi_rowB 107 (0 + j) (pi_t107 (0 + j))) = true := by decide +kernel
theorem pi_q107 {pc : Nat} {r : pi_Row} (h : pi_t107 pc = some r) : r.1 = pc ∧ pi_ok 107 r := by
  have hp : pc < 45 := by
    cases hx : Nat.blt pc 45 with
    | true => exact Nat.le_of_ble_eq_true hx
    | false =>
      unfold pi_t107 at h
      rw [hx] at h
      cases h
  have h1 : pi_rowB 107 pc (pi_t107 pc) = true := by
    obtain ⟨j, rfl⟩ : ∃ j, pc = 0 + j := ⟨pc - 0, by omega⟩
    exact List.all_eq_true.mp pi_r107_0 j (List.mem_range.mpr (by omega))
  simp only [pi_rowB, h, Bool.and_eq_true] at h1
  exact ⟨Nat.eq_of_beq_eq_true h1.1, pi_ok_of _ _ h1.2⟩
set_option maxRecDepth 100000 in
theorem pi_r108_0 : (List.range 48).all (fun j => pi_rowB 108 (0 + j) (pi_t108 (0 + j))) = true := by decide +kernel
set_option maxRecDepth 100000 in
theorem pi_r108_1 : (List.range 11).all (fun j => pi_rowB 108 (48 + j) (pi_t108 (48 + j))) = true := by decide +kernel
theorem pi_q108 {pc : Nat} {r : pi_Row} (h : pi_t108 pc = some r) : r.1 = pc ∧ pi_ok 108 r := by
  have hp : pc < 59 := by
    cases hx : Nat.blt pc 59 with
    | true => exact Nat.le_of_ble_eq_true hx
    | false =>
      unfold pi_t108 at h
      rw [hx] at h
      cases h
  have h1 : pi_rowB 108 pc (pi_t108 pc) = true := by
    by_cases c0 : pc < 48
    · obtain ⟨j, rfl⟩ : ∃ j, pc = 0 + j := ⟨pc - 0, by omega⟩
      exact List.all_eq_true.mp pi_r108_0 j (List.mem_range.mpr (by omega))
    obtain ⟨j, rfl⟩ : ∃ j, pc = 48 + j := ⟨pc - 48, by omega⟩
    exact List.all_eq_true.mp pi_r108_1 j (List.mem_range.mpr (by omega))
  simp only [pi_rowB, h, Bool.and_eq_true] at h1
  exact ⟨Nat.eq_of_beq_eq_true h1.1, pi_ok_of _ _ h1.2⟩
set_option maxRecDepth 100000 in
theorem pi_r109_0 : (List.range 48).all (fun j => pi_rowB 109 (0 + j) (pi_t109 (0 + j))) = true := by decide +kernel
set_option maxRecDepth 100000 in
theorem pi_r109_1 : (List.range 48).all (fun j => pi_rowB 109 (48 + j) (pi_t109 (48 + j))) = true := by decide +kernel
set_option maxRecDepth 100000 in
theorem pi_r109_2 : (List.range 48).all (fun j => pi_rowB 109 (96 + j) (pi_t109 (96 + j))) = true := by decide +kernel
set_option maxRecDepth 100000 in
theorem pi_r109_3 : (List.range 15).all (fun j => pi_rowB 109 (144 + j) (pi_t109 (144 + j))) = true := by decide +kernel
theorem pi_q109 {pc : Nat} {r : pi_Row} (h : pi_t109 pc = some r) : r.1 = pc ∧ pi_ok 109 r := by
  have hp : pc < 159 := by
    cases hx : Nat.blt pc 159 with
    | true => exact Nat.le_of_ble_eq_true hx
    | false =>
      unfold pi_t109 at h
      rw [hx] at h
      cases h
  have h1 : pi_rowB 109 pc (pi_t109 pc) = true := by
    by_cases c0 : pc < 48
    · obtain ⟨j, rfl⟩ : ∃ j, pc = 0 + j := ⟨pc - 0, by omega⟩
      exact List.all_eq_true.mp pi_r109_0 j (List.mem_range.mpr (by omega))
    by_cases c1 : pc < 96
    · obtain ⟨j, rfl⟩ : ∃ j, pc = 48 + j := ⟨pc - 48, by omega⟩
      exact List.all_eq_true.mp pi_r109_1 j (List.mem_range.mpr (by omega))
    by_cases c2 : pc < 144
    · obtain ⟨j, rfl⟩ : ∃ j, pc = 96 + j := ⟨pc - 96, by omega⟩
      exact List.all_eq_true.mp pi_r109_2 j (List.mem_range.mpr (by omega))
    obtain ⟨j, rfl⟩ : ∃ j, pc = 144 + j := ⟨pc - 144, by omega⟩
    exact List.all_eq_true.mp pi_r109_3 j (List.mem_range.mpr (by omega))
  simp only [pi_rowB, h, Bool.and_eq_true] at h1
  exact ⟨Nat.eq_of_beq_eq_true h1.1, pi_ok_of _ _ h1.2⟩
set_option maxRecDepth 100000 in
theorem pi_r110_0 : (List.range 20).all (fun j => pi_rowB 110 (0 + j) (pi_t110 (0 + j))) = true := by decide +kernel
theorem pi_q110 {pc : Nat} {r : pi_Row} (h : pi_t110 pc = some r) : r.1 = pc ∧ pi_ok 110 r := by
  have hp : pc < 20 := by
    cases hx : Nat.blt pc 20 with
    | true => exact Nat.le_of_ble_eq_true hx
    | false =>
      unfold pi_t110 at h
      rw [hx] at h
      cases h
  have h1 : pi_rowB 110 pc (pi_t110 pc) = true := by
    obtain ⟨j, rfl⟩ : ∃ j, pc = 0 + j := ⟨pc - 0, by omega⟩
    exact List.all_eq_true.mp pi_r110_0 j (List.mem_range.mpr (by omega))
  simp only [pi_rowB, h, Bool.and_eq_true] at h1
  exact ⟨Nat.eq_of_beq_eq_true h1.1, pi_ok_of _ _ h1.2⟩
set_option maxRecDepth 100000 in
theorem pi_r111_0 : (List.range 7).all (fun j => pi_rowB 111 (0 + j) (pi_t111 (0 + j))) = true := by decide +kernel
theorem pi_q111 {pc : Nat} {r : pi_Row} (h : pi_t111 pc = some r) : r.1 = pc ∧ pi_ok 111 r := by
  have hp : pc < 7 := by
    cases hx : Nat.blt pc 7 with
    | true => exact Nat.le_of_ble_eq_true hx
    | false =>
      unfold pi_t111 at h
      rw [hx] at h
      cases h
  have h1 : pi_rowB 111 pc (pi_t111 pc) = true := by
    obtain ⟨j, rfl⟩ : ∃ j, pc = 0 + j := ⟨pc - 0, by omega⟩
    exact List.all_eq_true.mp pi_r111_0 j (List.mem_range.mpr (by omega))
  simp only [pi_rowB, h, Bool.and_eq_true] at h1
  exact ⟨Nat.eq_of_beq_eq_true h1.1, pi_ok_of _ _ h1.2⟩
set_option maxRecDepth 100000 in
theorem pi_r112_0 : (List.range 20).all (fun j => pi_rowB 112 (0 + j) (pi_t112 (0 + j))) = true := by decide +kernel
theorem pi_q112 {pc : Nat} {r : pi_Row} (h : pi_t112 pc = some r) : r.1 = pc ∧ pi_ok 112 r := by
  have hp : pc < 20 := by
    cases hx : Nat.blt pc 20 with
    | true => exact Nat.le_of_ble_eq_true hx
    | false =>
      unfold pi_t112 at h
      rw [hx] at h
      cases h
  have h1 : pi_rowB 112 pc (pi_t112 pc) = true := by
    obtain ⟨j, rfl⟩ : ∃ j, pc = 0 + j := ⟨pc - 0, by omega⟩
    exact List.all_eq_true.mp pi_r112_0 j (List.mem_range.mpr (by omega))
  simp only [pi_rowB, h, Bool.and_eq_true] at h1
  exact ⟨Nat.eq_of_beq_eq_true h1.1, pi_ok_of _ _ h1.2⟩
set_option maxRecDepth 100000 in
theorem pi_r113_0 : (List.range 16).all (fun j => pi_rowB 113 (0 + j) (pi_t113 (0 + j))) = true := by decide +kernel
theorem pi_q113 {pc : Nat} {r : pi_Row} (h : pi_t113 pc = some r) : r.1 = pc ∧ pi_ok 113 r := by
  have hp : pc < 16 := by
    cases hx : Nat.blt pc 16 with
    | true => exact Nat.le_of_ble_eq_true hx
    | false =>
      unfold pi_t113 at h
      rw [hx] at h
      cases h
  have h1 : pi_rowB 113 pc (pi_t113 pc) = true := by
    obtain ⟨j, rfl⟩ : ∃ j, pc = 0 + j := ⟨pc - 0, by omega⟩
    exact List.all_eq_true.mp pi_r113_0 j (List.mem_range.mpr (by omega))
  simp only [pi_rowB, h, Bool.and_eq_true] at h1
  exact ⟨Nat.eq_of_beq_eq_true h1.1, pi_ok_of _ _ h1.2⟩
set_option maxRecDepth 100000 in
theorem pi_r114_0 : (List.range 16).all (fun j => pi_rowB 114 (0 + j) (pi_t114 (0 + j))) = true := by decide +kernel
theorem pi_q114 {pc : Nat} {r : pi_Row} (h : pi_t114 pc = some r) : r.1 = pc ∧ pi_ok 114 r := by
  have hp : pc < 16 := by
    cases hx : Nat.blt pc 16 with
    | true => exact Nat.le_of_ble_eq_true hx
    | false =>
      unfold pi_t114 at h
      rw [hx] at h
      cases h
  have h1 : pi_rowB 114 pc (pi_t114 pc) = true := by
    obtain ⟨j, rfl⟩ : ∃ j, pc = 0 + j := ⟨pc - 0, by omega⟩
    exact List.all_eq_true.mp pi_r114_0 j (List.mem_range.mpr (by omega))
  simp only [pi_rowB, h, Bool.and_eq_true] at h1
  exact ⟨Nat.eq_of_beq_eq_true h1.1, pi_ok_of _ _ h1.2⟩
set_option maxRecDepth 100000 in
theorem pi_r115_0 : (List.range 8).all (fun j => pi_rowB 115 (0 + j) (pi_t115 (0 + j))) = true := by decide +kernel
theorem pi_q115 {pc : Nat} {r : pi_Row} (h : pi_t115 pc = some r) : r.1 = pc ∧ pi_ok 115 r := by
  have hp : pc < 8 := by
    cases hx : Nat.blt pc 8 with
    | true => exact Nat.le_of_ble_eq_true hx
    | false =>
      unfold pi_t115 at h
      rw [hx] at h
      cases h
  have h1 : pi_rowB 115 pc (pi_t115 pc) = true := by
    obtain ⟨j, rfl⟩ : ∃ j, pc = 0 + j := ⟨pc - 0, by omega⟩
    exact List.all_eq_true.mp pi_r115_0 j (List.mem_range.mpr (by omega))
  simp only [pi_rowB, h, Bool.and_eq_true] at h1
  exact ⟨Nat.eq_of_beq_eq_true h1.1, pi_ok_of _ _ h1.2⟩
set_option maxRecDepth 100000 in
theorem pi_r116_0 : (List.range 8).all (fun j => pi_rowB 116 (0 + j) (pi_t116 (0 + j))) = true := by decide +kernel
theorem pi_q116 {pc : Nat} {r : pi_Row} (h : pi_t116 pc = some r) : r.1 = pc ∧ pi_ok 116 r := by
  have hp : pc < 8 := by
    cases hx : Nat.blt pc 8 with
    | true => exact Nat.le_of_ble_eq_true hx
    | false =>
      unfold pi_t116 at h
      rw [hx] at h
      cases h
  have h1 : pi_rowB 116 pc (pi_t116 pc) = true := by
    obtain ⟨j, rfl⟩ : ∃ j, pc = 0 + j := ⟨pc - 0, by omega⟩
    exact List.all_eq_true.mp pi_r116_0 j (List.mem_range.mpr (by omega))
  simp only [pi_rowB, h, Bool.and_eq_true] at h1
  exact ⟨Nat.eq_of_beq_eq_true h1.1, pi_ok_of _ _ h1.2⟩
set_option maxRecDepth 100000 in
theorem pi_r117_0 : (List.range 20).all (fun j => pi_rowB 117 (0 + j) (pi_t117 (0 + j))) = true := by decide +kernel
theorem pi_q117 {pc : Nat} {r : pi_Row} (h : pi_t117 pc = some r) : r.1 = pc ∧ pi_ok 117 r := by
  have hp : pc < 20 := by
    cases hx : Nat.blt pc 20 with
    | true => exact Nat.le_of_ble_eq_true hx
    | false =>
      unfold pi_t117 at h
      rw [hx] at h
      cases h
  have h1 : pi_rowB 117 pc (pi_t117 pc) = true := by
    obtain ⟨j, rfl⟩ : ∃ j, pc = 0 + j := ⟨pc - 0, by omega⟩
    exact List.all_eq_true.mp pi_r117_0 j (List.mem_range.mpr (by omega))
  simp only [pi_rowB, h, Bool.and_eq_true] at h1
  exact ⟨Nat.eq_of_beq_eq_true h1.1, pi_ok_of _ _ h1.2⟩
set_option maxRecDepth 100000 in
theorem pi_r118_0 : (List.range 42).all (fun j => pi_rowB 118 (0 + j) (pi_t118 (0 + j))) = true := by decide +kernel
theorem pi_q118 {pc : Nat} {r : pi_Row} (h : pi_t118 pc = some r) : r.1 = pc ∧ pi_ok 118 r := by
  have hp : pc < 42 := by
    cases hx : Nat.blt pc 42 with
    | true => exact Nat.le_of_ble_eq_true hx
    | false =>
      unfold pi_t118 at h
      rw [hx] at h
      cases h
  have h1 : pi_rowB 118 pc (pi_t118 pc) = true := by
    obtain ⟨j, rfl⟩ : ∃ j, pc = 0 + j := ⟨pc - 0, by omega⟩
    exact List.all_eq_true.mp pi_r118_0 j (List.mem_range.mpr (by omega))
  simp only [pi_rowB, h, Bool.and_eq_true] at h1
  exact ⟨Nat.eq_of_beq_eq_true h1.1, pi_ok_of _ _ h1.2⟩
set_option maxRecDepth 100000 in
theorem pi_r119_0 : (List.range 48).all (fun j => pi_rowB 119 (0 + j) (pi_t119 (0 + j))) = true := by decide +kernel
set_option maxRecDepth 100000 in
theorem pi_r119_1 : (List.range 48).all (fun j => pi_rowB 119 (48 + j) (pi_t119 (48 + j))) = true := by decide +kernel
set_option maxRecDepth 100000 in
theorem pi_r119_2 : (List.range 48).all (fun j => pi_rowB 119 (96 + j) (pi_t119 (96 + j))) = true := by decide +kernel
set_option maxRecDepth 100000 in
theorem pi_r119_3 : (List.range 45).all (fun j => pi_rowB 119 (144 + j) (pi_t119 (144 + j))) = true := by decide +kernel
theorem pi_q119 {pc : Nat} {r : pi_Row} (h : pi_t119 pc = some r) : r.1 = pc ∧ pi_ok 119 r := by
  have hp : pc < 189 := by
    cases hx : Nat.blt pc 189 with
    | true => exact Nat.le_of_ble_eq_true hx
    | false =>
      unfold pi_t119 at h
      rw [hx] at h
      cases h
  have h1 : pi_rowB 119 pc (pi_t119 pc) = true := by
    by_cases c0 : pc < 48
    · obtain ⟨j, rfl⟩ : ∃ j, pc = 0 + j := ⟨pc - 0, by omega⟩
      exact List.all_eq_true.mp pi_r119_0 j (List.mem_range.mpr (by omega))
    by_cases c1 : pc < 96
    · obtain ⟨j, rfl⟩ : ∃ j, pc = 48 + j := ⟨pc - 48, by omega⟩
      exact List.all_eq_true.mp pi_r119_1 j (List.mem_range.mpr (by omega))
    by_cases c2 : pc < 144
    · obtain ⟨j, rfl⟩ : ∃ j, pc = 96 + j := ⟨pc - 96, by omega⟩
      exact List.all_eq_true.mp pi_r119_2 j (List.mem_range.mpr (by omega))
    obtain ⟨j, rfl⟩ : ∃ j, pc = 144 + j := ⟨pc - 144, by omega⟩
    exact List.all_eq_true.mp pi_r119_3 j (List.mem_range.mpr (by omega))
  simp only [pi_rowB, h, Bool.and_eq_true] at h1
  exact ⟨Nat.eq_of_beq_eq_true h1.1, pi_ok_of _ _ h1.2⟩
set_option maxRecDepth 100000 in
theorem pi_r120_0 : (List.range 48).all (fun j => pi_rowB 120 (0 + j) (pi_t120 (0 + j))) = true := by decide +kernel
set_option maxRecDepth 100000 in
theorem pi_r120_1 : (List.range 40).all (fun j => pi_rowB 120 (48 + j) (pi_t120 (48 + j))) = true := by decide +kernel
theorem pi_q120 {pc : Nat} {r : pi_Row} (h : pi_t120 pc = some r) : r.1 = pc ∧ pi_ok 120 r := by
  have hp : pc < 88 := by
    cases hx : Nat.blt pc 88 with
    | true => exact Nat.le_of_ble_eq_true hx
    | false =>
      unfold pi_t120 at h
      rw [hx] at h
      cases h
  have h1 : pi_rowB 120 pc (pi_t120 pc) = true := by
    by_cases c0 : pc < 48
    · obtain ⟨j, rfl⟩ : ∃ j, pc = 0 + j := ⟨pc - 0, by omega⟩
      exact List.all_eq_true.mp pi_r120_0 j (List.mem_range.mpr (by omega))
    obtain ⟨j, rfl⟩ : ∃ j, pc = 48 + j := ⟨pc - 48, by omega⟩
    exact List.all_eq_true.mp pi_r120_1 j (List.mem_range.mpr (by omega))
  simp only [pi_rowB, h, Bool.and_eq_true] at h1
  exact ⟨Nat.eq_of_beq_eq_true h1.1, pi_ok_of _ _ h1.2⟩
set_option maxRecDepth 100000 in
theorem pi_r121_0 : (List.range 48).all (fun j => pi_rowB 121 (0 + j) (pi_t121 (0 + j))) = true := by decide +kernel
set_option maxRecDepth 100000 in
theorem pi_r121_1 : (List.range 48).all (fun j => pi_rowB 121 (48 + j) (pi_t121 (48 + j))) = true := by decide +kernel
set_option maxRecDepth 100000 in
theorem pi_r121_2 : (List.range 9).all (fun j => pi_rowB 121 (96 + j) (pi_t121 (96 + j))) = true := by decide +kernel
theorem pi_q121 {pc : Nat} {r : pi_Row} (h : pi_t121 pc = some r) : r.1 = pc ∧ pi_ok 121 r := by
  have hp : pc < 105 := by
    cases hx : Nat.blt pc 105 with
    | true => exact Nat.le_of_ble_eq_true hx
    | false =>
      unfold pi_t121 at h
      rw [hx] at h
      cases h
  have h1 : pi_rowB 121 pc (pi_t121 pc) = true := by
    by_cases c0 : pc < 48
    · obtain ⟨j, rfl⟩ : ∃ j, pc = 0 + j := ⟨pc - 0, by omega⟩
      exact List.all_eq_true.mp pi_r121_0 j (List.mem_range.mpr (by omega))
    by_cases c1 : pc < 96
    · obtain ⟨j, rfl⟩ : ∃ j, pc = 48 + j := ⟨pc - 48, by omega⟩
      exact List.all_eq_true.mp pi_r121_1 j (List.mem_range.mpr (by omega))
    obtain ⟨j, rfl⟩ : ∃ j, pc = 96 + j := ⟨pc - 96, by omega⟩
    exact List.all_eq_true.mp pi_r121_2 j (List.mem_range.mpr (by omega))
  simp only [pi_rowB, h, Bool.and_eq_true] at h1
  exact ⟨Nat.eq_of_beq_eq_true h1.1, pi_ok_of _ _ h1.2⟩
set_option maxRecDepth 100000 in
theorem pi_r122_0 : (List.range 48).all (fun j => pi_rowB 122 (0 + j) (pi_t122 (0 + j))) = true := by decide +kernel
set_option maxRecDepth 100000 in
theorem pi_r122_1 : (List.range 19).all (fun j => pi_rowB 122 (48 + j) (pi_t122 (48 + j))) = true := by decide +kernel
theorem pi_q122 {pc : Nat} {r : pi_Row} (h : pi_t122 pc = some r) : r.1 = pc ∧ pi_ok 122 r := by
  have hp : pc < 67 := by
    cases hx : Nat.blt pc 67 with
    | true => exact Nat.le_of_ble_eq_true hx
    | false =>
      unfold pi_t122 at h
      rw [hx] at h
      cases h
  have h1 : pi_rowB 122 pc (pi_t122 pc) = true := by
    by_cases c0 : pc < 48
    · obtain ⟨j, rfl⟩ : ∃ j, pc = 0 + j := ⟨pc - 0, by omega⟩
      exact List.all_eq_true.mp pi_r122_0 j (List.mem_range.mpr (by omega))
    obtain ⟨j, rfl⟩ : ∃ j, pc = 48 + j := ⟨pc - 48, by omega⟩
    exact List.all_eq_true.mp pi_r122_1 j (List.mem_range.mpr (by omega))
  simp only [pi_rowB, h, Bool.and_eq_true] at h1
  exact ⟨Nat.eq_of_beq_eq_true h1.1, pi_ok_of _ _ h1.2⟩
set_option maxRecDepth 100000 in
theorem pi_r123_0 : (List.range 48).all (fun j => pi_rowB 123 (0 + j) (pi_t123 (0 + j))) = true := by decide +kernel
set_option maxRecDepth 100000 in
theorem pi_r123_1 : (List.range 16).all (fun j => pi_rowB 123 (48 + j) (pi_t123 (48 + j))) = true := by decide +kernel
theorem pi_q123 {pc : Nat} {r : pi_Row} (h : pi_t123 pc = some r) : r.1 = pc ∧ pi_ok 123 r := by
  have hp : pc < 64 := by
    cases hx : Nat.blt pc 64 with
    | true => exact Nat.le_of_ble_eq_true hx
    | false =>
      unfold pi_t123 at h
      rw [hx] at h
      cases h
  have h1 : pi_rowB 123 pc (pi_t123 pc) = true := by
    by_cases c0 : pc < 48
    · obtain ⟨j, rfl⟩ : ∃ j, pc = 0 + j := ⟨pc - 0, by omega⟩
      exact List.all_eq_true.mp pi_r123_0 j (List.mem_range.mpr (by omega))
    obtain ⟨j, rfl⟩ : ∃ j, pc = 48 + j := ⟨pc - 48, by omega⟩
    exact List.all_eq_true.mp pi_r123_1 j (List.mem_range.mpr (by omega))
  simp only [pi_rowB, h, Bool.and_eq_true] at h1
  exact ⟨Nat.eq_of_beq_eq_true h1.1, pi_ok_of _ _ h1.2⟩
set_option maxRecDepth 100000 in
theorem pi_r124_0 : (List.range 35).all (fun j => pi_rowB 124 (0 + j) (pi_t124 (0 + j))) = true := by decide +kernel
theorem pi_q124 {pc : Nat} {r : pi_Row} (h : pi_t124 pc = some r) : r.1 = pc ∧ pi_ok 124 r := by
  have hp : pc < 35 := by
    cases hx : Nat.blt pc 35 with
    | true => exact Nat.le_of_ble_eq_true hx
    | false =>
      unfold pi_t124 at h
      rw [hx] at h
      cases h
  have h1 : pi_rowB 124 pc (pi_t124 pc) = true := by
    obtain ⟨j, rfl⟩ : ∃ j, pc = 0 + j := ⟨pc - 0, by omega⟩
    exact List.all_eq_true.mp pi_r124_0 j (List.mem_range.mpr (by omega))
  simp only [pi_rowB, h, Bool.and_eq_true] at h1
  exact ⟨Nat.eq_of_beq_eq_true h1.1, pi_ok_of _ _ h1.2⟩
set_option maxRecDepth 100000 in
theorem pi_r125_0 : (List.range 48).all (fun j => pi_rowB 125 (0 + j) (pi_t125 (0 + j))) = true := by decide +kernel
set_option maxRecDepth 100000 in
theorem pi_r125_1 : (List.range 48).all (fun j => pi_rowB 125 (48 + j) (pi_t125 (48 + j))) = true := by decide +kernel
set_option maxRecDepth 100000 in
theorem pi_r125_2 : (List.range 11).all (fun j => pi_rowB 125 (96 + j) (pi_t125 (96 + j))) = true := by decide +kernel
theorem pi_q125 {pc : Nat} {r : pi_Row} (h : pi_t125 pc = some r) : r.1 = pc ∧ pi_ok 125 r := by
  have hp : pc < 107 := by
    cases hx : Nat.blt pc 107 with
    | true => exact Nat.le_of_ble_eq_true hx
    | false =>
      unfold pi_t125 at h
      rw [hx] at h
      cases h
  have h1 : pi_rowB 125 pc (pi_t125 pc) = true := by
    by_cases c0 : pc < 48
    · obtain ⟨j, rfl⟩ : ∃ j, pc = 0 + j := ⟨pc - 0, by omega⟩
      exact List.all_eq_true.mp pi_r125_0 j (List.mem_range.mpr (by omega))
    by_cases c1 : pc < 96
    · obtain ⟨j, rfl⟩ : ∃ j, pc = 48 + j := ⟨pc - 48, by omega⟩
      exact List.all_eq_true.mp pi_r125_1 j (List.mem_range.mpr (by omega))
    obtain ⟨j, rfl⟩ : ∃ j, pc = 96 + j := ⟨pc - 96, by omega⟩
    exact List.all_eq_true.mp pi_r125_2 j (List.mem_range.mpr (by omega))
  simp only [pi_rowB, h, Bool.and_eq_true] at h1
  exact ⟨Nat.eq_of_beq_eq_true h1.1, pi_ok_of _ _ h1.2⟩
set_option maxRecDepth 100000 in
theorem pi_r126_0 : (List.range 30).all (fun j => pi_rowB 126 (0 + j) (pi_t126 (0 + j))) = true := by decide +kernel
theorem pi_q126 {pc : Nat} {r : pi_Row} (h : pi_t126 pc = some r) : r.1 = pc ∧ pi_ok 126 r := by
  have hp : pc < 30 := by
    cases hx : Nat.blt pc 30 with
    | true => exact Nat.le_of_ble_eq_true hx
    | false =>
      unfold pi_t126 at h
      rw [hx] at h
      cases h
  have h1 : pi_rowB 126 pc (pi_t126 pc) = true := by
    obtain ⟨j, rfl⟩ : ∃ j, pc = 0 + j := ⟨pc - 0, by omega⟩
    exact List.all_eq_true.mp pi_r126_0 j (List.mem_range.mpr (by omega))
  simp only [pi_rowB, h, Bool.and_eq_true] at h1
  exact ⟨Nat.eq_of_beq_eq_true h1.1, pi_ok_of _ _ h1.2⟩
set_option maxRecDepth 100000 in
theorem pi_r127_0 : (List.range 48).all (fun j => pi_rowB 127 (0 + j) (pi_t127 (0 + j))) = true := by decide +kernel
set_option maxRecDepth 100000 in
theorem pi_r127_1 : (List.range 35).all (fun j => pi_rowB 127 (48 + j) (pi_t127 (48 + j))) = true := by decide +kernel
theorem pi_q127 {pc : Nat} {r : pi_Row} (h : pi_t127 pc = some r) : r.1 = pc ∧ pi_ok 127 r := by
  have hp : pc < 83 := by
    cases hx : Nat.blt pc 83 with
    | true => exact Nat.le_of_ble_eq_true hx
    | false =>
      unfold pi_t127 at h
      rw [hx] at h
      cases h
  have h1 : pi_rowB 127 pc (pi_t127 pc) = true := by
    by_cases c0 : pc < 48
    · obtain ⟨j, rfl⟩ : ∃ j, pc = 0 + j := ⟨pc - 0, by omega⟩
      exact List.all_eq_true.mp pi_r127_0 j (List.mem_range.mpr (by omega))
    obtain ⟨j, rfl⟩ : ∃ j, pc = 48 + j := ⟨pc - 48, by omega⟩
    exact List.all_eq_true.mp pi_r127_1 j (List.mem_range.mpr (by omega))
  simp only [pi_rowB, h, Bool.and_eq_true] at h1
  exact ⟨Nat.eq_of_beq_eq_true h1.1, pi_ok_of _ _ h1.2⟩
set_option maxRecDepth 100000 in
theorem pi_r128_0 : (List.range 48).all (fun j => pi_rowB 128 (0 + j) (pi_t128 (0 + j))) = true := by decide +kernel
set_option maxRecDepth 100000 in
theorem pi_r128_1 : (List.range 41).all (fun j => pi_rowB 128 (48 + j) (pi_t128 (48 + j))) = true := by decide +kernel
theorem pi_q128 {pc : Nat} {r : pi_Row} (h : pi_t128 pc = some r) : r.1 = pc ∧ pi_ok 128 r := by
  have hp : pc < 89 := by
    cases hx : Nat.blt pc 89 with
    | true => exact Nat.le_of_ble_eq_true hx
    | false =>
      unfold pi_t128 at h
      rw [hx] at h
      cases h
  have h1 : pi_rowB 128 pc (pi_t128 pc) = true := by
    by_cases c0 : pc < 48
    · obtain ⟨j, rfl⟩ : ∃ j, pc = 0 + j := ⟨pc - 0, by omega⟩
      exact List.all_eq_true.mp pi_r128_0 j (List.mem_range.mpr (by omega))
    obtain ⟨j, rfl⟩ : ∃ j, pc = 48 + j := ⟨pc - 48, by omega⟩
    exact List.all_eq_true.mp pi_r128_1 j (List.mem_range.mpr (by omega))
  simp only [pi_rowB, h, Bool.and_eq_true] at h1
  exact ⟨Nat.eq_of_beq_eq_true h1.1, pi_ok_of _ _ h1.2⟩
set_option maxRecDepth 100000 in
theorem pi_r129_0 : (List.range 48).all (fun j => pi_rowB 129 (0 + j) (pi_t129 (0 + j))) = true := by decide +kernel
set_option maxRecDepth 100000 in
theorem pi_r129_1 : (List.range 7).all (fun j => pi_rowB 129 (48 + j) (pi_t129 (48 + j))) = true := by decide +kernel
theorem pi_q129 {pc : Nat} {r : pi_Row} (h : pi_t129 pc = some r) : r.1 = pc ∧ pi_ok 129 r := by
  have hp : pc < 55 := by
    cases hx : Nat.blt pc 55 with
    | true => exact Nat.le_of_ble_eq_true hx
    | false =>
      unfold pi_t129 at h
      rw [hx] at h
      cases h
  have h1 : pi_rowB 129 pc (pi_t129 pc) = true := by
    by_cases c0 : pc < 48
    · obtain ⟨j, rfl⟩ : ∃ j, pc = 0 + j := ⟨pc - 0, by omega⟩
      exact List.all_eq_true.mp pi_r129_0 j (List.mem_range.mpr (by omega))
    obtain ⟨j, rfl⟩ : ∃ j, pc = 48 + j := ⟨pc - 48, by omega⟩
    exact List.all_eq_true.mp pi_r129_1 j (List.mem_range.mpr (by omega))
  simp only [pi_rowB, h, Bool.and_eq_true] at h1
  exact ⟨Nat.eq_of_beq_eq_true h1.1, pi_ok_of _ _ h1.2⟩
set_option maxRecDepth 100000 in
theorem pi_r130_0 : (List.range 36).all (fun j => pi_rowB 130 (0 + j) (pi_t130 (0 + j))) = true := by decide +kernel
theorem pi_q130 {pc : Nat} {r : pi_Row} (h : pi_t130 pc = some r) : r.1 = pc ∧ pi_ok 130 r := by
  have hp : pc < 36 := by
    cases hx : Nat.blt pc 36 with
    | true => exact Nat.le_of_ble_eq_true hx
    | false =>
      unfold pi_t130 at h
      rw [hx] at h
      cases h
  have h1 : pi_rowB 130 pc (pi_t130 pc) = true := by
    obtain ⟨j, rfl⟩ : ∃ j, pc = 0 + j := ⟨pc - 0, by omega⟩
    exact List.all_eq_true.mp pi_r130_0 j (List.mem_range.mpr (by omega))
  simp only [pi_rowB, h, Bool.and_eq_true] at h1
  exact ⟨Nat.eq_of_beq_eq_true h1.1, pi_ok_of _ _ h1.2⟩
set_option maxRecDepth 100000 in
theorem pi_r131_0 : (List.range 48).all (fun j => pi_rowB 131 (0 + j) (pi_t131 (0 + j))) = true := by decide +kernel
set_option maxRecDepth 100000 in
theorem pi_r131_1 : (List.range 48).all (fun j => pi_rowB 131 (48 + j) (pi_t131 (48 + j))) = true := by decide +kernel
set_option maxRecDepth 100000 in
theorem pi_r131_2 : (List.range 48).all (fun j => pi_rowB 131 (96 + j) (pi_t131 (96 + j))) = true := by decide +kernel
set_option maxRecDepth 100000 in
theorem pi_r131_3 : (List.range 48).all (fun j => pi_rowB 131 (144 + j) (pi_t131 (144 + j))) = true := by decide +kernel
set_option maxRecDepth 100000 in
theorem pi_r131_4 : (List.range 48).all (fun j => pi_rowB 131 (192 + j) (pi_t131 (192 + j))) = true := by decide +kernel
set_option maxRecDepth 100000 in
theorem pi_r131_5 : (List.range 48).all (fun j => pi_rowB 131 (240 + j) (pi_t131 (240 + j))) = true := by decide +kernel
set_option maxRecDepth 100000 in
theorem pi_r131_6 : (List.range 48).all (fun j => pi_rowB 131 (288 + j) (pi_t131 (288 + j))) = true := by decide +kernel
set_option maxRecDepth 100000 in
theorem pi_r131_7 : (List.range 48).all (fun j => pi_rowB 131 (336 + j) (pi_t131 (336 + j))) = true := by decide +kernel
set_option maxRecDepth 100000 in
theorem pi_r131_8 : (List.range 32).all (fun j => pi_rowB 131 (384 + j) (pi_t131 (384 + j))) = true := by decide +kernel
theorem pi_q131 {pc : Nat} {r : pi_Row} (h : pi_t131 pc = some r) : r.1 = pc ∧ pi_ok 131 r := by
  have hp : pc < 416 := by
    cases hx : Nat.blt pc 416 with
    | true => exact Nat.le_of_ble_eq_true hx
    | false =>
      unfold pi_t131 at h
      rw [hx] at h
      cases h
  have h1 : pi_rowB 131 pc (pi_t131 pc) = true := by
    by_cases c0 : pc < 48
    · obtain ⟨j, rfl⟩ : ∃ j, pc = 0 + j := ⟨pc - 0, by omega⟩
      exact List.all_eq_true.mp pi_r131_0 j (List.mem_range.mpr (by omega))
    by_cases c1 : pc < 96
    · obtain ⟨j, rfl⟩ : ∃ j, pc = 48 + j := ⟨pc - 48, by omega⟩
      exact List.all_eq_true.mp pi_r131_1 j (List.mem_range.mpr (by omega))
    by_cases c2 : pc < 144
    · obtain ⟨j, rfl⟩ : ∃ j, pc = 96 + j := ⟨pc - 96, by omega⟩
      exact List.all_eq_true.mp pi_r131_2 j (List.mem_range.mpr (by omega))
    by_cases c3 : pc < 192
    · obtain ⟨j, rfl⟩ : ∃ j, pc = 144 + j := ⟨pc - 144, by omega⟩
      exact List.all_eq_true.mp pi_r131_3 j (List.mem_range.mpr (by omega))
    by_cases c4 : pc < 240
    · obtain ⟨j, rfl⟩ : ∃ j, pc = 192 + j := ⟨pc - 192, by omega⟩
      exact List.all_eq_true.mp pi_r131_4 j (List.mem_range.mpr (by omega))
    by_cases c5 : pc < 288
    · obtain ⟨j, rfl⟩ : ∃ j, pc = 240 + j := ⟨pc - 240, by omega⟩
      exact List.all_eq_true.mp pi_r131_5 j (List.mem_range.mpr (by omega))
    by_cases c6 : pc < 336
    · obtain ⟨j, rfl⟩ : ∃ j, pc = 288 + j := ⟨pc - 288, by omega⟩
      exact List.all_eq_true.mp pi_r131_6 j (List.mem_range.mpr (by omega))
    by_cases c7 : pc < 384
    · obtain ⟨j, rfl⟩ : ∃ j, pc = 336 + j := ⟨pc - 336, by omega⟩
      exact List.all_eq_true.mp pi_r131_7 j (List.mem_range.mpr (by omega))
    obtain ⟨j, rfl⟩ : ∃ j, pc = 384 + j := ⟨pc - 384, by omega⟩
    exact List.all_eq_true.mp pi_r131_8 j (List.mem_range.mpr (by omega))
  simp only [pi_rowB, h, Bool.and_eq_true] at h1
  exact ⟨Nat.eq_of_beq_eq_true h1.1, pi_ok_of _ _ h1.2⟩
set_option maxRecDepth 100000 in
theorem pi_r132_0 : (List.range 20).all (fun j => pi_rowB 132 (0 + j) (pi_t132 (0 + j))) = true := by decide +kernel
theorem pi_q132 {pc : Nat} {r : pi_Row} (h : pi_t132 pc = some r) : r.1 = pc ∧ pi_ok 132 r := by
  have hp : pc < 20 := by
    cases hx : Nat.blt pc 20 with
    | true => exact Nat.le_of_ble_eq_true hx
    | false =>
      unfold pi_t132 at h
      rw [hx] at h
      cases h
  have h1 : pi_rowB 132 pc (pi_t132 pc) = true := by
    obtain ⟨j, rfl⟩ : ∃ j, pc = 0 + j := ⟨pc - 0, by omega⟩
    exact List.all_eq_true.mp pi_r132_0 j (List.mem_range.mpr (by omega))
  simp only [pi_rowB, h, Bool.and_eq_true] at h1
  exact ⟨Nat.eq_of_beq_eq_true h1.1, pi_ok_of _ _ h1.2⟩
set_option maxRecDepth 100000 in
theorem pi_r133_0 : (List.range 40).all (fun j => pi_rowB 133 (0 + j) (pi_t133 (0 + j))) = true := by decide +kernel
theorem pi_q133 {pc : Nat} {r : pi_Row} (h : pi_t133 pc = some r) : r.1 = pc ∧ pi_ok 133 r := by
  have hp : pc < 40 := by
    cases hx : Nat.blt pc 40 with
    | true => exact Nat.le_of_ble_eq_true hx
    | false =>
      unfold pi_t133 at h
      rw [hx] at h
      cases h
  have h1 : pi_rowB 133 pc (pi_t133 pc) = true := by
    obtain ⟨j, rfl⟩ : ∃ j, pc = 0 + j := ⟨pc - 0, by omega⟩
    exact List.all_eq_true.mp pi_r133_0 j (List.mem_range.mpr (by omega))
  simp only [pi_rowB, h, Bool.and_eq_true] at h1
  exact ⟨Nat.eq_of_beq_eq_true h1.1, pi_ok_of _ _ h1.2⟩
set_option maxRecDepth 100000 in
theorem pi_r134_0 : (List.range 42).all (fun j => pi_rowB 134 (0 + j) (pi_t134 (0 + j))) = true := by decide +kernel
theorem pi_q134 {pc : Nat} {r : pi_Row} (h : pi_t134 pc = some r) : r.1 = pc ∧ pi_ok 134 r := by
  have hp : pc < 42 := by
    cases hx : Nat.blt pc 42 with
    | true => exact Nat.le_of_ble_eq_true hx
    | false =>
      unfold pi_t134 at h
      rw [hx] at h
      cases h
  have h1 : pi_rowB 134 pc (pi_t134 pc) = true := by
    obtain ⟨j, rfl⟩ : ∃ j, pc = 0 + j := ⟨pc - 0, by omega⟩
    exact List.all_eq_true.mp pi_r134_0 j (List.mem_range.mpr (by omega))
  simp only [pi_rowB, h, Bool.and_eq_true] at h1
  exact ⟨Nat.eq_of_beq_eq_true h1.1, pi_ok_of _ _ h1.2⟩
set_option maxRecDepth 100000 in
theorem pi_r135_0 : (List.range 37).all (fun j => pi_rowB 135 (0 + j) (pi_t135 (0 + j))) = true := by decide +kernel
theorem pi_q135 {pc : Nat} {r : pi_Row} (h : pi_t135 pc = some r) : r.1 = pc ∧ pi_ok 135 r := by
  have hp : pc < 37 := by
    cases hx : Nat.blt pc 37 with
    | true => exact Nat.le_of_ble_eq_true hx
    | false =>
      unfold pi_t135 at h
      rw [hx] at h
      cases h
  have h1 : pi_rowB 135 pc (pi_t135 pc) = true := by
    obtain ⟨j, rfl⟩ : ∃ j, pc = 0 + j := ⟨pc - 0, by omega⟩
    exact List.all_eq_true.mp pi_r135_0 j (List.mem_range.mpr (by omega))
  simp only [pi_rowB, h, Bool.and_eq_true] at h1
  exact ⟨Nat.eq_of_beq_eq_true h1.1, pi_ok_of _ _ h1.2⟩
set_option maxRecDepth 100000 in
theorem pi_r136_0 : (List.range 28).all (fun j => pi_rowB 136 (0 + j) (pi_t136 (0 + j))) = true := by decide +kernel
theorem pi_q136 {pc : Nat} {r : pi_Row} (h : pi_t136 pc = some r) : r.1 = pc ∧ pi_ok 136 r := by
  have hp : pc < 28 := by
    cases hx : Nat.blt pc 28 with
    | true => exact Nat.le_of_ble_eq_true hx
    | false =>
      unfold pi_t136 at h
      rw [hx] at h
      cases h
  have h1 : pi_rowB 136 pc (pi_t136 pc) = true := by
    obtain ⟨j, rfl⟩ : ∃ j, pc = 0 + j := ⟨pc - 0, by omega⟩
    exact List.all_eq_true.mp pi_r136_0 j (List.mem_range.mpr (by omega))
  simp only [pi_rowB, h, Bool.and_eq_true] at h1
  exact ⟨Nat.eq_of_beq_eq_true h1.1, pi_ok_of _ _ h1.2⟩
set_option maxRecDepth 100000 in
theorem pi_r137_0 : (List.range 22).all (fun j => pi_rowB 137 (0 + j) (pi_t137 (0 + j))) = true := by decide +kernel
theorem pi_q137 {pc : Nat} {r : pi_Row} (h : pi_t137 pc = some r) : r.1 = pc ∧ pi_ok 137 r := by
  have hp : pc < 22 := by
    cases hx : Nat.blt pc 22 with
    | true => exact Nat.le_of_ble_eq_true hx
    | false =>
      unfold pi_t137 at h
      rw [hx] at h
      cases h
  have h1 : pi_rowB 137 pc (pi_t137 pc) = true := by
    obtain ⟨j, rfl⟩ : ∃ j, pc = 0 + j := ⟨pc - 0, by omega⟩
    exact List.all_eq_true.mp pi_r137_0 j (List.mem_range.mpr (by omega))
  simp only [pi_rowB, h, Bool.and_eq_true] at h1
  exact ⟨Nat.eq_of_beq_eq_true h1.1, pi_ok_of _ _ h1.2⟩
set_option maxRecDepth 100000 in
theorem pi_r138_0 : (List.range 24).all (fun j => pi_rowB 138 (0 + j) (pi_t138 (0 + j))) = true := by decide +kernel
theorem pi_q138 {pc : Nat} {r : pi_Row} (h : pi_t138 pc = some r) : r.1 = pc ∧ pi_ok 138 r := by
  have hp : pc < 24 := by
    cases hx : Nat.blt pc 24 with
    | true => exact Nat.le_of_ble_eq_true hx
    | false =>
      unfold pi_t138 at h
      rw [hx] at h
      cases h
  have h1 : pi_rowB 138 pc (pi_t138 pc) = true := by
    obtain ⟨j, rfl⟩ : ∃ j, pc = 0 + j := ⟨pc - 0, by omega⟩
    exact List.all_eq_true.mp pi_r138_0 j (List.mem_range.mpr (by omega))
  simp only [pi_rowB, h, Bool.and_eq_true] at h1
  exact ⟨Nat.eq_of_beq_eq_true h1.1, pi_ok_of _ _ h1.2⟩
set_option maxRecDepth 100000 in
theorem pi_r139_0 : (List.range 9).all (fun j => pi_rowB 139 (0 + j) (pi_t139 (0 + j))) = true := by decide +kernel
theorem pi_q139 {pc : Nat} {r : pi_Row} (h : pi_t139 pc = some r) : r.1 = pc ∧ pi_ok 139 r := by
  have hp : pc < 9 := by
    cases hx : Nat.blt pc 9 with
    | true => exact Nat.le_of_ble_eq_true hx
    | false =>
      unfold pi_t139 at h
      rw [hx] at h
      cases h
  have h1 : pi_rowB 139 pc (pi_t139 pc) = true := by
    obtain ⟨j, rfl⟩ : ∃ j, pc = 0 + j := ⟨pc - 0, by omega⟩
    exact List.all_eq_true.mp pi_r139_0 j (List.mem_range.mpr (by omega))
  simp only [pi_rowB, h, Bool.and_eq_true] at h1
  exact ⟨Nat.eq_of_beq_eq_true h1.1, pi_ok_of _ _ h1.2⟩
set_option maxRecDepth 100000 in
theorem pi_r140_0 : (List.range 5).all (fun j => pi_rowB 140 (0 + j) (pi_t140 (0 + j))) = true := by decide +kernel
theorem pi_q140 {pc : Nat} {r : pi_Row} (h : pi_t140 pc = some r) : r.1 = pc ∧ pi_ok 140 r := by
  have hp : pc < 5 := by
    cases hx : Nat.blt pc 5 with
    | true => exact Nat.le_of_ble_eq_true hx
    | false =>
      unfold pi_t140 at h
      rw [hx] at h
      cases h
  have h1 : pi_rowB 140 pc (pi_t140 pc) = true := by
    obtain ⟨j, rfl⟩ : ∃ j, pc = 0 + j := ⟨pc - 0, by omega⟩
    exact List.all_eq_true.mp pi_r140_0 j (List.mem_range.mpr (by omega))
  simp only [pi_rowB, h, Bool.and_eq_true] at h1
  exact ⟨Nat.eq_of_beq_eq_true h1.1, pi_ok_of _ _ h1.2⟩
set_option maxRecDepth 100000 in
theorem pi_r141_0 : (List.range 48).all (fun j => pi_rowB 141 (0 + j) (pi_t141 (0 + j))) = true := by decide +kernel
set_option maxRecDepth 100000 in
theorem pi_r141_1 : (List.range 48).all (fun j => pi_rowB 141 (48 + j) (pi_t141 (48 + j))) = true := by decide +kernel
set_option maxRecDepth 100000 in
theorem pi_r141_2 : (List.range 48).all (fun j => pi_rowB 141 (96 + j) (pi_t141 (96 + j))) = true := by decide +kernel
set_option maxRecDepth 100000 in
theorem pi_r141_3 : (List.range 48).all (fun j => pi_rowB 141 (144 + j) (pi_t141 (144 + j))) = true := by decide +kernel
set_option maxRecDepth 100000 in
theorem pi_r141_4 : (List.range 48).all (fun j => pi_rowB 141 (192 + j) (pi_t141 (192 + j))) = true := by decide +kernel
set_option maxRecDepth 100000 in
theorem pi_r141_5 : (List.range 12).all (fun j => pi_rowB 141 (240 + j) (pi_t141 (240 + j))) = true := by decide +kernel
theorem pi_q141 {pc : Nat} {r : pi_Row} (h : pi_t141 pc = some r) : r.1 = pc ∧ pi_ok 141 r := by
  have hp : pc < 252 := by
    cases hx : Nat.blt pc 252 with
    | true => exact Nat.le_of_ble_eq_true hx
    | false =>
      unfold pi_t141 at h
      rw [hx] at h
      cases h
  have h1 : pi_rowB 141 pc (pi_t141 pc) = true := by
    by_cases c0 : pc < 48
    · obtain ⟨j, rfl⟩ : ∃ j, pc = 0 + j := ⟨pc - 0, by omega⟩
      exact List.all_eq_true.mp pi_r141_0 j (List.mem_range.mpr (by omega))
    by_cases c1 : pc < 96
    · obtain ⟨j, rfl⟩ : ∃ j, pc = 48 + j := ⟨pc - 48, by omega⟩
      exact List.all_eq_true.mp pi_r141_1 j (List.mem_range.mpr (by omega))
    by_cases c2 : pc < 144
    · obtain ⟨j, rfl⟩ : ∃ j, pc = 96 + j := ⟨pc - 96, by omega⟩
      exact List.all_eq_true.mp pi_r141_2 j (List.mem_range.mpr (by omega))
    by_cases c3 : pc < 192
    · obtain ⟨j, rfl⟩ : ∃ j, pc = 144 + j := ⟨pc - 144, by omega⟩
      exact List.all_eq_true.mp pi_r141_3 j (List.mem_range.mpr (by omega))
    by_cases c4 : pc < 240
    · obtain ⟨j, rfl⟩ : ∃ j, pc = 192 + j := ⟨pc - 192, by omega⟩
      exact List.all_eq_true.mp pi_r141_4 j (List.mem_range.mpr (by omega))
    obtain ⟨j, rfl⟩ : ∃ j, pc = 240 + j := ⟨pc - 240, by omega⟩
    exact List.all_eq_true.mp pi_r141_5 j (List.mem_range.mpr (by omega))
  simp only [pi_rowB, h, Bool.and_eq_true] at h1
  exact ⟨Nat.eq_of_beq_eq_true h1.1, pi_ok_of _ _ h1.2⟩
set_option maxRecDepth 100000 in
theorem pi_r142_0 : (List.range 30).all (fun j => pi_rowB 142 (0 + j) (pi_t142 (0 + j))) = true := by decide +kernel
theorem pi_q142 {pc : Nat} {r : pi_Row} (h : pi_t142 pc = some r) : r.1 = pc ∧ pi_ok 142 r := by
  have hp : pc < 30 := by
    cases hx : Nat.blt pc 30 with
    | true => exact Nat.le_of_ble_eq_true hx
    | false =>
      unfold pi_t142 at h
      rw [hx] at h
      cases h
  have h1 : pi_rowB 142 pc (pi_t142 pc) = true := by
    obtain ⟨j, rfl⟩ : ∃ j, pc = 0 + j := ⟨pc - 0, by omega⟩
    exact List.all_eq_true.mp pi_r142_0 j (List.mem_range.mpr (by omega))
  simp only [pi_rowB, h, Bool.and_eq_true] at h1
  exact ⟨Nat.eq_of_beq_eq_true h1.1, pi_ok_of _ _ h1.2⟩
set_option maxRecDepth 100000 in
theorem pi_r143_0 : (List.range 48).all (fun j => pi_rowB 143 (0 + j) (pi_t143 (0 + j))) = true := by decide +kernel
set_option maxRecDepth 100000 in
theorem pi_r143_1 : (List.range 48).all (fun j => pi_rowB 143 (48 + j) (pi_t143 (48 + j))) = true := by decide +kernel
set_option maxRecDepth 100000 in
theorem pi_r143_2 : (List.range 4).all (fun j => pi_rowB 143 (96 + j) (pi_t143 (96 + j))) = true := by decide +kernel
theorem pi_q143 {pc : Nat} {r : pi_Row} (h : pi_t143 pc = some r) : r.1 = pc ∧ pi_ok 143 r := by
  have hp : pc < 100 := by
    cases hx : Nat.blt pc 100 with
    | true => exact Nat.le_of_ble_eq_true hx
    | false =>
      unfold pi_t143 at h
      rw [hx] at h
      cases h
  have h1 : pi_rowB 143 pc (pi_t143 pc) = true := by
    by_cases c0 : pc < 48
    · obtain ⟨j, rfl⟩ : ∃ j, pc = 0 + j := ⟨pc - 0, by omega⟩
      exact List.all_eq_true.mp pi_r143_0 j (List.mem_range.mpr (by omega))
    by_cases c1 : pc < 96
    · obtain ⟨j, rfl⟩ : ∃ j, pc = 48 + j := ⟨pc - 48, by omega⟩
      exact List.all_eq_true.mp pi_r143_1 j (List.mem_range.mpr (by omega))
    obtain ⟨j, rfl⟩ : ∃ j, pc = 96 + j := ⟨pc - 96, by omega⟩
    exact List.all_eq_true.mp pi_r143_2 j (List.mem_range.mpr (by omega))
  simp only [pi_rowB, h, Bool.and_eq_true] at h1
  exact ⟨Nat.eq_of_beq_eq_true h1.1, pi_ok_of _ _ h1.2⟩
set_option maxRecDepth 100000 in
theorem pi_r144_0 : (List.range 48).all (fun j => pi_rowB 144 (0 + j) (pi_t144 (0 + j))) = true := by decide +kernel
set_option maxRecDepth 100000 in
theorem pi_r144_1 : (List.range 20).all (fun j => pi_rowB 144 (48 + j) (pi_t144 (48 + j))) = true := by decide +kernel
theorem pi_q144 {pc : Nat} {r : pi_Row} (h : pi_t144 pc = some r) : r.1 = pc ∧ pi_ok 144 r := by
  have hp : pc < 68 := by
    cases hx : Nat.blt pc 68 with
    | true => exact Nat.le_of_ble_eq_true hx
    | false =>
      unfold pi_t144 at h
      rw [hx] at h
      cases h
  have h1 : pi_rowB 144 pc (pi_t144 pc) = true := by
    by_cases c0 : pc < 48
    · obtain ⟨j, rfl⟩ : ∃ j, pc = 0 + j := ⟨pc - 0, by omega⟩
      exact List.all_eq_true.mp pi_r144_0 j (List.mem_range.mpr (by omega))
    obtain ⟨j, rfl⟩ : ∃ j, pc = 48 + j := ⟨pc - 48, by omega⟩
    exact List.all_eq_true.mp pi_r144_1 j (List.mem_range.mpr (by omega))
  simp only [pi_rowB, h, Bool.and_eq_true] at h1
  exact ⟨Nat.eq_of_beq_eq_true h1.1, pi_ok_of _ _ h1.2⟩
set_option maxRecDepth 100000 in
theorem pi_r145_0 : (List.range 29).all (fun j => pi_rowB 145 (0 + j) (pi_t145 (0 + j))) = true := by decide +kernel
theorem pi_q145 {pc : Nat} {r : pi_Row} (h : pi_t145 pc = some r) : r.1 = pc ∧ pi_ok 145 r := by
  have hp : pc < 29 := by
    cases hx : Nat.blt pc 29 with
    | true => exact Nat.le_of_ble_eq_true hx
    | false =>
      unfold pi_t145 at h
      rw [hx] at h
      cases h
  have h1 : pi_rowB 145 pc (pi_t145 pc) = true := by
    obtain ⟨j, rfl⟩ : ∃ j, pc = 0 + j := ⟨pc - 0, by omega⟩
    exact List.all_eq_true.mp pi_r145_0 j (List.mem_range.mpr (by omega))
  simp only [pi_rowB, h, Bool.and_eq_true] at h1
  exact ⟨Nat.eq_of_beq_eq_true h1.1, pi_ok_of _ _ h1.2⟩
set_option maxRecDepth 100000 in
theorem pi_r146_0 : (List.range 48).all (fun j => pi_rowB 146 (0 + j) (pi_t146 (0 + j))) = true := by decide +kernel
set_option maxRecDepth 100000 in
theorem pi_r146_1 : (List.range 44).all (fun j => pi_rowB 146 (48 + j) (pi_t146 (48 + j))) = true := by decide +kernel
theorem pi_q146 {pc : Nat} {r : pi_Row} (h : pi_t146 pc = some r) : r.1 = pc ∧ pi_ok 146 r := by
  have hp : pc < 92 := by
    cases hx : Nat.blt pc 92 with
    | true => exact Nat.le_of_ble_eq_true hx
    | false =>
      unfold pi_t146 at h
      rw [hx] at h
      cases h
  have h1 : pi_rowB 146 pc (pi_t146 pc) = true := by
    by_cases c0 : pc < 48
    · obtain ⟨j, rfl⟩ : ∃ j, pc = 0 + j := ⟨pc - 0, by omega⟩
      exact List.all_eq_true.mp pi_r146_0 j (List.mem_range.mpr (by omega))
    obtain ⟨j, rfl⟩ : ∃ j, pc = 48 + j := ⟨pc - 48, by omega⟩
    exact List.all_eq_true.mp pi_r146_1 j (List.mem_range.mpr (by omega))
  simp only [pi_rowB, h, Bool.and_eq_true] at h1
  exact ⟨Nat.eq_of_beq_eq_true h1.1, pi_ok_of _ _ h1.2⟩
set_option maxRecDepth 100000 in
theorem pi_r147_0 : (List.range 43).all (fun j => pi_rowB 147 (0 + j) (pi_t147 (0 + j))) = true := by decide +kernel
theorem pi_q147 {pc : Nat} {r : pi_Row} (h : pi_t147 pc = some r) : r.1 = pc ∧ pi_ok 147 r := by
  have hp : pc < 43 := by
    cases hx : Nat.blt pc 43 with
    | true => exact Nat.le_of_ble_eq_true hx
    | false =>
      unfold pi_t147 at h
      rw [hx] at h
      cases h
  have h1 : pi_rowB 147 pc (pi_t147 pc) = true := by
    obtain ⟨j, rfl⟩ : ∃ j, pc = 0 + j := ⟨pc - 0, by omega⟩
    exact List.all_eq_true.mp pi_r147_0 j (List.mem_range.mpr (by omega))
  simp only [pi_rowB, h, Bool.and_eq_true] at h1
  exact ⟨Nat.eq_of_beq_eq_true h1.1, pi_ok_of _ _ h1.2⟩
set_option maxRecDepth 100000 in
theorem pi_r148_0 : (List.range 48).all (fun j => pi_rowB 148 (0 + j) (pi_t148 (0 + j))) = true := by decide +kernel
set_option maxRecDepth 100000 in
theorem pi_r148_1 : (List.range 33).all (fun j => pi_rowB 148 (48 + j) (pi_t148 (48 + j))) = true := by decide +kernel
theorem pi_q148 {pc : Nat} {r : pi_Row} (h : pi_t148 pc = some r) : r.1 = pc ∧ pi_ok 148 r := by
  have hp : pc < 81 := by
    cases hx : Nat.blt pc 81 with
    | true => exact Nat.le_of_ble_eq_true hx
    | false =>
      unfold pi_t148 at h
      rw [hx] at h
      cases h
  have h1 : pi_rowB 148 pc (pi_t148 pc) = true := by
    by_cases c0 : pc < 48
    · obtain ⟨j, rfl⟩ : ∃ j, pc = 0 + j := ⟨pc - 0, by omega⟩
      exact List.all_eq_true.mp pi_r148_0 j (List.mem_range.mpr (by omega))
    obtain ⟨j, rfl⟩ : ∃ j, pc = 48 + j := ⟨pc - 48, by omega⟩
    exact List.all_eq_true.mp pi_r148_1 j (List.mem_range.mpr (by omega))
  simp only [pi_rowB, h, Bool.and_eq_true] at h1
  exact ⟨Nat.eq_of_beq_eq_true h1.1, pi_ok_of _ _ h1.2⟩
set_option maxRecDepth 100000 in
theorem pi_r149_0 : (List.range 29).all (fun j => pi_rowB 149 (0 + j) (pi_t149 (0 + j))) = true := by decide +kernel
theorem pi_q149 {pc : Nat} {r : pi_Row} (h : pi_t149 pc = some r) : r.1 = pc ∧ pi_ok 149 r := by
  have hp : pc < 29 := by
    cases hx : Nat.blt pc 29 with
    | true => exact Nat.le_of_ble_eq_true hx
    | false =>
      unfold pi_t149 at h
      rw [hx] at h
      cases h
  have h1 : pi_rowB 149 pc (pi_t149 pc) = true := by
    obtain ⟨j, rfl⟩ : ∃ j, pc = 0 + j := ⟨pc - 0, by omega⟩
    exact List.all_eq_true.mp pi_r149_0 j (List.mem_range.mpr (by omega))
  simp only [pi_rowB, h, Bool.and_eq_true] at h1
  exact ⟨Nat.eq_of_beq_eq_true h1.1, pi_ok_of _ _ h1.2⟩
set_option maxRecDepth 100000 in
theorem pi_r150_0 : (List.range 43).all (fun j => pi_rowB 150 (0 + j) (pi_t150 (0 + j))) = true := by decide +kernel
theorem pi_q150 {pc : Nat} {r : pi_Row} (h : pi_t150 pc = some r) : r.1 = pc ∧ pi_ok 150 r := by
  have hp : pc < 43 := by
    cases hx : Nat.blt pc 43 with
    | true => exact Nat.le_of_ble_eq_true hx
    | false =>
      unfold pi_t150 at h
      rw [hx] at h
      cases h
  have h1 : pi_rowB 150 pc (pi_t150 pc) = true := by
    obtain ⟨j, rfl⟩ : ∃ j, pc = 0 + j := ⟨pc - 0, by omega⟩
    exact List.all_eq_true.mp pi_r150_0 j (List.mem_range.mpr (by omega))
  simp only [pi_rowB, h, Bool.and_eq_true] at h1
  exact ⟨Nat.eq_of_beq_eq_true h1.1, pi_ok_of _ _ h1.2⟩
set_option maxRecDepth 100000 in
theorem pi_r151_0 : (List.range 5).all (fun j => pi_rowB 151 (0 + j) (pi_t151 (0 + j))) = true := by decide +kernel
theorem pi_q151 {pc : Nat} {r : pi_Row} (h : pi_t151 pc = some r) : r.1 = pc ∧ pi_ok 151 r := by
  have hp : pc < 5 := by
    cases hx : Nat.blt pc 5 with
    | true => exact Nat.le_of_ble_eq_true hx
    | false =>
      unfold pi_t151 at h
      rw [hx] at h
      cases h
  have h1 : pi_rowB 151 pc (pi_t151 pc) = true := by
    obtain ⟨j, rfl⟩ : ∃ j, pc = 0 + j := ⟨pc - 0, by omega⟩
    exact List.all_eq_true.mp pi_r151_0 j (List.mem_range.mpr (by omega))
  simp only [pi_rowB, h, Bool.and_eq_true] at h1
  exact ⟨Nat.eq_of_beq_eq_true h1.1, pi_ok_of _ _ h1.2⟩
set_option maxRecDepth 100000 in
theorem pi_r152_0 : (List.range 48).all (fun j => pi_rowB 152 (0 + j) (pi_t152 (0 + j))) = true := by decide +kernel
theorem pi_q152 {pc : Nat} {r : pi_Row} (h : pi_t152 pc = some r) : r.1 = pc ∧ pi_ok 152 r := by
  have hp : pc < 48 := by
    cases hx : Nat.blt pc 48 with
    | true => exact Nat.le_of_ble_eq_true hx
    | false =>
      unfold pi_t152 at h
      rw [hx] at h
      cases h
  have h1 : pi_rowB 152 pc (pi_t152 pc) = true := by
    obtain ⟨j, rfl⟩ : ∃ j, pc = 0 + j := ⟨pc - 0, by omega⟩
    exact List.all_eq_true.mp pi_r152_0 j (List.mem_range.mpr (by omega))
  simp only [pi_rowB, h, Bool.and_eq_true] at h1
  exact ⟨Nat.eq_of_beq_eq_true h1.1, pi_ok_of _ _ h1.2⟩
set_option maxRecDepth 100000 in
theorem pi_r153_0 : (List.range 15).all (fun j => pi_rowB 153 (0 + j) (pi_t153 (0 + j))) = true := by decide +kernel
theorem pi_q153 {pc : Nat} {r : pi_Row} (h : pi_t153 pc = some r) : r.1 = pc ∧ pi_ok 153 r := by
  have hp : pc < 15 := by
    cases hx : Nat.blt pc 15 with
    | true => exact Nat.le_of_ble_eq_true hx
    | false =>
      unfold pi_t153 at h
      rw [hx] at h
      cases h
  have h1 : pi_rowB 153 pc (pi_t153 pc) = true := by
    obtain ⟨j, rfl⟩ : ∃ j, pc = 0 + j := ⟨pc - 0, by omega⟩
    exact List.all_eq_true.mp pi_r153_0 j (List.mem_range.mpr (by omega))
  simp only [pi_rowB, h, Bool.and_eq_true] at h1
  exact ⟨Nat.eq_of_beq_eq_true h1.1, pi_ok_of _ _ h1.2⟩
set_option maxRecDepth 100000 in
theorem pi_r154_0 : (List.range 34).all (fun j => pi_rowB 154 (0 + j) (pi_t154 (0 + j))) = true := by decide +kernel
theorem pi_q154 {pc : Nat} {r : pi_Row} (h : pi_t154 pc = some r) : r.1 = pc ∧ pi_ok 154 r := by
  have hp : pc < 34 := by
    cases hx : Nat.blt pc 34 with
    | true => exact Nat.le_of_ble_eq_true hx
    | false =>
      unfold pi_t154 at h
      rw [hx] at h
      cases h
  have h1 : pi_rowB 154 pc (pi_t154 pc) = true := by
    obtain ⟨j, rfl⟩ : ∃ j, pc = 0 + j := ⟨pc - 0, by omega⟩
    exact List.all_eq_true.mp pi_r154_0 j (List.mem_range.mpr (by omega))
  simp only [pi_rowB, h, Bool.and_eq_true] at h1
  exact ⟨Nat.eq_of_beq_eq_true h1.1, pi_ok_of _ _ h1.2⟩
set_option maxRecDepth 100000 in
theorem pi_r155_0 : (List.range 48).all (fun j => pi_rowB 155 (0 + j) (pi_t155 (0 + j))) = true := by decide +kernel
set_option maxRecDepth 100000 in
theorem pi_r155_1 : (List.range 3).all (fun j => pi_rowB 155 (48 + j) (pi_t155 (48 + j))) = true := by decide +kernel
theorem pi_q155 {pc : Nat} {r : pi_Row} (h : pi_t155 pc = some r) : r.1 = pc ∧ pi_ok 155 r := by
  have hp : pc < 51 := by
    cases hx : Nat.blt pc 51 with
    | true => exact Nat.le_of_ble_eq_true hx
    | false =>
      unfold pi_t155 at h
      rw [hx] at h
      cases h
  have h1 : pi_rowB 155 pc (pi_t155 pc) = true := by
    by_cases c0 : pc < 48
    · obtain ⟨j, rfl⟩ : ∃ j, pc = 0 + j := ⟨pc - 0, by omega⟩
      exact List.all_eq_true.mp pi_r155_0 j (List.mem_range.mpr (by omega))
    obtain ⟨j, rfl⟩ : ∃ j, pc = 48 + j := ⟨pc - 48, by omega⟩
    exact List.all_eq_true.mp pi_r155_1 j (List.mem_range.mpr (by omega))
  simp only [pi_rowB, h, Bool.and_eq_true] at h1
  exact ⟨Nat.eq_of_beq_eq_true h1.1, pi_ok_of _ _ h1.2⟩
set_option maxRecDepth 100000 in
theorem pi_r156_0 : (List.range 48).all (fun j => pi_rowB 156 (0 + j) (pi_t156 (0 + j))) = true := by decide +kernel
set_option maxRecDepth 100000 in
theorem pi_r156_1 : (List.range 48).all (fun j => pi_rowB 156 (48 + j) (pi_t156 (48 + j))) = true := by decide +kernel
set_option maxRecDepth 100000 in
theorem pi_r156_2 : (List.range 45).all (fun j => pi_rowB 156 (96 + j) (pi_t156 (96 + j))) = true := by decide +kernel
theorem pi_q156 {pc : Nat} {r : pi_Row} (h : pi_t156 pc = some r) : r.1 = pc ∧ pi_ok 156 r := by
  have hp : pc < 141 := by
    cases hx : Nat.blt pc 141 with
    | true => exact Nat.le_of_ble_eq_true hx
    | false =>
      unfold pi_t156 at h
      rw [hx] at h
      cases h
  have h1 : pi_rowB 156 pc (pi_t156 pc) = true := by
    by_cases c0 : pc < 48
    · obtain ⟨j, rfl⟩ : ∃ j, pc = 0 + j := ⟨pc - 0, by omega⟩
      exact List.all_eq_true.mp pi_r156_0 j (List.mem_range.mpr (by omega))
    by_cases c1 : pc < 96
    · obtain ⟨j, rfl⟩ : ∃ j, pc = 48 + j := ⟨pc - 48, by omega⟩
      exact List.all_eq_true.mp pi_r156_1 j (List.mem_range.mpr (by omega))
    obtain ⟨j, rfl⟩ : ∃ j, pc = 96 + j := ⟨pc - 96, by omega⟩
    exact List.all_eq_true.mp pi_r156_2 j (List.mem_range.mpr (by omega))
  simp only [pi_rowB, h, Bool.and_eq_true] at h1
  exact ⟨Nat.eq_of_beq_eq_true h1.1, pi_ok_of _ _ h1.2⟩
set_option maxRecDepth 100000 in
theorem pi_r157_0 : (List.range 42).all (fun j => pi_rowB 157 (0 + j) (pi_t157 (0 + j))) = true := by decide +kernel
theorem pi_q157 {pc : Nat} {r : pi_Row} (h : pi_t157 pc = some r) : r.1 = pc ∧ pi_ok 157 r := by
  have hp : pc < 42 := by
    cases hx : Nat.blt pc 42 with
    | true => exact Nat.le_of_ble_eq_true hx
    | false =>
      unfold pi_t157 at h
      rw [hx] at h
      cases h
  have h1 : pi_rowB 157 pc (pi_t157 pc) = true := by
    obtain ⟨j, rfl⟩ : ∃ j, pc = 0 + j := ⟨pc - 0, by omega⟩
    exact List.all_eq_true.mp pi_r157_0 j (List.mem_range.mpr (by omega))
  simp only [pi_rowB, h, Bool.and_eq_true] at h1
  exact ⟨Nat.eq_of_beq_eq_true h1.1, pi_ok_of _ _ h1.2⟩
set_option maxRecDepth 100000 in
theorem pi_r158_0 : (List.range 15).all (fun j => pi_rowB 158 (0 + j) (pi_t158 (0 + j))) = true := by decide +kernel
theorem pi_q158 {pc : Nat} {r : pi_Row} (h : pi_t158 pc = some r) : r.1 = pc ∧ pi_ok 158 r := by
  have hp : pc < 15 := by
    cases hx : Nat.blt pc 15 with
    | true => exact Nat.le_of_ble_eq_true hx
    | false =>
      unfold pi_t158 at h
      rw [hx] at h
      cases h
  have h1 : pi_rowB 158 pc (pi_t158 pc) = true := by
    obtain ⟨j, rfl⟩ : ∃ j, pc = 0 + j := ⟨pc - 0, by omega⟩
    exact List.all_eq_true.mp pi_r158_0 j (List.mem_range.mpr (by omega))
  simp only [pi_rowB, h, Bool.and_eq_true] at h1
  exact ⟨Nat.eq_of_beq_eq_true h1.1, pi_ok_of _ _ h1.2⟩
set_option maxRecDepth 100000 in
theorem pi_r159_0 : (List.range 29).all (fun j => pi_rowB 159 (0 + j) (pi_t159 (0 + j))) = true := by decide +kernel
theorem pi_q159 {pc : Nat} {r : pi_Row} (h : pi_t159 pc = some r) : r.1 = pc ∧ pi_ok 159 r := by
  have hp : pc < 29 := by
    cases hx : Nat.blt pc 29 with
    | true => exact Nat.le_of_ble_eq_true hx
    | false =>
      unfold pi_t159 at h
      rw [hx] at h
      cases h
  have h1 : pi_rowB 159 pc (pi_t159 pc) = true := by
    obtain ⟨j, rfl⟩ : ∃ j, pc = 0 + j := ⟨pc - 0, by omega⟩
    exact List.all_eq_true.mp pi_r159_0 j (List.mem_range.mpr (by omega))
  simp only [pi_rowB, h, Bool.and_eq_true] at h1
  exact ⟨Nat.eq_of_beq_eq_true h1.1, pi_ok_of _ _ h1.2⟩
set_option maxRecDepth 100000 in
theorem pi_r160_0 : (List.range 48).all (fun j => pi_rowB 160 (0 + j) (pi_t160 (0 + j))) = true := by decide +kernel
theorem pi_q160 {pc : Nat} {r : pi_Row} (h : pi_t160 pc = some r) : r.1 = pc ∧ pi_ok 160 r := by
  have hp : pc < 48 := by
    cases hx : Nat.blt pc 48 with
    | true => exact Nat.le_of_ble_eq_true hx
    | false =>
      unfold pi_t160 at h
      rw [hx] at h
      cases h
  have h1 : pi_rowB 160 pc (pi_t160 pc) = true := by
    obtain ⟨j, rfl⟩ : ∃ j, pc = 0 + j := ⟨pc - 0, by omega⟩
    exact List.all_eq_true.mp pi_r160_0 j (List.mem_range.mpr (by omega))
  simp only [pi_rowB, h, Bool.and_eq_true] at h1
  exact ⟨Nat.eq_of_beq_eq_true h1.1, pi_ok_of _ _ h1.2⟩
set_option maxRecDepth 100000 in
theorem pi_r161_0 : (List.range 5).all (fun j => pi_rowB 161 (0 + j) (pi_t161 (0 + j))) = true := by decide +kernel
theorem pi_q161 {pc : Nat} {r : pi_Row} (h : pi_t161 pc = some r) : r.1 = pc ∧ pi_ok 161 r := by
  have hp : pc < 5 := by
    cases hx : Nat.blt pc 5 with
    | true => exact Nat.le_of_ble_eq_true hx
    | false =>
      unfold pi_t161 at h
      rw [hx] at h
      cases h
  have h1 : pi_rowB 161 pc (pi_t161 pc) = true := by
    obtain ⟨j, rfl⟩ : ∃ j, pc = 0 + j := ⟨pc - 0, by omega⟩
    exact List.all_eq_true.mp pi_r161_0 j (List.mem_range.mpr (by omega))
  simp only [pi_rowB, h, Bool.and_eq_true] at h1
  exact ⟨Nat.eq_of_beq_eq_true h1.1, pi_ok_of _ _ h1.2⟩
set_option maxRecDepth 100000 in
theorem pi_r162_0 : (List.range 10).all (fun j => pi_rowB 162 (0 + j) (pi_t162 (0 + j))) = true := by decide +kernel
theorem pi_q162 {pc : Nat} {r : pi_Row} (h : pi_t162 pc = some r) : r.1 = pc ∧ pi_ok 162 r := by
  have hp : pc < 10 := by
    cases hx : Nat.blt pc 10 with
    | true => exact Nat.le_of_ble_eq_true hx
    | false =>
      unfold pi_t162 at h
      rw [hx] at h
      cases h
  have h1 : pi_rowB 162 pc (pi_t162 pc) = true := by
    obtain ⟨j, rfl⟩ : ∃ j, pc = 0 + j := ⟨pc - 0, by omega⟩
    exact List.all_eq_true.mp pi_r162_0 j (List.mem_range.mpr (by omega))
  simp only [pi_rowB, h, Bool.and_eq_true] at h1
  exact ⟨Nat.eq_of_beq_eq_true h1.1, pi_ok_of _ _ h1.2⟩
set_option maxRecDepth 100000 in
theorem pi_r163_0 : (List.range 7).all (fun j => pi_rowB 163 (0 + j) (pi_t163 (0 + j))) = true := by decide +kernel
theorem pi_q163 {pc : Nat} {r : pi_Row} (h : pi_t163 pc = some r) : r.1 = pc ∧ pi_ok 163 r := by
  have hp : pc < 7 := by
    cases hx : Nat.blt pc 7 with
    | true => exact Nat.le_of_ble_eq_true hx
    | false =>
      unfold pi_t163 at h
      rw [hx] at h
      cases h
  have h1 : pi_rowB 163 pc (pi_t163 pc) = true := by
    obtain ⟨j, rfl⟩ : ∃ j, pc = 0 + j := ⟨pc - 0, by omega⟩
    exact List.all_eq_true.mp pi_r163_0 j (List.mem_range.mpr (by omega))
  simp only [pi_rowB, h, Bool.and_eq_true] at h1
  exact ⟨Nat.eq_of_beq_eq_true h1.1, pi_ok_of _ _ h1.2⟩
set_option maxRecDepth 100000 in
theorem pi_r164_0 : (List.range 48).all (fun j => pi_rowB 164 (0 + j) (pi_t164 (0 + j))) = true := by decide +kernel
set_option maxRecDepth 100000 in
theorem pi_r164_1 : (List.range 39).all (fun j => pi_rowB 164 (48 + j) (pi_t164 (48 + j))) = true := by decide +kernel
theorem pi_q164 {pc : Nat} {r : pi_Row} (h : pi_t164 pc = some r) : r.1 = pc ∧ pi_ok 164 r := by
  have hp : pc < 87 := by
    cases hx : Nat.blt pc 87 with
    | true => exact Nat.le_of_ble_eq_true hx
    | false =>
      unfold pi_t164 at h
      rw [hx] at h
      cases h
  have h1 : pi_rowB 164 pc (pi_t164 pc) = true := by
    by_cases c0 : pc < 48
    · obtain ⟨j, rfl⟩ : ∃ j, pc = 0 + j := ⟨pc - 0, by omega⟩
      exact List.all_eq_true.mp pi_r164_0 j (List.mem_range.mpr (by omega))
    obtain ⟨j, rfl⟩ : ∃ j, pc = 48 + j := ⟨pc - 48, by omega⟩
    exact List.all_eq_true.mp pi_r164_1 j (List.mem_range.mpr (by omega))
  simp only [pi_rowB, h, Bool.and_eq_true] at h1
  exact ⟨Nat.eq_of_beq_eq_true h1.1, pi_ok_of _ _ h1.2⟩
set_option maxRecDepth 100000 in
theorem pi_r165_0 : (List.range 39).all (fun j => pi_rowB 165 (0 + j) (pi_t165 (0 + j))) = true := by decide +kernel
theorem pi_q165 {pc : Nat} {r : pi_Row} (h : pi_t165 pc = some r) : r.1 = pc ∧ pi_ok 165 r := by
  have hp : pc < 39 := by
    cases hx : Nat.blt pc 39 with
    | true => exact Nat.le_of_ble_eq_true hx
    | false =>
      unfold pi_t165 at h
      rw [hx] at h
      cases h
  have h1 : pi_rowB 165 pc (pi_t165 pc) = true := by
    obtain ⟨j, rfl⟩ : ∃ j, pc = 0 + j := ⟨pc - 0, by omega⟩
    exact List.all_eq_true.mp pi_r165_0 j (List.mem_range.mpr (by omega))
  simp only [pi_rowB, h, Bool.and_eq_true] at h1
  exact ⟨Nat.eq_of_beq_eq_true h1.1, pi_ok_of _ _ h1.2⟩
set_option maxRecDepth 100000 in
theorem pi_r166_0 : (List.range 48).all (fun j => pi_rowB 166 (0 + j) (pi_t166 (0 + j))) = true := by decide +kernel
set_option maxRecDepth 100000 in
theorem pi_r166_1 : (List.range 1).all (fun j => pi_rowB 166 (48 + j) (pi_t166 (48 + j))) = true := by decide +kernel
theorem pi_q166 {pc : Nat} {r : pi_Row} (h : pi_t166 pc = some r) : r.1 = pc ∧ pi_ok 166 r := by
  have hp : pc < 49 := by
    cases hx : Nat.blt pc 49 with
    | true => exact Nat.le_of_ble_eq_true hx
    | false =>
      unfold pi_t166 at h
      rw [hx] at h
      cases h
  have h1 : pi_rowB 166 pc (pi_t166 pc) = true := by
    by_cases c0 : pc < 48
    · obtain ⟨j, rfl⟩ : ∃ j, pc = 0 + j := ⟨pc - 0, by omega⟩
      exact List.all_eq_true.mp pi_r166_0 j (List.mem_range.mpr (by omega))
    obtain ⟨j, rfl⟩ : ∃ j, pc = 48 + j := ⟨pc - 48, by omega⟩
    exact List.all_eq_true.mp pi_r166_1 j (List.mem_range.mpr (by omega))
  simp only [pi_rowB, h, Bool.and_eq_true] at h1
  exact ⟨Nat.eq_of_beq_eq_true h1.1, pi_ok_of _ _ h1.2⟩
set_option maxRecDepth 100000 in
theorem pi_r167_0 : (List.range 42).all (fun j => pi_rowB 167 (0 + j) (pi_t167 (0 + j))) = true := by decide +kernel
theorem pi_q167 {pc : Nat} {r : pi_Row} (h : pi_t167 pc = some r) : r.1 = pc ∧ pi_ok 167 r := by
  have hp : pc < 42 := by
    cases hx : Nat.blt pc 42 with
    | true => exact Nat.le_of_ble_eq_true hx
    | false =>
      unfold pi_t167 at h
      rw [hx] at h
      cases h
  have h1 : pi_rowB 167 pc (pi_t167 pc) = true := by
    obtain ⟨j, rfl⟩ : ∃ j, pc = 0 + j := ⟨pc - 0, by omega⟩
    exact List.all_eq_true.mp pi_r167_0 j (List.mem_range.mpr (by omega))
  simp only [pi_rowB, h, Bool.and_eq_true] at h1
  exact ⟨Nat.eq_of_beq_eq_true h1.1, pi_ok_of _ _ h1.2⟩
set_option maxRecDepth 100000 in
theorem pi_r168_0 : (List.range 48).all (fun j => pi_rowB 168 (0 + j) (pi_t168 (0 + j))) = true := by decide +kernel
set_option maxRecDepth 100000 in
theorem pi_r168_1 : (List.range 2).all (fun j => pi_rowB 168 (48 + j) (pi_t168 (48 + j))) = true := by decide +kernel
theorem pi_q168 {pc : Nat} {r : pi_Row} (h : pi_t168 pc = some r) : r.1 = pc ∧ pi_ok 168 r := by
  have hp : pc < 50 := by
    cases hx : Nat.blt pc 50 with
    | true => exact Nat.le_of_ble_eq_true hx
    | false =>
      unfold pi_t168 at h
      rw [hx] at h
      cases h
  have h1 : pi_rowB 168 pc (pi_t168 pc) = true := by
    by_cases c0 : pc < 48
    · obtain ⟨j, rfl⟩ : ∃ j, pc = 0 + j := ⟨pc - 0, by omega⟩
      exact List.all_eq_true.mp pi_r168_0 j (List.mem_range.mpr (by omega))
    obtain ⟨j, rfl⟩ : ∃ j, pc = 48 + j := ⟨pc - 48, by omega⟩
    exact List.all_eq_true.mp pi_r168_1 j (List.mem_range.mpr (by omega))
  simp only [pi_rowB, h, Bool.and_eq_true] at h1
  exact ⟨Nat.eq_of_beq_eq_true h1.1, pi_ok_of _ _ h1.2⟩
set_option maxRecDepth 100000 in
theorem pi_r169_0 : (List.range 48).all (fun j => pi_rowB 169 (0 + j) (pi_t169 (0 + j))) = true := by decide +kernel
set_option maxRecDepth 100000 in
theorem pi_r169_1 : (List.range 8).all (fun j => pi_rowB 169 (48 + j) (pi_t169 (48 + j))) = true := by decide +kernel
theorem pi_q169 {pc : Nat} {r : pi_Row} (h : pi_t169 pc = some r) : r.1 = pc ∧ pi_ok 169 r := by
  have hp : pc < 56 := by
    cases hx : Nat.blt pc 56 with
    | true => exact Nat.le_of_ble_eq_true hx
    | false =>
      unfold pi_t169 at h
      rw [hx] at h
      cases h
  have h1 : pi_rowB 169 pc (pi_t169 pc) = true := by
    by_cases c0 : pc < 48
    · obtain ⟨j, rfl⟩ : ∃ j, pc = 0 + j := ⟨pc - 0, by omega⟩
      exact List.all_eq_true.mp pi_r169_0 j (List.mem_range.mpr (by omega))
    obtain ⟨j, rfl⟩ : ∃ j, pc = 48 + j := ⟨pc - 48, by omega⟩
    exact List.all_eq_true.mp pi_r169_1 j (List.mem_range.mpr (by omega))
  simp only [pi_rowB, h, Bool.and_eq_true] at h1
  exact ⟨Nat.eq_of_beq_eq_true h1.1, pi_ok_of _ _ h1.2⟩
set_option maxRecDepth 100000 in
theorem pi_r170_0 : (List.range 48).all (fun j => pi_rowB 170 (0 + j) (pi_t170 (0 + j))) = true := by decide +kernel
set_option maxRecDepth 100000 in
theorem pi_r170_1 : (List.range 48).all (fun j => pi_rowB 170 (48 + j) (pi_t170 (48 + j))) = true := by decide +kernel
set_option maxRecDepth 100000 in
theorem pi_r170_2 : (List.range 48).all (fun j => pi_rowB 170 (96 + j) (pi_t170 (96 + j))) = true := by decide +kernel
set_option maxRecDepth 100000 in
theorem pi_r170_3 : (List.range 48).all (fun j => pi_rowB 170 (144 + j) (pi_t170 (144 + j))) = true := by decide +kernel
set_option maxRecDepth 100000 in
theorem pi_r170_4 : (List.range 2).all (fun j => pi_rowB 170 (192 + j) (pi_t170 (192 + j))) = true := by decide +kernel
theorem pi_q170 {pc : Nat} {r : pi_Row} (h : pi_t170 pc = some r) : r.1 = pc ∧ pi_ok 170 r := by
  have hp : pc < 194 := by
    cases hx : Nat.blt pc 194 with
    | true => exact Nat.le_of_ble_eq_true hx
    | false =>
      unfold pi_t170 at h
      rw [hx] at h
      cases h
  have h1 : pi_rowB 170 pc (pi_t170 pc) = true := by
    by_cases c0 : pc < 48
    · obtain ⟨j, rfl⟩ : ∃ j, pc = 0 + j := ⟨pc - 0, by omega⟩
      exact List.all_eq_true.mp pi_r170_0 j (List.mem_range.mpr (by omega))
    by_cases c1 : pc < 96
    · obtain ⟨j, rfl⟩ : ∃ j, pc = 48 + j := ⟨pc - 48, by omega⟩
      exact List.all_eq_true.mp pi_r170_1 j (List.mem_range.mpr (by omega))
    by_cases c2 : pc < 144
    · obtain ⟨j, rfl⟩ : ∃ j, pc = 96 + j := ⟨pc - 96, by omega⟩
      exact List.all_eq_true.mp pi_r170_2 j (List.mem_range.mpr (by omega))
    by_cases c3 : pc < 192
    · obtain ⟨j, rfl⟩ : ∃ j, pc = 144 + j := ⟨pc - 144, by omega⟩
      exact List.all_eq_true.mp pi_r170_3 j (List.mem_range.mpr (by omega))
    obtain ⟨j, rfl⟩ : ∃ j, pc = 192 + j := ⟨pc - 192, by omega⟩
    exact List.all_eq_true.mp pi_r170_4 j (List.mem_range.mpr (by omega))
  simp only [pi_rowB, h, Bool.and_eq_true] at h1
  exact ⟨Nat.eq_of_beq_eq_true h1.1, pi_ok_of _ _ h1.2⟩
set_option maxRecDepth 100000 in
theorem pi_r171_0 : (List.range 48).all (fun j => pi_rowB 171 (0 + j) (pi_t171 (0 + j))) = true := by decide +kernel
set_option maxRecDepth 100000 in
theorem pi_r171_1 : (List.range 44).all (fun j => pi_rowB 171 (48 + j) (pi_t171 (48 + j))) = true := by decide +kernel
theorem pi_q171 {pc : Nat} {r : pi_Row} (h : pi_t171 pc = some r) : r.1 = pc ∧ pi_ok 171 r := by
  have hp : pc < 92 := by
    cases hx : Nat.blt pc 92 with
    | true => exact Nat.le_of_ble_eq_true hx
    | false =>
      unfold pi_t171 at h
      rw [hx] at h
      cases h
  have h1 : pi_rowB 171 pc (pi_t171 pc) = true := by
    by_cases c0 : pc < 48
    · obtain ⟨j, rfl⟩ : ∃ j, pc = 0 + j := ⟨pc - 0, by omega⟩
      exact List.all_eq_true.mp pi_r171_0 j (List.mem_range.mpr (by omega))
    obtain ⟨j, rfl⟩ : ∃ j, pc = 48 + j := ⟨pc - 48, by omega⟩
    exact List.all_eq_true.mp pi_r171_1 j (List.mem_range.mpr (by omega))
  simp only [pi_rowB, h, Bool.and_eq_true] at h1
  exact ⟨Nat.eq_of_beq_eq_true h1.1, pi_ok_of _ _ h1.2⟩
set_option maxRecDepth 100000 in
theorem pi_r172_0 : (List.range 20).all (fun j => pi_rowB 172 (0 + j) (pi_t172 (0 + j))) = true := by decide +kernel
theorem pi_q172 {pc : Nat} {r : pi_Row} (h : pi_t172 pc = some r) : r.1 = pc ∧ pi_ok 172 r := by
  have hp : pc < 20 := by
    cases hx : Nat.blt pc 20 with
    | true => exact Nat.le_of_ble_eq_true hx
    | false =>
      unfold pi_t172 at h
      rw [hx] at h
      cases h
  have h1 : pi_rowB 172 pc (pi_t172 pc) = true := by
    obtain ⟨j, rfl⟩ : ∃ j, pc = 0 + j := ⟨pc - 0, by omega⟩
    exact List.all_eq_true.mp pi_r172_0 j (List.mem_range.mpr (by omega))
  simp only [pi_rowB, h, Bool.and_eq_true] at h1
  exact ⟨Nat.eq_of_beq_eq_true h1.1, pi_ok_of _ _ h1.2⟩
set_option maxRecDepth 100000 in
theorem pi_r173_0 : (List.range 48).all (fun j => pi_rowB 173 (0 + j) (pi_t173 (0 + j))) = true := by decide +kernel
set_option maxRecDepth 100000 in
theorem pi_r173_1 : (List.range 47).all (fun j => pi_rowB 173 (48 + j) (pi_t173 (48 + j))) = true := by decide +kernel
theorem pi_q173 {pc : Nat} {r : pi_Row} (h : pi_t173 pc = some r) : r.1 = pc ∧ pi_ok 173 r := by
  have hp : pc < 95 := by
    cases hx : Nat.blt pc 95 with
    | true => exact Nat.le_of_ble_eq_true hx
    | false =>
      unfold pi_t173 at h
      rw [hx] at h
      cases h
  have h1 : pi_rowB 173 pc (pi_t173 pc) = true := by
    by_cases c0 : pc < 48
    · obtain ⟨j, rfl⟩ : ∃ j, pc = 0 + j := ⟨pc - 0, by omega⟩
      exact List.all_eq_true.mp pi_r173_0 j (List.mem_range.mpr (by omega))
    obtain ⟨j, rfl⟩ : ∃ j, pc = 48 + j := ⟨pc - 48, by omega⟩
    exact List.all_eq_true.mp pi_r173_1 j (List.mem_range.mpr (by omega))
  simp only [pi_rowB, h, Bool.and_eq_true] at h1
  exact ⟨Nat.eq_of_beq_eq_true h1.1, pi_ok_of _ _ h1.2⟩
set_option maxRecDepth 100000 in
theorem pi_r174_0 : (List.range 48).all (fun j => pi_rowB 174 (0 + j) (pi_t174 (0 + j))) = true := by decide +kernel
set_option maxRecDepth 100000 in
theorem pi_r174_1 : (List.range 48).all (fun j => pi_rowB 174 (48 + j) (pi_t174 (48 + j))) = true := by decide +kernel
set_option maxRecDepth 100000 in
theorem pi_r174_2 : (List.range 48).all (fun j => pi_rowB 174 (96 + j) (pi_t174 (96 + j))) = true := by decide +kernel
set_option maxRecDepth 100000 in
theorem pi_r174_3 : (List.range 48).all (fun j => pi_rowB 174 (144 + j) (pi_t174 (144 + j))) = true := by decide +kernel
set_option maxRecDepth 100000 in
theorem pi_r174_4 : (List.range 48).all (fun j => pi_rowB 174 (192 + j) (pi_t174 (192 + j))) = true := by decide +kernel
set_option maxRecDepth 100000 in
theorem pi_r174_5 : (List.range 48).all (fun j => pi_rowB 174 (240 + j) (pi_t174 (240 + j))) = true := by decide +kernel
set_option maxRecDepth 100000 in
theorem pi_r174_6 : (List.range 48).all (fun j => pi_rowB 174 (288 + j) (pi_t174 (288 + j))) = true := by decide +kernel
set_option maxRecDepth 100000 in
theorem pi_r174_7 : (List.range 48).all (fun j => pi_rowB 174 (336 + j) (pi_t174 (336 + j))) = true := by decide +kernel
set_option maxRecDepth 100000 in
theorem pi_r174_8 : (List.range 25).all (fun j => pi_rowB 174 (384 + j) (pi_t174 (384 + j))) = true := by decide +kernel
theorem pi_q174 {pc : Nat} {r : pi_Row} (h : pi_t174 pc = some r) : r.1 = pc ∧ pi_ok 174 r := by
  have hp : pc < 409 := by
    cases hx : Nat.blt pc 409 with
    | true => exact Nat.le_of_ble_eq_true hx
    | false =>
      unfold pi_t174 at h
      rw [hx] at h
      cases h
  have h1 : pi_rowB 174 pc (pi_t174 pc) = true := by
    by_cases c0 : pc < 48
    · obtain ⟨j, rfl⟩ : ∃ j, pc = 0 + j := ⟨pc - 0, by omega⟩
      exact List.all_eq_true.mp pi_r174_0 j (List.mem_range.mpr (by omega))
    by_cases c1 : pc < 96
    · obtain ⟨j, rfl⟩ : ∃ j, pc = 48 + j := ⟨pc - 48, by omega⟩
      exact List.all_eq_true.mp pi_r174_1 j (List.mem_range.mpr (by omega))
    by_cases c2 : pc < 144
    · obtain ⟨j, rfl⟩ : ∃ j, pc = 96 + j := ⟨pc - 96, by omega⟩
      exact List.all_eq_true.mp pi_r174_2 j (List.mem_range.mpr (by omega))
    by_cases c3 : pc < 192
    · obtain ⟨j, rfl⟩ : ∃ j, pc = 144 + j := ⟨pc - 144, by omega⟩
      exact List.all_eq_true.mp pi_r174_3 j (List.mem_range.mpr (by omega))
    by_cases c4 : pc < 240
    · obtain ⟨j, rfl⟩ : ∃ j, pc = 192 + j := ⟨pc - 192, by omega⟩
      exact List.all_eq_true.mp pi_r174_4 j (List.mem_range.mpr (by omega))
    by_cases c5 : pc < 288
    · obtain ⟨j, rfl⟩ : ∃ j, pc = 240 + j := ⟨pc - 240, by omega⟩
      exact List.all_eq_true.mp pi_r174_5 j (List.mem_range.mpr (by omega))
    by_cases c6 : pc < 336
    · obtain ⟨j, rfl⟩ : ∃ j, pc = 288 + j := ⟨pc - 288, by omega⟩
      exact List.all_eq_true.mp pi_r174_6 j (List.mem_range.mpr (by omega))
    by_cases c7 : pc < 384
    · obtain ⟨j, rfl⟩ : ∃ j, pc = 336 + j := ⟨pc - 336, by omega⟩
      exact List.all_eq_true.mp pi_r174_7 j (List.mem_range.mpr (by omega))
    obtain ⟨j, rfl⟩ : ∃ j, pc = 384 + j := ⟨pc - 384, by omega⟩
    exact List.all_eq_true.mp pi_r174_8 j (List.mem_range.mpr (by omega))
  simp only [pi_rowB, h, Bool.and_eq_true] at h1
  exact ⟨Nat.eq_of_beq_eq_true h1.1, pi_ok_of _ _ h1.2⟩
set_option maxRecDepth 100000 in
theorem pi_r175_0 : (List.range 48).all (fun j => pi_rowB 175 (0 + j) (pi_t175 (0 + j))) = true := by decide +kernel
set_option maxRecDepth 100000 in
theorem pi_r175_1 : (List.range 5).all (fun j => pi_rowB 175 (48 + j) (pi_t175 (48 + j))) = true := by decide +kernel
theorem pi_q175 {pc : Nat} {r : pi_Row} (h : pi_t175 pc = some r) : r.1 = pc ∧ pi_ok 175 r := by
  have hp : pc < 53 := by
    cases hx : Nat.blt pc 53 with
    | true => exact Nat.le_of_ble_eq_true hx
    | false =>
      unfold pi_t175 at h
      rw [hx] at h
      cases h
  have h1 : pi_rowB 175 pc (pi_t175 pc) = true := by
    by_cases c0 : pc < 48
    · obtain ⟨j, rfl⟩ : ∃ j, pc = 0 + j := ⟨pc - 0, by omega⟩
      exact List.all_eq_true.mp pi_r175_0 j (List.mem_range.mpr (by omega))
    obtain ⟨j, rfl⟩ : ∃ j, pc = 48 + j := ⟨pc - 48, by omega⟩
    exact List.all_eq_true.mp pi_r175_1 j (List.mem_range.mpr (by omega))
  simp only [pi_rowB, h, Bool.and_eq_true] at h1
  exact ⟨Nat.eq_of_beq_eq_true h1.1, pi_ok_of _ _ h1.2⟩
theorem pi_tb_ok {m pc : Nat} {r : pi_Row} (h : pi_tb m pc = some r) : r.1 = pc ∧ pi_ok m r := by
  have hm : m < 176 := by
    cases hx : Nat.blt m 176 with
    | true => exact Nat.le_of_ble_eq_true hx
    | false =>
      unfold pi_tb at h
      rw [hx] at h
      cases h
  match m, hm, h with
  | 0, _, h => exact pi_q0 h
  | 1, _, h => exact pi_q1 h
  | 2, _, h => exact pi_q2 h
  | 3, _, h => exact pi_q3 h
  | 4, _, h => exact pi_q4 h
  | 5, _, h => exact pi_q5 h
  | 6, _, h => exact pi_q6 h
  | 7, _, h => exact pi_q7 h
  | 8, _, h => exact pi_q8 h
  | 9, _, h => exact pi_q9 h
  | 10, _, h => exact pi_q10 h
  | 11, _, h => exact pi_q11 h
  | 12, _, h => exact pi_q12 h
  | 13, _, h => exact pi_q13 h
  | 14, _, h => exact pi_q14 h
  | 15, _, h => exact pi_q15 h
  | 16, _, h => exact pi_q16 h
  | 17, _, h => exact pi_q17 h
  | 18, _, h => exact pi_q18 h
  | 19, _, h => exact pi_q19 h
  | 20, _, h => exact pi_q20 h
  | 21, _, h => exact pi_q21 h
  | 22, _, h => exact pi_q22 h
  | 23, _, h => exact pi_q23 h
  | 24, _, h => exact pi_q24 h
  | 25, _, h => exact pi_q25 h
  | 26, _, h => exact pi_q26 h
  | 27, _, h => exact pi_q27 h
  | 28, _, h => exact pi_q28 h
  | 29, _, h => exact pi_q29 h
  | 30, _, h => exact pi_q30 h
  | 31, _, h => exact pi_q31 h
  | 32, _, h => exact pi_q32 h
  | 33, _, h => exact pi_q33 h
  | 34, _, h => exact pi_q34 h
  | 35, _, h => exact pi_q35 h
  | 36, _, h => exact pi_q36 h
  | 37, _, h => exact pi_q37 h
  | 38, _, h => exact pi_q38 h
  | 39, _, h => exact pi_q39 h
  | 40, _, h => exact pi_q40 h
  | 41, _, h => exact pi_q41 h
  | 42, _, h => exact pi_q42 h
  | 43, _, h => exact pi_q43 h
  | 44, _, h => exact pi_q44 h
  | 45, _, h => exact pi_q45 h
  | 46, _, h => exact pi_q46 h
  | 47, _, h => exact pi_q47 h
  | 48, _, h => exact pi_q48 h
  | 49, _, h => exact pi_q49 h
  | 50, _, h => exact pi_q50 h
  | 51, _, h => exact pi_q51 h
  | 52, _, h => exact pi_q52 h
  | 53, _, h => exact pi_q53 h
  | 54, _, h => exact pi_q54 h
  | 55, _, h => exact pi_q55 h
  | 56, _, h => exact pi_q56 h
  | 57, _, h => exact pi_q57 h
  | 58, _, h => exact pi_q58 h
  | 59, _, h => exact pi_q59 h
  | 60, _, h => exact pi_q60 h
  | 61, _, h => exact pi_q61 h
  | 62, _, h => exact pi_q62 h
  | 63, _, h => exact pi_q63 h
  | 64, _, h => exact pi_q64 h
  | 65, _, h => exact pi_q65 h
  | 66, _, h => exact pi_q66 h
  | 67, _, h => exact pi_q67 h
  | 68, _, h => exact pi_q68 h
  | 69, _, h => exact pi_q69 h
  | 70, _, h => exact pi_q70 h
  | 71, _, h => exact pi_q71 h
  | 72, _, h => exact pi_q72 h
  | 73, _, h => exact pi_q73 h
  | 74, _, h => exact pi_q74 h
  | 75, _, h => exact pi_q75 h
  | 76, _, h => exact pi_q76 h
  | 77, _, h => exact pi_q77 h
  | 78, _, h => exact pi_q78 h
  | 79, _, h => exact pi_q79 h
  | 80, _, h => exact pi_q80 h
  | 81, _, h => exact pi_q81 h
  | 82, _, h => exact pi_q82 h
  | 83, _, h => exact pi_q83 h
  | 84, _, h => exact pi_q84 h
  | 85, _, h => exact pi_q85 h
  | 86, _, h => exact pi_q86 h
  | 87, _, h => exact pi_q87 h
  | 88, _, h => exact pi_q88 h
  | 89, _, h => exact pi_q89 h
  | 90, _, h => exact pi_q90 h
  | 91, _, h => exact pi_q91 h
  | 92, _, h => exact pi_q92 h
  | 93, _, h => exact pi_q93 h
  | 94, _, h => exact pi_q94 h
  | 95, _, h => exact pi_q95 h
  | 96, _, h => exact pi_q96 h
  | 97, _, h => exact pi_q97 h
  | 98, _, h => exact pi_q98 h
  | 99, _, h => exact pi_q99 h
  | 100, _, h => exact pi_q100 h
  | 101, _, h => exact pi_q101 h
  | 102, _, h => exact pi_q102 h
  | 103, _, h => exact pi_q103 h
  | 104, _, h => exact pi_q104 h
  | 105, _, h => exact pi_q105 h
  | 106, _, h => exact pi_q106 h
  | 107, _, h => exact pi_q107 h
  | 108, _, h => exact pi_q108 h
  | 109, _, h => exact pi_q109 h
  | 110, _, h => exact pi_q110 h
  | 111, _, h => exact pi_q111 h
  | 112, _, h => exact pi_q112 h
  | 113, _, h => exact pi_q113 h
  | 114, _, h => exact pi_q114 h
  | 115, _, h => exact pi_q115 h
  | 116, _, h => exact pi_q116 h
  | 117, _, h => exact pi_q117 h
  | 118, _, h => exact pi_q118 h
  | 119, _, h => exact pi_q119 h
  | 120, _, h => exact pi_q120 h
  | 121, _, h => exact pi_q121 h
  | 122, _, h => exact pi_q122 h
  | 123, _, h => exact pi_q123 h
  | 124, _, h => exact pi_q124 h
  | 125, _, h => exact pi_q125 h
  | 126, _, h => exact pi_q126 h
  | 127, _, h => exact pi_q127 h
  | 128, _, h => exact pi_q128 h
  | 129, _, h => exact pi_q129 h
  | 130, _, h => exact pi_q130 h
  | 131, _, h => exact pi_q131 h
  | 132, _, h => exact pi_q132 h
  | 133, _, h => exact pi_q133 h
  | 134, _, h => exact pi_q134 h
  | 135, _, h => exact pi_q135 h
  | 136, _, h => exact pi_q136 h
  | 137, _, h => exact pi_q137 h
  | 138, _, h => exact pi_q138 h
  | 139, _, h => exact pi_q139 h
  | 140, _, h => exact pi_q140 h
  | 141, _, h => exact pi_q141 h
  | 142, _, h => exact pi_q142 h
  | 143, _, h => exact pi_q143 h
  | 144, _, h => exact pi_q144 h
  | 145, _, h => exact pi_q145 h
  | 146, _, h => exact pi_q146 h
  | 147, _, h => exact pi_q147 h
  | 148, _, h => exact pi_q148 h
  | 149, _, h => exact pi_q149 h
  | 150, _, h => exact pi_q150 h
  | 151, _, h => exact pi_q151 h
  | 152, _, h => exact pi_q152 h
  | 153, _, h => exact pi_q153 h
  | 154, _, h => exact pi_q154 h
  | 155, _, h => exact pi_q155 h
  | 156, _, h => exact pi_q156 h
  | 157, _, h => exact pi_q157 h
  | 158, _, h => exact pi_q158 h
  | 159, _, h => exact pi_q159 h
  | 160, _, h => exact pi_q160 h
  | 161, _, h => exact pi_q161 h
  | 162, _, h => exact pi_q162 h
  | 163, _, h => exact pi_q163 h
  | 164, _, h => exact pi_q164 h
  | 165, _, h => exact pi_q165 h
  | 166, _, h => exact pi_q166 h
  | 167, _, h => exact pi_q167 h
  | 168, _, h => exact pi_q168 h
  | 169, _, h => exact pi_q169 h
  | 170, _, h => exact pi_q170 h
  | 171, _, h => exact pi_q171 h
  | 172, _, h => exact pi_q172 h
  | 173, _, h => exact pi_q173 h
  | 174, _, h => exact pi_q174 h
  | 175, _, h => exact pi_q175 h
  | n + 176, hm, _ => exact absurd hm (by omega)
