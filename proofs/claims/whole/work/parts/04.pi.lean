/-! a pure machine over the two objects: a cell's numbers are σ (cell) (slot); what refers to what never changes -/
abbrev pi_S : Type := Nat → Nat → Int32
abbrev pi_L : Type := List (Option Value)
abbrev pi_O : Type := Option (Option Value × pi_S)
def pi_up (σ : pi_S) (i k : Nat) (x : Int32) : pi_S := fun a => if a = i then upd (σ a) k x else σ a
def pi_fv (σ : pi_S) (i k : Nat) : Value := match pi_rf i k with
  | 0 => .int (σ i k)
  | t + 1 => .ref t
def pi_den (ad : Nat → Nat) : Value → Value
  | .ref i => .ref (ad i)
  | v => v
def pi_dec (j : Int32) (n : Nat) : Decidable (vp_in j n) := inferInstanceAs (Decidable (¬ (j < 0 ∨ n ≤ j.toNatClampNeg)))
/-- the locals -/
def pi_long (o : Option (Option Value)) : Bool := match o with
  | some (some v) => Nat.beq v.category 2
  | _ => false
def pi_kill (l : pi_L) (i : Nat) : pi_L := match i with
  | 0 => l
  | k + 1 => cond (pi_long l[k]?) (l.set k none) l
def pi_st1 (l : pi_L) (i : Nat) (v : Value) : pi_L := (pi_kill l i).set i (some v)
def pi_st2 (l : pi_L) (i : Nat) (v : Value) : pi_L := ((pi_kill l i).set i (some v)).set (i + 1) none
def pi_ldi (l : pi_L) (i : Nat) (f : Int32 → pi_O) : pi_O := match l[i]? with
  | some (some (.int x)) => f x
  | _ => none
def pi_ldl (l : pi_L) (i : Nat) (f : Int64 → pi_O) : pi_O := match l[i]? with
  | some (some (.long x)) => f x
  | _ => none
def pi_lda (l : pi_L) (i : Nat) (f : Nat → pi_O) : pi_O := match l[i]? with
  | some (some (.ref x)) => f x
  | _ => none
/-- the stack -/
def pi_i1 (st : List Value) (f : Int32 → List Value → pi_O) : pi_O := match st with
  | .int x :: r => f x r
  | _ => none
def pi_i2 (st : List Value) (f : Int32 → Int32 → List Value → pi_O) : pi_O := match st with
  | .int y :: .int x :: r => f x y r
  | _ => none
def pi_l1 (st : List Value) (f : Int64 → List Value → pi_O) : pi_O := match st with
  | .long x :: r => f x r
  | _ => none
def pi_l2 (st : List Value) (f : Int64 → Int64 → List Value → pi_O) : pi_O := match st with
  | .long y :: .long x :: r => f x y r
  | _ => none
def pi_a1 (st : List Value) (f : Nat → List Value → pi_O) : pi_O := match st with
  | .ref x :: r => f x r
  | _ => none
def pi_cd (c : ClassFile.Cond) (x y : Int32) (a b : pi_O) : pi_O := match c with
  | .eq => if x = y then a else b
  | .ne => if x = y then b else a
  | .lt => if x < y then a else b
  | .ge => if y ≤ x then a else b
  | .gt => if y < x then a else b
  | .le => if x ≤ y then a else b
def pi_cat (st : List Value) : Nat := (st.map fun v => v.category).sum
def pi_sl (st : List Value) : pi_L := st.flatMap fun v => cond (Nat.beq v.category 2) [some v, none] [some v]
def pi_in0 (m : Nat) (As : List Value) : pi_L := pi_sl As ++ List.replicate (pi_ml m - (pi_sl As).length) none
/-- a call's end: the answer, if there is one, comes on the stack -/
def pi_bk (o : pi_O) (f : Option Value → pi_S → pi_O) : pi_O := match o with
  | some (v, σ) => f v σ
  | none => none
def pi_cpy (σ : pi_S) (s t i j n : Nat) : pi_S := fun a => if a = t then va_cpy (σ s) (σ t) i j n else σ a
def pi_ret (r : pi_Row) (st : List Value) : Option (Option Value) := match r with
  | (_, _, u, _, _, i) => match i, st with
    | .ireturn, [.int x] => cond (Nat.beq u 0) (some (some (.int x))) (if x &&& 1 = x then some (some (.int x)) else none)
    | .lreturn, [.long x] => some (some (.long x))
    | .areturn, [.ref x] => some (some (.ref x))
    | .return_, [] => some none
    | _, _ => none
/-- one instruction: a row of the tables, the locals, the stack, the numbers; K goes on, call calls -/
def pi_stp (xs : Nat → Int32) (L : Nat) (call : Nat → pi_L → pi_S → pi_O) (K : Nat → pi_L → List Value → pi_S → pi_O) (r : pi_Row) (l : pi_L) (st : List Value) (σ : pi_S) : pi_O := match r with
  | (pc, n, u, v, w, i) => match i with
    | .iconst z => K n l (.int (Int32.ofInt z) :: st) σ
    | .bipush z => K n l (.int (Int32.ofInt z) :: st) σ
    | .sipush z => K n l (.int (Int32.ofInt z) :: st) σ
    | .lconst z => K n l (.long (Int64.ofNat (z : Nat)) :: st) σ
    | .ldc_w _ => K n l (.int (Int32.ofNat u) :: st) σ
    | .ldc2_w _ => K n l (.long (Int64.ofNat u) :: st) σ
    | .iload_n k => pi_ldi l k.val fun x => K n l (.int x :: st) σ
    | .iload k => pi_ldi l k fun x => K n l (.int x :: st) σ
    | .lload_n k => pi_ldl l k.val fun x => K n l (.long x :: st) σ
    | .lload k => pi_ldl l k fun x => K n l (.long x :: st) σ
    | .aload_n k => pi_lda l k.val fun x => K n l (.ref x :: st) σ
    | .aload k => pi_lda l k fun x => K n l (.ref x :: st) σ
    | .istore_n k => pi_i1 st fun x t => K n (pi_st1 l k.val (.int x)) t σ
    | .istore k => pi_i1 st fun x t => K n (pi_st1 l k (.int x)) t σ
    | .lstore_n k => pi_l1 st fun x t => K n (pi_st2 l k.val (.long x)) t σ
    | .lstore k => pi_l1 st fun x t => K n (pi_st2 l k (.long x)) t σ
    | .astore_n k => pi_a1 st fun x t => K n (pi_st1 l k.val (.ref x)) t σ
    | .astore k => pi_a1 st fun x t => K n (pi_st1 l k (.ref x)) t σ
    | .iinc k _ => pi_ldi l k fun x => cond (Nat.beq w 0) (K n (pi_st1 l k (.int (x + nI u))) st σ) (K n (pi_st1 l k (.int (x - nI u))) st σ)
    | .iadd => pi_i2 st fun x y t => K n l (.int (x + y) :: t) σ
    | .isub => pi_i2 st fun x y t => K n l (.int (x - y) :: t) σ
    | .imul => pi_i2 st fun x y t => K n l (.int (x * y) :: t) σ
    | .iand => pi_i2 st fun x y t => K n l (.int (x &&& y) :: t) σ
    | .ior => pi_i2 st fun x y t => K n l (.int (x ||| y) :: t) σ
    | .ixor => pi_i2 st fun x y t => K n l (.int (x ^^^ y) :: t) σ
    | .ishl => pi_i2 st fun x y t => K n l (.int (x <<< (y &&& 31)) :: t) σ
    | .ishr => pi_i2 st fun x y t => K n l (.int (x >>> (y &&& 31)) :: t) σ
    | .iushr => pi_i2 st fun x y t => K n l (.int (x.toUInt32 >>> (y.toUInt32 &&& Int32.toUInt32 31)).toInt32 :: t) σ
    | .idiv => pi_i2 st fun x y t => if y = 0 then none else K n l (.int (x / y) :: t) σ
    | .irem => pi_i2 st fun x y t => if y = 0 then none else K n l (.int (x - x / y * y) :: t) σ
    | .ladd => pi_l2 st fun x y t => K n l (.long (x + y) :: t) σ
    | .lsub => pi_l2 st fun x y t => K n l (.long (x - y) :: t) σ
    | .lmul => pi_l2 st fun x y t => K n l (.long (x * y) :: t) σ
    | .ldiv => pi_l2 st fun x y t => if y = 0 then none else K n l (.long (x / y) :: t) σ
    | .lrem => pi_l2 st fun x y t => if y = 0 then none else K n l (.long (x - x / y * y) :: t) σ
    | .lcmp => pi_l2 st fun x y t => K n l (.int (lg_cmp x y) :: t) σ
    | .i2l => pi_i1 st fun x t => K n l (.long x.toInt64 :: t) σ
    | .i2b => pi_i1 st fun x t => K n l (.int x.toInt8.toInt32 :: t) σ
    | .i2s => pi_i1 st fun x t => K n l (.int x.toInt16.toInt32 :: t) σ
    | .dup => match st with
      | a :: t => cond (Nat.beq a.category 1) (K n l (a :: a :: t) σ) none
      | _ => none
    | .dup2 => match st with
      | a :: b :: t => cond (Nat.beq a.category 1 && Nat.beq b.category 1) (K n l (a :: b :: a :: b :: t) σ) none
      | _ => none
    | .goto _ => K u l st σ
    | .ifCond c _ => pi_i1 st fun x t => pi_cd c x 0 (K u l t σ) (K n l t σ)
    | .if_icmp c _ => pi_i2 st fun x y t => pi_cd c x y (K u l t σ) (K n l t σ)
    | .tableswitch dflt lo hi offs => pi_i1 st fun x t => if x.toInt < lo ∨ hi < x.toInt then (if 0 ≤ (pc : Int) + dflt then K ((pc : Int) + dflt).toNat l t σ else none) else match offs[(x.toInt - lo).toNat]? with
      | some off => if 0 ≤ (pc : Int) + off then K ((pc : Int) + off).toNat l t σ else none
      | none => none
    | .getfield _ => pi_a1 st fun a t => cond (Nat.beq (pi_sk a) u && Nat.blt v (pi_sn a)) (K n l (pi_fv σ a v :: t) σ) none
    | .putfield _ => pi_i1 st fun x t => pi_a1 t fun a t => cond (Nat.beq (pi_sk a) u && Nat.blt v (pi_sn a) && Nat.beq (pi_rf a v) 0) (cond (Nat.beq w 0) (K n l t (pi_up σ a v x)) (if x &&& 1 = x then K n l t (pi_up σ a v x) else none)) none
    | .iaload => pi_i1 st fun j t => pi_a1 t fun a t => cond (Nat.beq a 1000) (@ite _ (vp_in j L) (pi_dec j L) (K n l (.int (xs j.toNatClampNeg) :: t) σ) none) (cond (Nat.beq (pi_sk a) 11) (@ite _ (vp_in j (pi_sn a)) (pi_dec j (pi_sn a)) (K n l (.int (σ a j.toNatClampNeg) :: t) σ) none) none)
    | .baload => pi_i1 st fun j t => pi_a1 t fun a t => cond (Nat.beq (pi_sk a) 12) (@ite _ (vp_in j (pi_sn a)) (pi_dec j (pi_sn a)) (K n l (.int (σ a j.toNatClampNeg) :: t) σ) none) none
    | .aaload => pi_i1 st fun j t => pi_a1 t fun a t => cond (Nat.beq (pi_sk a) 13) (@ite _ (vp_in j (pi_sn a)) (pi_dec j (pi_sn a)) (K n l (.ref (pi_rf a j.toNatClampNeg - 1) :: t) σ) none) none
    | .arraylength => pi_a1 st fun a t => cond (Nat.beq a 1000) (K n l (.int (Int32.ofNat L) :: t) σ) (cond (Nat.beq (pi_sk a) 11) (K n l (.int (Int32.ofNat (pi_sn a)) :: t) σ) none)
    | .iastore => pi_i1 st fun x t => pi_i1 t fun j t => pi_a1 t fun a t => cond (Nat.beq (pi_sk a) 11) (@ite _ (vp_in j (pi_sn a)) (pi_dec j (pi_sn a)) (K n l t (pi_up σ a j.toNatClampNeg x)) none) none
    | .bastore => pi_i1 st fun x t => pi_i1 t fun j t => pi_a1 t fun a t => cond (Nat.beq (pi_sk a) 12) (@ite _ (vp_in j (pi_sn a)) (pi_dec j (pi_sn a)) (K n l t (pi_up σ a j.toNatClampNeg (vp_nar .boolean x))) none) none
    | .invokevirtual _ => cond (Nat.ble v st.length) (pi_a1 (st.drop v) fun a t => cond (Nat.beq (pi_sk a) w && Nat.ble (pi_cat t) 8 && Nat.ble (pi_sl (.ref a :: (st.take v).reverse)).length (pi_ml u)) (pi_bk (call u (pi_in0 u (.ref a :: (st.take v).reverse)) σ) fun x σ => K n l (x.toList ++ t) σ) none) none
    | .invokestatic _ => cond (Nat.beq w 2)
        (pi_i1 st fun k t => pi_i1 t fun j t => pi_a1 t fun b t => pi_i1 t fun i t => pi_a1 t fun a t => cond (Nat.beq (pi_sk a) 11 && Nat.beq (pi_sk b) 11 && Nat.ble (pi_cat t) 8)
          (if ¬ i < 0 ∧ ¬ j < 0 ∧ ¬ k < 0 ∧ i.toNatClampNeg + k.toNatClampNeg ≤ pi_sn a ∧ j.toNatClampNeg + k.toNatClampNeg ≤ pi_sn b then K n l t (pi_cpy σ a b i.toNatClampNeg j.toNatClampNeg k.toNatClampNeg) else none) none)
        (cond (Nat.beq w 3) (pi_i2 st fun x y t => cond (Nat.ble (pi_cat t) 8) (K n l (.int (if x < y then y else x) :: t) σ) none)
        (cond (Nat.beq w 4) (pi_i2 st fun x y t => cond (Nat.ble (pi_cat t) 8) (K n l (.int (if y < x then y else x) :: t) σ) none)
        (cond (Nat.ble v st.length && Nat.ble (pi_cat (st.drop v)) 8 && Nat.ble (pi_sl (st.take v).reverse).length (pi_ml u)) (pi_bk (call u (pi_in0 u (st.take v).reverse) σ) fun x σ => K n l (x.toList ++ st.drop v) σ) none)))
    | .ireturn => match st with
      | [.int x] => cond (Nat.beq u 0) (some (some (.int x), σ)) (if x &&& 1 = x then some (some (.int x), σ) else none)
      | _ => none
    | .lreturn => match st with
      | [.long x] => some (some (.long x), σ)
      | _ => none
    | .areturn => match st with
      | [.ref x] => some (some (.ref x), σ)
      | _ => none
    | .return_ => match st with
      | [] => some (none, σ)
      | _ => none
    | _ => none
def pi_run (xs : Nat → Int32) (L : Nat) : Nat → Nat → Nat → Nat → pi_L → List Value → pi_S → pi_O
  | 0, _, _, _, _, _, _ => none
  | f + 1, d, m, pc, l, st, σ => match pi_tb m pc with
    | none => none
    | some r => pi_stp xs L (fun m' l' σ' => match d with
        | 0 => none
        | d' + 1 => pi_run xs L f d' m' 0 l' [] σ') (fun pc' l' st' σ' => pi_run xs L f d m pc' l' st' σ') r l st σ
