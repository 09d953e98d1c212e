/-! the start: the world that the constructors leave, as the pure machine has it -/
set_option maxRecDepth 100000 in
def ci_w9 (cA : Nat → ClassId) (q1 : Nat) (u1 : Nat → Nat) : va_W := [(q1, .inr (9, [.ref (u1 0), .ref (u1 11), .ref (u1 15), .ref (u1 32), .ref (u1 36), .ref (u1 40), .ref (u1 46), .int (nI 0)])), ((u1 0), .inr (8, [.ref (u1 1), .ref (u1 3), .ref (u1 5), .ref (u1 6), .ref (u1 7), .ref (u1 8), .ref (u1 9), .ref (u1 10), .int (nI 0), .int (nI 0), .int (-1), .int (-1)])), ((u1 1), .inr (6, [.ref (u1 2), .int (nI 8), .int (nI 0)])), ((u1 2), .inl (cA 0, 40, .inl (fun _ => nI 0))), ((u1 3), .inr (6, [.ref (u1 4), .int (nI 40), .int (nI 0)])), ((u1 4), .inl (cA 0, 40, .inl (fun _ => nI 0))), ((u1 5), .inl (cA 0, 8, .inl (fun _ => nI 0))), ((u1 6), .inl (cA 0, 12, .inl (fun _ => nI 0))), ((u1 7), .inl (cA 0, 12, .inl (fun _ => nI 0))), ((u1 8), .inl (cA 0, 8, .inl (fun _ => nI 0))), ((u1 9), .inl (cA 0, 12, .inl (fun _ => nI 0))), ((u1 10), .inl (cA 0, 8, .inl (fun _ => nI 0))), ((u1 11), .inr (3, [.ref (u1 12), .ref (u1 13), .ref (u1 14), .int (nI 59)])), ((u1 12), .inl (cA 0, 5, .inl (upd (upd (upd (upd (upd (fun _ => nI 0) 0 (nI 1)) 1 (nI 2)) 2 (nI 3)) 3 (nI 4)) 4 (nI 5)))), ((u1 13), .inl (cA 0, 8, .inl (upd (upd (upd (upd (upd (upd (upd (upd (fun _ => nI 0) 0 (nI 99)) 1 (nI 99)) 2 (nI 99)) 3 (nI 99)) 4 (nI 99)) 5 (nI 99)) 6 (nI 99)) 7 (nI 99)))), ((u1 14), .inl (cA 0, 8, .inl (upd (upd (upd (upd (upd (upd (upd (upd (fun _ => nI 0) 0 (nI 1)) 1 (nI 1)) 2 (nI 1)) 3 (nI 1)) 4 (nI 1)) 5 (nI 1)) 6 (nI 1)) 7 (nI 1)))), ((u1 15), .inr (7, [.ref (u1 16), .ref (u1 21), .ref (u1 26), .ref (u1 31)])), ((u1 16), .inr (0, [.ref (u1 17), .ref (u1 18), .ref (u1 19), .ref (u1 20), .int (nI 20), .int (nI 0)])), ((u1 17), .inl (cA 0, 24, .inl (fun _ => nI 0))), ((u1 18), .inl (cA 0, 24, .inl (fun _ => nI 0))), ((u1 19), .inl (cA 0, 24, .inl (fun _ => nI 0))), ((u1 20), .inl (cA 0, 24, .inl (fun _ => nI 0))), ((u1 21), .inr (0, [.ref (u1 22), .ref (u1 23), .ref (u1 24), .ref (u1 25), .int (nI 24), .int (nI 0)])), ((u1 22), .inl (cA 0, 24, .inl (fun _ => nI 0))), ((u1 23), .inl (cA 0, 24, .inl (fun _ => nI 0))), ((u1 24), .inl (cA 0, 24, .inl (fun _ => nI 0))), ((u1 25), .inl (cA 0, 24, .inl (fun _ => nI 0))), ((u1 26), .inr (0, [.ref (u1 27), .ref (u1 28), .ref (u1 29), .ref (u1 30), .int (nI 8), .int (nI 0)])), ((u1 27), .inl (cA 0, 24, .inl (fun _ => nI 0))), ((u1 28), .inl (cA 0, 24, .inl (fun _ => nI 0))), ((u1 29), .inl (cA 0, 24, .inl (fun _ => nI 0))), ((u1 30), .inl (cA 0, 24, .inl (fun _ => nI 0))), ((u1 31), .inl (cA 0, 60, .inl (fun _ => nI 0))), ((u1 32), .inr (1, [.ref (u1 0), .ref (u1 11), .ref (u1 15), .ref (u1 33), .int (-1), .int (-1), .int (nI 0), .int (-1), .int (-1), .int (-1), .int (-1)])), ((u1 33), .inr (2, [.ref (u1 34), .ref (u1 35)])), ((u1 34), .inl (cA 0, 40, .inl (fun _ => nI 0))), ((u1 35), .inl (cA 0, 40, .inl (fun _ => nI 0))), ((u1 36), .inr (1, [.ref (u1 0), .ref (u1 11), .ref (u1 15), .ref (u1 37), .int (-1), .int (-1), .int (nI 0), .int (-1), .int (-1), .int (-1), .int (-1)])), ((u1 37), .inr (2, [.ref (u1 38), .ref (u1 39)])), ((u1 38), .inl (cA 0, 40, .inl (fun _ => nI 0))), ((u1 39), .inl (cA 0, 40, .inl (fun _ => nI 0))), ((u1 40), .inr (4, [.ref (u1 0), .ref (u1 11), .ref (u1 41), .ref (u1 42), .ref (u1 43), .ref (u1 44), .ref (u1 45), .int (nI 0), .int (nI 0), .int (nI 0)])), ((u1 41), .inl (cA 0, 8, .inl (fun _ => nI 0))), ((u1 42), .inl (cA 0, 8, .inl (fun _ => nI 0))), ((u1 43), .inl (cA 1, 8, .inl (fun _ => nI 0))), ((u1 44), .inl (cA 0, 3, .inl (fun _ => nI 0))), ((u1 45), .inl (cA 0, 3, .inl (fun _ => nI 0))), ((u1 46), .inl (cA 2, 4, .inr (.inr (.inr (.inr (va_up (va_up (va_up (va_up (fun _ => none) 0 (some (u1 47))) 1 (some (u1 49))) 2 (some (u1 51))) 3 (some (u1 53)))))))), ((u1 47), .inr (5, [.ref (u1 48), .int (nI 0), .int (-1)])), ((u1 48), .inl (cA 0, 48, .inl (fun _ => nI 0))), ((u1 49), .inr (5, [.ref (u1 50), .int (nI 0), .int (-1)])), ((u1 50), .inl (cA 0, 48, .inl (fun _ => nI 0))), ((u1 51), .inr (5, [.ref (u1 52), .int (nI 0), .int (-1)])), ((u1 52), .inl (cA 0, 48, .inl (fun _ => nI 0))), ((u1 53), .inr (5, [.ref (u1 54), .int (nI 0), .int (-1)])), ((u1 54), .inl (cA 0, 48, .inl (fun _ => nI 0)))]
set_option maxRecDepth 100000 in
def ci_w10 (cA : Nat → ClassId) (q2 : Nat) (u2 : Nat → Nat) : va_W := [(q2, .inr (10, [.ref (u2 0), .ref (u2 1), .int (nI 0), .ref (u2 2), .int (nI 0), .ref (u2 3), .ref (u2 4), .ref (u2 5), .ref (u2 6), .ref (u2 7), .int (nI 59), .int (nI 0), .ref (u2 8), .ref (u2 9), .ref (u2 10), .ref (u2 11), .int (nI 0), .ref (u2 12), .ref (u2 13), .int (nI 0), .ref (u2 14), .ref (u2 15), .ref (u2 16), .ref (u2 17), .ref (u2 18), .int (nI 0), .int (nI 0), .ref (u2 19), .int (nI 0), .ref (u2 20), .ref (u2 21), .ref (u2 22), .ref (u2 23), .ref (u2 24), .int (nI 0)])), ((u2 0), .inl (cA 0, 2, .inl (fun _ => nI 0))), ((u2 1), .inl (cA 0, 80, .inl (fun _ => nI 0))), ((u2 2), .inl (cA 0, 8, .inl (fun _ => nI 0))), ((u2 3), .inl (cA 0, 12, .inl (fun _ => nI 0))), ((u2 4), .inl (cA 0, 12, .inl (fun _ => nI 0))), ((u2 5), .inl (cA 0, 5, .inl (upd (upd (upd (upd (upd (fun _ => nI 0) 0 (nI 1)) 1 (nI 2)) 2 (nI 3)) 3 (nI 4)) 4 (nI 5)))), ((u2 6), .inl (cA 0, 8, .inl (upd (upd (upd (upd (upd (upd (upd (upd (fun _ => nI 0) 0 (nI 99)) 1 (nI 99)) 2 (nI 99)) 3 (nI 99)) 4 (nI 99)) 5 (nI 99)) 6 (nI 99)) 7 (nI 99)))), ((u2 7), .inl (cA 0, 8, .inl (upd (upd (upd (upd (upd (upd (upd (upd (fun _ => nI 0) 0 (nI 1)) 1 (nI 1)) 2 (nI 1)) 3 (nI 1)) 4 (nI 1)) 5 (nI 1)) 6 (nI 1)) 7 (nI 1)))), ((u2 8), .inl (cA 0, 21, .inl (fun _ => nI 0))), ((u2 9), .inl (cA 0, 21, .inl (fun _ => nI 0))), ((u2 10), .inl (cA 0, 21, .inl (fun _ => nI 0))), ((u2 11), .inl (cA 0, 21, .inl (fun _ => nI 0))), ((u2 12), .inl (cA 0, 24, .inl (fun _ => nI 0))), ((u2 13), .inl (cA 0, 24, .inl (fun _ => nI 0))), ((u2 14), .inl (cA 0, 8, .inl (fun _ => nI 0))), ((u2 15), .inl (cA 0, 8, .inl (fun _ => nI 0))), ((u2 16), .inl (cA 0, 60, .inl (fun _ => nI 0))), ((u2 17), .inl (cA 0, 40, .inl (fun _ => nI 0))), ((u2 18), .inl (cA 0, 40, .inl (fun _ => nI 0))), ((u2 19), .inl (cA 0, 3, .inl (fun _ => nI 0))), ((u2 20), .inl (cA 1, 4, .inl (fun _ => nI 0))), ((u2 21), .inl (cA 0, 4, .inl (fun _ => nI 0))), ((u2 22), .inl (cA 0, 4, .inl (fun _ => nI 0))), ((u2 23), .inl (cA 0, 192, .inl (fun _ => nI 0))), ((u2 24), .inl (cA 0, 48, .inl (fun _ => nI 0)))]
set_option maxRecDepth 100000 in
def ci_f0 : Nat → Int32 := fun k => ([nI 0, nI 0, nI 0, nI 0, nI 0, nI 0, nI 0, nI 0] : List Int32).getD k (nI 0)
set_option maxRecDepth 100000 in
def ci_f1 : Nat → Int32 := fun k => ([nI 0, nI 0, nI 0, nI 0, nI 0, nI 0, nI 0, nI 0, nI 0, nI 0, (-1), (-1)] : List Int32).getD k (nI 0)
set_option maxRecDepth 100000 in
def ci_f2 : Nat → Int32 := fun k => ([nI 0, nI 8, nI 0] : List Int32).getD k (nI 0)
set_option maxRecDepth 100000 in
def ci_f3 : Nat → Int32 := fun _ => nI 0
set_option maxRecDepth 100000 in
def ci_f4 : Nat → Int32 := fun k => ([nI 0, nI 40, nI 0] : List Int32).getD k (nI 0)
set_option maxRecDepth 100000 in
def ci_f5 : Nat → Int32 := fun _ => nI 0
set_option maxRecDepth 100000 in
def ci_f6 : Nat → Int32 := fun _ => nI 0
set_option maxRecDepth 100000 in
def ci_f7 : Nat → Int32 := fun _ => nI 0
set_option maxRecDepth 100000 in
def ci_f8 : Nat → Int32 := fun _ => nI 0
set_option maxRecDepth 100000 in
def ci_f9 : Nat → Int32 := fun _ => nI 0
set_option maxRecDepth 100000 in
def ci_f10 : Nat → Int32 := fun _ => nI 0
set_option maxRecDepth 100000 in
def ci_f11 : Nat → Int32 := fun _ => nI 0
set_option maxRecDepth 100000 in
def ci_f12 : Nat → Int32 := fun k => ([nI 0, nI 0, nI 0, nI 59] : List Int32).getD k (nI 0)
set_option maxRecDepth 100000 in
def ci_f13 : Nat → Int32 := upd (upd (upd (upd (upd (fun _ => nI 0) 0 (nI 1)) 1 (nI 2)) 2 (nI 3)) 3 (nI 4)) 4 (nI 5)
set_option maxRecDepth 100000 in
def ci_f14 : Nat → Int32 := upd (upd (upd (upd (upd (upd (upd (upd (fun _ => nI 0) 0 (nI 99)) 1 (nI 99)) 2 (nI 99)) 3 (nI 99)) 4 (nI 99)) 5 (nI 99)) 6 (nI 99)) 7 (nI 99)
set_option maxRecDepth 100000 in
def ci_f15 : Nat → Int32 := upd (upd (upd (upd (upd (upd (upd (upd (fun _ => nI 0) 0 (nI 1)) 1 (nI 1)) 2 (nI 1)) 3 (nI 1)) 4 (nI 1)) 5 (nI 1)) 6 (nI 1)) 7 (nI 1)
set_option maxRecDepth 100000 in
def ci_f16 : Nat → Int32 := fun k => ([nI 0, nI 0, nI 0, nI 0] : List Int32).getD k (nI 0)
set_option maxRecDepth 100000 in
def ci_f17 : Nat → Int32 := fun k => ([nI 0, nI 0, nI 0, nI 0, nI 20, nI 0] : List Int32).getD k (nI 0)
set_option maxRecDepth 100000 in
def ci_f18 : Nat → Int32 := fun _ => nI 0
set_option maxRecDepth 100000 in
def ci_f19 : Nat → Int32 := fun _ => nI 0
set_option maxRecDepth 100000 in
def ci_f20 : Nat → Int32 := fun _ => nI 0
set_option maxRecDepth 100000 in
def ci_f21 : Nat → Int32 := fun _ => nI 0
set_option maxRecDepth 100000 in
def ci_f22 : Nat → Int32 := fun k => ([nI 0, nI 0, nI 0, nI 0, nI 24, nI 0] : List Int32).getD k (nI 0)
set_option maxRecDepth 100000 in
def ci_f23 : Nat → Int32 := fun _ => nI 0
set_option maxRecDepth 100000 in
def ci_f24 : Nat → Int32 := fun _ => nI 0
set_option maxRecDepth 100000 in
def ci_f25 : Nat → Int32 := fun _ => nI 0
set_option maxRecDepth 100000 in
def ci_f26 : Nat → Int32 := fun _ => nI 0
set_option maxRecDepth 100000 in
def ci_f27 : Nat → Int32 := fun k => ([nI 0, nI 0, nI 0, nI 0, nI 8, nI 0] : List Int32).getD k (nI 0)
set_option maxRecDepth 100000 in
def ci_f28 : Nat → Int32 := fun _ => nI 0
set_option maxRecDepth 100000 in
def ci_f29 : Nat → Int32 := fun _ => nI 0
set_option maxRecDepth 100000 in
def ci_f30 : Nat → Int32 := fun _ => nI 0
set_option maxRecDepth 100000 in
def ci_f31 : Nat → Int32 := fun _ => nI 0
set_option maxRecDepth 100000 in
def ci_f32 : Nat → Int32 := fun _ => nI 0
set_option maxRecDepth 100000 in
def ci_f33 : Nat → Int32 := fun k => ([nI 0, nI 0, nI 0, nI 0, (-1), (-1), nI 0, (-1), (-1), (-1), (-1)] : List Int32).getD k (nI 0)
set_option maxRecDepth 100000 in
def ci_f34 : Nat → Int32 := fun k => ([nI 0, nI 0] : List Int32).getD k (nI 0)
set_option maxRecDepth 100000 in
def ci_f35 : Nat → Int32 := fun _ => nI 0
set_option maxRecDepth 100000 in
def ci_f36 : Nat → Int32 := fun _ => nI 0
set_option maxRecDepth 100000 in
def ci_f37 : Nat → Int32 := fun k => ([nI 0, nI 0, nI 0, nI 0, (-1), (-1), nI 0, (-1), (-1), (-1), (-1)] : List Int32).getD k (nI 0)
set_option maxRecDepth 100000 in
def ci_f38 : Nat → Int32 := fun k => ([nI 0, nI 0] : List Int32).getD k (nI 0)
set_option maxRecDepth 100000 in
def ci_f39 : Nat → Int32 := fun _ => nI 0
set_option maxRecDepth 100000 in
def ci_f40 : Nat → Int32 := fun _ => nI 0
set_option maxRecDepth 100000 in
def ci_f41 : Nat → Int32 := fun k => ([nI 0, nI 0, nI 0, nI 0, nI 0, nI 0, nI 0, nI 0, nI 0, nI 0] : List Int32).getD k (nI 0)
set_option maxRecDepth 100000 in
def ci_f42 : Nat → Int32 := fun _ => nI 0
set_option maxRecDepth 100000 in
def ci_f43 : Nat → Int32 := fun _ => nI 0
set_option maxRecDepth 100000 in
def ci_f44 : Nat → Int32 := fun _ => nI 0
set_option maxRecDepth 100000 in
def ci_f45 : Nat → Int32 := fun _ => nI 0
set_option maxRecDepth 100000 in
def ci_f46 : Nat → Int32 := fun _ => nI 0
set_option maxRecDepth 100000 in
def ci_f47 : Nat → Int32 := fun _ => nI 0
set_option maxRecDepth 100000 in
def ci_f48 : Nat → Int32 := fun k => ([nI 0, nI 0, (-1)] : List Int32).getD k (nI 0)
set_option maxRecDepth 100000 in
def ci_f49 : Nat → Int32 := fun _ => nI 0
set_option maxRecDepth 100000 in
def ci_f50 : Nat → Int32 := fun k => ([nI 0, nI 0, (-1)] : List Int32).getD k (nI 0)
set_option maxRecDepth 100000 in
def ci_f51 : Nat → Int32 := fun _ => nI 0
set_option maxRecDepth 100000 in
def ci_f52 : Nat → Int32 := fun k => ([nI 0, nI 0, (-1)] : List Int32).getD k (nI 0)
set_option maxRecDepth 100000 in
def ci_f53 : Nat → Int32 := fun _ => nI 0
set_option maxRecDepth 100000 in
def ci_f54 : Nat → Int32 := fun k => ([nI 0, nI 0, (-1)] : List Int32).getD k (nI 0)
set_option maxRecDepth 100000 in
def ci_f55 : Nat → Int32 := fun _ => nI 0
set_option maxRecDepth 100000 in
def ci_f56 : Nat → Int32 := fun k => ([nI 0, nI 0, nI 0, nI 0, nI 0, nI 0, nI 0, nI 0, nI 0, nI 0, nI 59, nI 0, nI 0, nI 0, nI 0, nI 0, nI 0, nI 0, nI 0, nI 0, nI 0, nI 0, nI 0, nI 0, nI 0, nI 0, nI 0, nI 0, nI 0, nI 0, nI 0, nI 0, nI 0, nI 0, nI 0] : List Int32).getD k (nI 0)
set_option maxRecDepth 100000 in
def ci_f57 : Nat → Int32 := fun _ => nI 0
set_option maxRecDepth 100000 in
def ci_f58 : Nat → Int32 := fun _ => nI 0
set_option maxRecDepth 100000 in
def ci_f59 : Nat → Int32 := fun _ => nI 0
set_option maxRecDepth 100000 in
def ci_f60 : Nat → Int32 := fun _ => nI 0
set_option maxRecDepth 100000 in
def ci_f61 : Nat → Int32 := fun _ => nI 0
set_option maxRecDepth 100000 in
def ci_f62 : Nat → Int32 := upd (upd (upd (upd (upd (fun _ => nI 0) 0 (nI 1)) 1 (nI 2)) 2 (nI 3)) 3 (nI 4)) 4 (nI 5)
set_option maxRecDepth 100000 in
def ci_f63 : Nat → Int32 := upd (upd (upd (upd (upd (upd (upd (upd (fun _ => nI 0) 0 (nI 99)) 1 (nI 99)) 2 (nI 99)) 3 (nI 99)) 4 (nI 99)) 5 (nI 99)) 6 (nI 99)) 7 (nI 99)
set_option maxRecDepth 100000 in
def ci_f64 : Nat → Int32 := upd (upd (upd (upd (upd (upd (upd (upd (fun _ => nI 0) 0 (nI 1)) 1 (nI 1)) 2 (nI 1)) 3 (nI 1)) 4 (nI 1)) 5 (nI 1)) 6 (nI 1)) 7 (nI 1)
set_option maxRecDepth 100000 in
def ci_f65 : Nat → Int32 := fun _ => nI 0
set_option maxRecDepth 100000 in
def ci_f66 : Nat → Int32 := fun _ => nI 0
set_option maxRecDepth 100000 in
def ci_f67 : Nat → Int32 := fun _ => nI 0
set_option maxRecDepth 100000 in
def ci_f68 : Nat → Int32 := fun _ => nI 0
set_option maxRecDepth 100000 in
def ci_f69 : Nat → Int32 := fun _ => nI 0
set_option maxRecDepth 100000 in
def ci_f70 : Nat → Int32 := fun _ => nI 0
set_option maxRecDepth 100000 in
def ci_f71 : Nat → Int32 := fun _ => nI 0
set_option maxRecDepth 100000 in
def ci_f72 : Nat → Int32 := fun _ => nI 0
set_option maxRecDepth 100000 in
def ci_f73 : Nat → Int32 := fun _ => nI 0
set_option maxRecDepth 100000 in
def ci_f74 : Nat → Int32 := fun _ => nI 0
set_option maxRecDepth 100000 in
def ci_f75 : Nat → Int32 := fun _ => nI 0
set_option maxRecDepth 100000 in
def ci_f76 : Nat → Int32 := fun _ => nI 0
set_option maxRecDepth 100000 in
def ci_f77 : Nat → Int32 := fun _ => nI 0
set_option maxRecDepth 100000 in
def ci_f78 : Nat → Int32 := fun _ => nI 0
set_option maxRecDepth 100000 in
def ci_f79 : Nat → Int32 := fun _ => nI 0
set_option maxRecDepth 100000 in
def ci_f80 : Nat → Int32 := fun _ => nI 0
set_option maxRecDepth 100000 in
def ci_f81 : Nat → Int32 := fun _ => nI 0
set_option maxRecDepth 100000 in
def ci_s0 : pi_S := fun i => cond (Nat.blt i 41) (cond (Nat.blt i 20) (cond (Nat.blt i 10) (cond (Nat.blt i 5) (cond (Nat.blt i 2) (cond (Nat.blt i 1) (ci_f0) (ci_f1)) (cond (Nat.blt i 3) (ci_f2) (cond (Nat.blt i 4) (ci_f3) (ci_f4)))) (cond (Nat.blt i 7) (cond (Nat.blt i 6) (ci_f5) (ci_f6)) (cond (Nat.blt i 8) (ci_f7) (cond (Nat.blt i 9) (ci_f8) (ci_f9))))) (cond (Nat.blt i 15) (cond (Nat.blt i 12) (cond (Nat.blt i 11) (ci_f10) (ci_f11)) (cond (Nat.blt i 13) (ci_f12) (cond (Nat.blt i 14) (ci_f13) (ci_f14)))) (cond (Nat.blt i 17) (cond (Nat.blt i 16) (ci_f15) (ci_f16)) (cond (Nat.blt i 18) (ci_f17) (cond (Nat.blt i 19) (ci_f18) (ci_f19)))))) (cond (Nat.blt i 30) (cond (Nat.blt i 25) (cond (Nat.blt i 22) (cond (Nat.blt i 21) (ci_f20) (ci_f21)) (cond (Nat.blt i 23) (ci_f22) (cond (Nat.blt i 24) (ci_f23) (ci_f24)))) (cond (Nat.blt i 27) (cond (Nat.blt i 26) (ci_f25) (ci_f26)) (cond (Nat.blt i 28) (ci_f27) (cond (Nat.blt i 29) (ci_f28) (ci_f29))))) (cond (Nat.blt i 35) (cond (Nat.blt i 32) (cond (Nat.blt i 31) (ci_f30) (ci_f31)) (cond (Nat.blt i 33) (ci_f32) (cond (Nat.blt i 34) (ci_f33) (ci_f34)))) (cond (Nat.blt i 38) (cond (Nat.blt i 36) (ci_f35) (cond (Nat.blt i 37) (ci_f36) (ci_f37))) (cond (Nat.blt i 39) (ci_f38) (cond (Nat.blt i 40) (ci_f39) (ci_f40))))))) (cond (Nat.blt i 61) (cond (Nat.blt i 51) (cond (Nat.blt i 46) (cond (Nat.blt i 43) (cond (Nat.blt i 42) (ci_f41) (ci_f42)) (cond (Nat.blt i 44) (ci_f43) (cond (Nat.blt i 45) (ci_f44) (ci_f45)))) (cond (Nat.blt i 48) (cond (Nat.blt i 47) (ci_f46) (ci_f47)) (cond (Nat.blt i 49) (ci_f48) (cond (Nat.blt i 50) (ci_f49) (ci_f50))))) (cond (Nat.blt i 56) (cond (Nat.blt i 53) (cond (Nat.blt i 52) (ci_f51) (ci_f52)) (cond (Nat.blt i 54) (ci_f53) (cond (Nat.blt i 55) (ci_f54) (ci_f55)))) (cond (Nat.blt i 58) (cond (Nat.blt i 57) (ci_f56) (ci_f57)) (cond (Nat.blt i 59) (ci_f58) (cond (Nat.blt i 60) (ci_f59) (ci_f60)))))) (cond (Nat.blt i 71) (cond (Nat.blt i 66) (cond (Nat.blt i 63) (cond (Nat.blt i 62) (ci_f61) (ci_f62)) (cond (Nat.blt i 64) (ci_f63) (cond (Nat.blt i 65) (ci_f64) (ci_f65)))) (cond (Nat.blt i 68) (cond (Nat.blt i 67) (ci_f66) (ci_f67)) (cond (Nat.blt i 69) (ci_f68) (cond (Nat.blt i 70) (ci_f69) (ci_f70))))) (cond (Nat.blt i 76) (cond (Nat.blt i 73) (cond (Nat.blt i 72) (ci_f71) (ci_f72)) (cond (Nat.blt i 74) (ci_f73) (cond (Nat.blt i 75) (ci_f74) (ci_f75)))) (cond (Nat.blt i 79) (cond (Nat.blt i 77) (ci_f76) (cond (Nat.blt i 78) (ci_f77) (ci_f78))) (cond (Nat.blt i 80) (ci_f79) (cond (Nat.blt i 81) (ci_f80) (ci_f81)))))))
set_option maxRecDepth 100000 in
def ci_ad (b q1 : Nat) (u1 : Nat → Nat) (q2 : Nat) (u2 : Nat → Nat) : Nat → Nat := fun i => cond (Nat.blt i 82) (cond (Nat.blt i 41) (cond (Nat.blt i 20) (cond (Nat.blt i 10) (cond (Nat.blt i 5) (cond (Nat.blt i 2) (cond (Nat.blt i 1) (q1) ((u1 0))) (cond (Nat.blt i 3) ((u1 1)) (cond (Nat.blt i 4) ((u1 2)) ((u1 3))))) (cond (Nat.blt i 7) (cond (Nat.blt i 6) ((u1 4)) ((u1 5))) (cond (Nat.blt i 8) ((u1 6)) (cond (Nat.blt i 9) ((u1 7)) ((u1 8)))))) (cond (Nat.blt i 15) (cond (Nat.blt i 12) (cond (Nat.blt i 11) ((u1 9)) ((u1 10))) (cond (Nat.blt i 13) ((u1 11)) (cond (Nat.blt i 14) ((u1 12)) ((u1 13))))) (cond (Nat.blt i 17) (cond (Nat.blt i 16) ((u1 14)) ((u1 15))) (cond (Nat.blt i 18) ((u1 16)) (cond (Nat.blt i 19) ((u1 17)) ((u1 18))))))) (cond (Nat.blt i 30) (cond (Nat.blt i 25) (cond (Nat.blt i 22) (cond (Nat.blt i 21) ((u1 19)) ((u1 20))) (cond (Nat.blt i 23) ((u1 21)) (cond (Nat.blt i 24) ((u1 22)) ((u1 23))))) (cond (Nat.blt i 27) (cond (Nat.blt i 26) ((u1 24)) ((u1 25))) (cond (Nat.blt i 28) ((u1 26)) (cond (Nat.blt i 29) ((u1 27)) ((u1 28)))))) (cond (Nat.blt i 35) (cond (Nat.blt i 32) (cond (Nat.blt i 31) ((u1 29)) ((u1 30))) (cond (Nat.blt i 33) ((u1 31)) (cond (Nat.blt i 34) ((u1 32)) ((u1 33))))) (cond (Nat.blt i 38) (cond (Nat.blt i 36) ((u1 34)) (cond (Nat.blt i 37) ((u1 35)) ((u1 36)))) (cond (Nat.blt i 39) ((u1 37)) (cond (Nat.blt i 40) ((u1 38)) ((u1 39)))))))) (cond (Nat.blt i 61) (cond (Nat.blt i 51) (cond (Nat.blt i 46) (cond (Nat.blt i 43) (cond (Nat.blt i 42) ((u1 40)) ((u1 41))) (cond (Nat.blt i 44) ((u1 42)) (cond (Nat.blt i 45) ((u1 43)) ((u1 44))))) (cond (Nat.blt i 48) (cond (Nat.blt i 47) ((u1 45)) ((u1 46))) (cond (Nat.blt i 49) ((u1 47)) (cond (Nat.blt i 50) ((u1 48)) ((u1 49)))))) (cond (Nat.blt i 56) (cond (Nat.blt i 53) (cond (Nat.blt i 52) ((u1 50)) ((u1 51))) (cond (Nat.blt i 54) ((u1 52)) (cond (Nat.blt i 55) ((u1 53)) ((u1 54))))) (cond (Nat.blt i 58) (cond (Nat.blt i 57) (q2) ((u2 0))) (cond (Nat.blt i 59) ((u2 1)) (cond (Nat.blt i 60) ((u2 2)) ((u2 3))))))) (cond (Nat.blt i 71) (cond (Nat.blt i 66) (cond (Nat.blt i 63) (cond (Nat.blt i 62) ((u2 4)) ((u2 5))) (cond (Nat.blt i 64) ((u2 6)) (cond (Nat.blt i 65) ((u2 7)) ((u2 8))))) (cond (Nat.blt i 68) (cond (Nat.blt i 67) ((u2 9)) ((u2 10))) (cond (Nat.blt i 69) ((u2 11)) (cond (Nat.blt i 70) ((u2 12)) ((u2 13)))))) (cond (Nat.blt i 76) (cond (Nat.blt i 73) (cond (Nat.blt i 72) ((u2 14)) ((u2 15))) (cond (Nat.blt i 74) ((u2 16)) (cond (Nat.blt i 75) ((u2 17)) ((u2 18))))) (cond (Nat.blt i 79) (cond (Nat.blt i 77) ((u2 19)) (cond (Nat.blt i 78) ((u2 20)) ((u2 21)))) (cond (Nat.blt i 80) ((u2 22)) (cond (Nat.blt i 81) ((u2 23)) ((u2 24))))))))) b
set_option maxRecDepth 100000 in
theorem ci_qc {cA : ClassId} {n : Nat} {f g : Nat → Option Nat} (h : ∀ j, j < n → f j = g j) : vp_cell cA (n, .inr (.inr (.inr (.inr f)))) = vp_cell cA (n, .inr (.inr (.inr (.inr g)))) := by
  rw [vp_cell_q, vp_cell_q]
  unfold arrV
  congr 1
  congr 1
  funext j
  show va_rf (f j.val) = va_rf (g j.val)
  rw [h j.val j.isLt]
set_option maxRecDepth 100000 in
theorem ci_e0 (cA : Nat → ClassId) (b q1 : Nat) (u1 : Nat → Nat) (q2 : Nat) (u2 : Nat → Nat) : (ci_w9 cA q1 u1 ++ ci_w10 cA q2 u2)[0]? = some ((ci_ad b q1 u1 q2 u2) 0, pi_E cA (ci_ad b q1 u1 q2 u2) ci_s0 0) := rfl
set_option maxRecDepth 100000 in
theorem ci_e1 (cA : Nat → ClassId) (b q1 : Nat) (u1 : Nat → Nat) (q2 : Nat) (u2 : Nat → Nat) : (ci_w9 cA q1 u1 ++ ci_w10 cA q2 u2)[1]? = some ((ci_ad b q1 u1 q2 u2) 1, pi_E cA (ci_ad b q1 u1 q2 u2) ci_s0 1) := rfl
set_option maxRecDepth 100000 in
theorem ci_e2 (cA : Nat → ClassId) (b q1 : Nat) (u1 : Nat → Nat) (q2 : Nat) (u2 : Nat → Nat) : (ci_w9 cA q1 u1 ++ ci_w10 cA q2 u2)[2]? = some ((ci_ad b q1 u1 q2 u2) 2, pi_E cA (ci_ad b q1 u1 q2 u2) ci_s0 2) := rfl
set_option maxRecDepth 100000 in
theorem ci_e3 (cA : Nat → ClassId) (b q1 : Nat) (u1 : Nat → Nat) (q2 : Nat) (u2 : Nat → Nat) : (ci_w9 cA q1 u1 ++ ci_w10 cA q2 u2)[3]? = some ((ci_ad b q1 u1 q2 u2) 3, pi_E cA (ci_ad b q1 u1 q2 u2) ci_s0 3) := rfl
set_option maxRecDepth 100000 in
theorem ci_e4 (cA : Nat → ClassId) (b q1 : Nat) (u1 : Nat → Nat) (q2 : Nat) (u2 : Nat → Nat) : (ci_w9 cA q1 u1 ++ ci_w10 cA q2 u2)[4]? = some ((ci_ad b q1 u1 q2 u2) 4, pi_E cA (ci_ad b q1 u1 q2 u2) ci_s0 4) := rfl
set_option maxRecDepth 100000 in
theorem ci_e5 (cA : Nat → ClassId) (b q1 : Nat) (u1 : Nat → Nat) (q2 : Nat) (u2 : Nat → Nat) : (ci_w9 cA q1 u1 ++ ci_w10 cA q2 u2)[5]? = some ((ci_ad b q1 u1 q2 u2) 5, pi_E cA (ci_ad b q1 u1 q2 u2) ci_s0 5) := rfl
set_option maxRecDepth 100000 in
theorem ci_e6 (cA : Nat → ClassId) (b q1 : Nat) (u1 : Nat → Nat) (q2 : Nat) (u2 : Nat → Nat) : (ci_w9 cA q1 u1 ++ ci_w10 cA q2 u2)[6]? = some ((ci_ad b q1 u1 q2 u2) 6, pi_E cA (ci_ad b q1 u1 q2 u2) ci_s0 6) := rfl
set_option maxRecDepth 100000 in
theorem ci_e7 (cA : Nat → ClassId) (b q1 : Nat) (u1 : Nat → Nat) (q2 : Nat) (u2 : Nat → Nat) : (ci_w9 cA q1 u1 ++ ci_w10 cA q2 u2)[7]? = some ((ci_ad b q1 u1 q2 u2) 7, pi_E cA (ci_ad b q1 u1 q2 u2) ci_s0 7) := rfl
set_option maxRecDepth 100000 in
theorem ci_e8 (cA : Nat → ClassId) (b q1 : Nat) (u1 : Nat → Nat) (q2 : Nat) (u2 : Nat → Nat) : (ci_w9 cA q1 u1 ++ ci_w10 cA q2 u2)[8]? = some ((ci_ad b q1 u1 q2 u2) 8, pi_E cA (ci_ad b q1 u1 q2 u2) ci_s0 8) := rfl
set_option maxRecDepth 100000 in
theorem ci_e9 (cA : Nat → ClassId) (b q1 : Nat) (u1 : Nat → Nat) (q2 : Nat) (u2 : Nat → Nat) : (ci_w9 cA q1 u1 ++ ci_w10 cA q2 u2)[9]? = some ((ci_ad b q1 u1 q2 u2) 9, pi_E cA (ci_ad b q1 u1 q2 u2) ci_s0 9) := rfl
set_option maxRecDepth 100000 in
theorem ci_e10 (cA : Nat → ClassId) (b q1 : Nat) (u1 : Nat → Nat) (q2 : Nat) (u2 : Nat → Nat) : (ci_w9 cA q1 u1 ++ ci_w10 cA q2 u2)[10]? = some ((ci_ad b q1 u1 q2 u2) 10, pi_E cA (ci_ad b q1 u1 q2 u2) ci_s0 10) := rfl
set_option maxRecDepth 100000 in
theorem ci_e11 (cA : Nat → ClassId) (b q1 : Nat) (u1 : Nat → Nat) (q2 : Nat) (u2 : Nat → Nat) : (ci_w9 cA q1 u1 ++ ci_w10 cA q2 u2)[11]? = some ((ci_ad b q1 u1 q2 u2) 11, pi_E cA (ci_ad b q1 u1 q2 u2) ci_s0 11) := rfl
set_option maxRecDepth 100000 in
theorem ci_e12 (cA : Nat → ClassId) (b q1 : Nat) (u1 : Nat → Nat) (q2 : Nat) (u2 : Nat → Nat) : (ci_w9 cA q1 u1 ++ ci_w10 cA q2 u2)[12]? = some ((ci_ad b q1 u1 q2 u2) 12, pi_E cA (ci_ad b q1 u1 q2 u2) ci_s0 12) := rfl
set_option maxRecDepth 100000 in
theorem ci_e13 (cA : Nat → ClassId) (b q1 : Nat) (u1 : Nat → Nat) (q2 : Nat) (u2 : Nat → Nat) : (ci_w9 cA q1 u1 ++ ci_w10 cA q2 u2)[13]? = some ((ci_ad b q1 u1 q2 u2) 13, pi_E cA (ci_ad b q1 u1 q2 u2) ci_s0 13) := rfl
set_option maxRecDepth 100000 in
theorem ci_e14 (cA : Nat → ClassId) (b q1 : Nat) (u1 : Nat → Nat) (q2 : Nat) (u2 : Nat → Nat) : (ci_w9 cA q1 u1 ++ ci_w10 cA q2 u2)[14]? = some ((ci_ad b q1 u1 q2 u2) 14, pi_E cA (ci_ad b q1 u1 q2 u2) ci_s0 14) := rfl
set_option maxRecDepth 100000 in
theorem ci_e15 (cA : Nat → ClassId) (b q1 : Nat) (u1 : Nat → Nat) (q2 : Nat) (u2 : Nat → Nat) : (ci_w9 cA q1 u1 ++ ci_w10 cA q2 u2)[15]? = some ((ci_ad b q1 u1 q2 u2) 15, pi_E cA (ci_ad b q1 u1 q2 u2) ci_s0 15) := rfl
set_option maxRecDepth 100000 in
theorem ci_e16 (cA : Nat → ClassId) (b q1 : Nat) (u1 : Nat → Nat) (q2 : Nat) (u2 : Nat → Nat) : (ci_w9 cA q1 u1 ++ ci_w10 cA q2 u2)[16]? = some ((ci_ad b q1 u1 q2 u2) 16, pi_E cA (ci_ad b q1 u1 q2 u2) ci_s0 16) := rfl
set_option maxRecDepth 100000 in
theorem ci_e17 (cA : Nat → ClassId) (b q1 : Nat) (u1 : Nat → Nat) (q2 : Nat) (u2 : Nat → Nat) : (ci_w9 cA q1 u1 ++ ci_w10 cA q2 u2)[17]? = some ((ci_ad b q1 u1 q2 u2) 17, pi_E cA (ci_ad b q1 u1 q2 u2) ci_s0 17) := rfl
set_option maxRecDepth 100000 in
theorem ci_e18 (cA : Nat → ClassId) (b q1 : Nat) (u1 : Nat → Nat) (q2 : Nat) (u2 : Nat → Nat) : (ci_w9 cA q1 u1 ++ ci_w10 cA q2 u2)[18]? = some ((ci_ad b q1 u1 q2 u2) 18, pi_E cA (ci_ad b q1 u1 q2 u2) ci_s0 18) := rfl
set_option maxRecDepth 100000 in
theorem ci_e19 (cA : Nat → ClassId) (b q1 : Nat) (u1 : Nat → Nat) (q2 : Nat) (u2 : Nat → Nat) : (ci_w9 cA q1 u1 ++ ci_w10 cA q2 u2)[19]? = some ((ci_ad b q1 u1 q2 u2) 19, pi_E cA (ci_ad b q1 u1 q2 u2) ci_s0 19) := rfl
set_option maxRecDepth 100000 in
theorem ci_e20 (cA : Nat → ClassId) (b q1 : Nat) (u1 : Nat → Nat) (q2 : Nat) (u2 : Nat → Nat) : (ci_w9 cA q1 u1 ++ ci_w10 cA q2 u2)[20]? = some ((ci_ad b q1 u1 q2 u2) 20, pi_E cA (ci_ad b q1 u1 q2 u2) ci_s0 20) := rfl
set_option maxRecDepth 100000 in
theorem ci_e21 (cA : Nat → ClassId) (b q1 : Nat) (u1 : Nat → Nat) (q2 : Nat) (u2 : Nat → Nat) : (ci_w9 cA q1 u1 ++ ci_w10 cA q2 u2)[21]? = some ((ci_ad b q1 u1 q2 u2) 21, pi_E cA (ci_ad b q1 u1 q2 u2) ci_s0 21) := rfl
set_option maxRecDepth 100000 in
theorem ci_e22 (cA : Nat → ClassId) (b q1 : Nat) (u1 : Nat → Nat) (q2 : Nat) (u2 : Nat → Nat) : (ci_w9 cA q1 u1 ++ ci_w10 cA q2 u2)[22]? = some ((ci_ad b q1 u1 q2 u2) 22, pi_E cA (ci_ad b q1 u1 q2 u2) ci_s0 22) := rfl
set_option maxRecDepth 100000 in
theorem ci_e23 (cA : Nat → ClassId) (b q1 : Nat) (u1 : Nat → Nat) (q2 : Nat) (u2 : Nat → Nat) : (ci_w9 cA q1 u1 ++ ci_w10 cA q2 u2)[23]? = some ((ci_ad b q1 u1 q2 u2) 23, pi_E cA (ci_ad b q1 u1 q2 u2) ci_s0 23) := rfl
set_option maxRecDepth 100000 in
theorem ci_e24 (cA : Nat → ClassId) (b q1 : Nat) (u1 : Nat → Nat) (q2 : Nat) (u2 : Nat → Nat) : (ci_w9 cA q1 u1 ++ ci_w10 cA q2 u2)[24]? = some ((ci_ad b q1 u1 q2 u2) 24, pi_E cA (ci_ad b q1 u1 q2 u2) ci_s0 24) := rfl
set_option maxRecDepth 100000 in
theorem ci_e25 (cA : Nat → ClassId) (b q1 : Nat) (u1 : Nat → Nat) (q2 : Nat) (u2 : Nat → Nat) : (ci_w9 cA q1 u1 ++ ci_w10 cA q2 u2)[25]? = some ((ci_ad b q1 u1 q2 u2) 25, pi_E cA (ci_ad b q1 u1 q2 u2) ci_s0 25) := rfl
set_option maxRecDepth 100000 in
theorem ci_e26 (cA : Nat → ClassId) (b q1 : Nat) (u1 : Nat → Nat) (q2 : Nat) (u2 : Nat → Nat) : (ci_w9 cA q1 u1 ++ ci_w10 cA q2 u2)[26]? = some ((ci_ad b q1 u1 q2 u2) 26, pi_E cA (ci_ad b q1 u1 q2 u2) ci_s0 26) := rfl
set_option maxRecDepth 100000 in
theorem ci_e27 (cA : Nat → ClassId) (b q1 : Nat) (u1 : Nat → Nat) (q2 : Nat) (u2 : Nat → Nat) : (ci_w9 cA q1 u1 ++ ci_w10 cA q2 u2)[27]? = some ((ci_ad b q1 u1 q2 u2) 27, pi_E cA (ci_ad b q1 u1 q2 u2) ci_s0 27) := rfl
set_option maxRecDepth 100000 in
theorem ci_e28 (cA : Nat → ClassId) (b q1 : Nat) (u1 : Nat → Nat) (q2 : Nat) (u2 : Nat → Nat) : (ci_w9 cA q1 u1 ++ ci_w10 cA q2 u2)[28]? = some ((ci_ad b q1 u1 q2 u2) 28, pi_E cA (ci_ad b q1 u1 q2 u2) ci_s0 28) := rfl
set_option maxRecDepth 100000 in
theorem ci_e29 (cA : Nat → ClassId) (b q1 : Nat) (u1 : Nat → Nat) (q2 : Nat) (u2 : Nat → Nat) : (ci_w9 cA q1 u1 ++ ci_w10 cA q2 u2)[29]? = some ((ci_ad b q1 u1 q2 u2) 29, pi_E cA (ci_ad b q1 u1 q2 u2) ci_s0 29) := rfl
set_option maxRecDepth 100000 in
theorem ci_e30 (cA : Nat → ClassId) (b q1 : Nat) (u1 : Nat → Nat) (q2 : Nat) (u2 : Nat → Nat) : (ci_w9 cA q1 u1 ++ ci_w10 cA q2 u2)[30]? = some ((ci_ad b q1 u1 q2 u2) 30, pi_E cA (ci_ad b q1 u1 q2 u2) ci_s0 30) := rfl
set_option maxRecDepth 100000 in
theorem ci_e31 (cA : Nat → ClassId) (b q1 : Nat) (u1 : Nat → Nat) (q2 : Nat) (u2 : Nat → Nat) : (ci_w9 cA q1 u1 ++ ci_w10 cA q2 u2)[31]? = some ((ci_ad b q1 u1 q2 u2) 31, pi_E cA (ci_ad b q1 u1 q2 u2) ci_s0 31) := rfl
set_option maxRecDepth 100000 in
theorem ci_e32 (cA : Nat → ClassId) (b q1 : Nat) (u1 : Nat → Nat) (q2 : Nat) (u2 : Nat → Nat) : (ci_w9 cA q1 u1 ++ ci_w10 cA q2 u2)[32]? = some ((ci_ad b q1 u1 q2 u2) 32, pi_E cA (ci_ad b q1 u1 q2 u2) ci_s0 32) := rfl
set_option maxRecDepth 100000 in
theorem ci_e33 (cA : Nat → ClassId) (b q1 : Nat) (u1 : Nat → Nat) (q2 : Nat) (u2 : Nat → Nat) : (ci_w9 cA q1 u1 ++ ci_w10 cA q2 u2)[33]? = some ((ci_ad b q1 u1 q2 u2) 33, pi_E cA (ci_ad b q1 u1 q2 u2) ci_s0 33) := rfl
set_option maxRecDepth 100000 in
theorem ci_e34 (cA : Nat → ClassId) (b q1 : Nat) (u1 : Nat → Nat) (q2 : Nat) (u2 : Nat → Nat) : (ci_w9 cA q1 u1 ++ ci_w10 cA q2 u2)[34]? = some ((ci_ad b q1 u1 q2 u2) 34, pi_E cA (ci_ad b q1 u1 q2 u2) ci_s0 34) := rfl
set_option maxRecDepth 100000 in
theorem ci_e35 (cA : Nat → ClassId) (b q1 : Nat) (u1 : Nat → Nat) (q2 : Nat) (u2 : Nat → Nat) : (ci_w9 cA q1 u1 ++ ci_w10 cA q2 u2)[35]? = some ((ci_ad b q1 u1 q2 u2) 35, pi_E cA (ci_ad b q1 u1 q2 u2) ci_s0 35) := rfl
set_option maxRecDepth 100000 in
theorem ci_e36 (cA : Nat → ClassId) (b q1 : Nat) (u1 : Nat → Nat) (q2 : Nat) (u2 : Nat → Nat) : (ci_w9 cA q1 u1 ++ ci_w10 cA q2 u2)[36]? = some ((ci_ad b q1 u1 q2 u2) 36, pi_E cA (ci_ad b q1 u1 q2 u2) ci_s0 36) := rfl
set_option maxRecDepth 100000 in
theorem ci_e37 (cA : Nat → ClassId) (b q1 : Nat) (u1 : Nat → Nat) (q2 : Nat) (u2 : Nat → Nat) : (ci_w9 cA q1 u1 ++ ci_w10 cA q2 u2)[37]? = some ((ci_ad b q1 u1 q2 u2) 37, pi_E cA (ci_ad b q1 u1 q2 u2) ci_s0 37) := rfl
set_option maxRecDepth 100000 in
theorem ci_e38 (cA : Nat → ClassId) (b q1 : Nat) (u1 : Nat → Nat) (q2 : Nat) (u2 : Nat → Nat) : (ci_w9 cA q1 u1 ++ ci_w10 cA q2 u2)[38]? = some ((ci_ad b q1 u1 q2 u2) 38, pi_E cA (ci_ad b q1 u1 q2 u2) ci_s0 38) := rfl
set_option maxRecDepth 100000 in
theorem ci_e39 (cA : Nat → ClassId) (b q1 : Nat) (u1 : Nat → Nat) (q2 : Nat) (u2 : Nat → Nat) : (ci_w9 cA q1 u1 ++ ci_w10 cA q2 u2)[39]? = some ((ci_ad b q1 u1 q2 u2) 39, pi_E cA (ci_ad b q1 u1 q2 u2) ci_s0 39) := rfl
set_option maxRecDepth 100000 in
theorem ci_e40 (cA : Nat → ClassId) (b q1 : Nat) (u1 : Nat → Nat) (q2 : Nat) (u2 : Nat → Nat) : (ci_w9 cA q1 u1 ++ ci_w10 cA q2 u2)[40]? = some ((ci_ad b q1 u1 q2 u2) 40, pi_E cA (ci_ad b q1 u1 q2 u2) ci_s0 40) := rfl
set_option maxRecDepth 100000 in
theorem ci_e41 (cA : Nat → ClassId) (b q1 : Nat) (u1 : Nat → Nat) (q2 : Nat) (u2 : Nat → Nat) : (ci_w9 cA q1 u1 ++ ci_w10 cA q2 u2)[41]? = some ((ci_ad b q1 u1 q2 u2) 41, pi_E cA (ci_ad b q1 u1 q2 u2) ci_s0 41) := rfl
set_option maxRecDepth 100000 in
theorem ci_e42 (cA : Nat → ClassId) (b q1 : Nat) (u1 : Nat → Nat) (q2 : Nat) (u2 : Nat → Nat) : (ci_w9 cA q1 u1 ++ ci_w10 cA q2 u2)[42]? = some ((ci_ad b q1 u1 q2 u2) 42, pi_E cA (ci_ad b q1 u1 q2 u2) ci_s0 42) := rfl
set_option maxRecDepth 100000 in
theorem ci_e43 (cA : Nat → ClassId) (b q1 : Nat) (u1 : Nat → Nat) (q2 : Nat) (u2 : Nat → Nat) : (ci_w9 cA q1 u1 ++ ci_w10 cA q2 u2)[43]? = some ((ci_ad b q1 u1 q2 u2) 43, pi_E cA (ci_ad b q1 u1 q2 u2) ci_s0 43) := rfl
set_option maxRecDepth 100000 in
theorem ci_e44 (cA : Nat → ClassId) (b q1 : Nat) (u1 : Nat → Nat) (q2 : Nat) (u2 : Nat → Nat) : (ci_w9 cA q1 u1 ++ ci_w10 cA q2 u2)[44]? = some ((ci_ad b q1 u1 q2 u2) 44, pi_E cA (ci_ad b q1 u1 q2 u2) ci_s0 44) := rfl
set_option maxRecDepth 100000 in
theorem ci_e45 (cA : Nat → ClassId) (b q1 : Nat) (u1 : Nat → Nat) (q2 : Nat) (u2 : Nat → Nat) : (ci_w9 cA q1 u1 ++ ci_w10 cA q2 u2)[45]? = some ((ci_ad b q1 u1 q2 u2) 45, pi_E cA (ci_ad b q1 u1 q2 u2) ci_s0 45) := rfl
set_option maxRecDepth 100000 in
theorem ci_e46 (cA : Nat → ClassId) (b q1 : Nat) (u1 : Nat → Nat) (q2 : Nat) (u2 : Nat → Nat) : (ci_w9 cA q1 u1 ++ ci_w10 cA q2 u2)[46]? = some ((ci_ad b q1 u1 q2 u2) 46, pi_E cA (ci_ad b q1 u1 q2 u2) ci_s0 46) := rfl
set_option maxRecDepth 100000 in
theorem ci_e47 (D : va_G) (cA : Nat → ClassId) (b q1 : Nat) (u1 : Nat → Nat) (q2 : Nat) (u2 : Nat → Nat) {H : Heap} (hP : va_P D vwCl (ci_w9 cA q1 u1 ++ ci_w10 cA q2 u2) H) : va_at D vwCl ((ci_ad b q1 u1 q2 u2) 47, pi_E cA (ci_ad b q1 u1 q2 u2) ci_s0 47) H := by
  have h : H[(u1 46)]? = some (vp_cell (cA 2) (4, .inr (.inr (.inr (.inr (va_up (va_up (va_up (va_up (fun _ => none) 0 (some (u1 47))) 1 (some (u1 49))) 2 (some (u1 51))) 3 (some (u1 53)))))))) := hP 47 _ rfl
  rw [pi_E_ref (i := 47) (by decide +kernel)]
  show H[(u1 46)]? = some (vp_cell (cA 2) (4, .inr (.inr (.inr (.inr fun j => some ((ci_ad b q1 u1 q2 u2) (pi_rf 47 j - 1)))))))
  rw [h]
  refine congrArg some (ci_qc (fun j hj => ?_))
  rcases (show j = 0 ∨ j = 1 ∨ j = 2 ∨ j = 3 by omega) with rfl | rfl | rfl | rfl <;> rfl
set_option maxRecDepth 100000 in
theorem ci_e48 (cA : Nat → ClassId) (b q1 : Nat) (u1 : Nat → Nat) (q2 : Nat) (u2 : Nat → Nat) : (ci_w9 cA q1 u1 ++ ci_w10 cA q2 u2)[48]? = some ((ci_ad b q1 u1 q2 u2) 48, pi_E cA (ci_ad b q1 u1 q2 u2) ci_s0 48) := rfl
set_option maxRecDepth 100000 in
theorem ci_e49 (cA : Nat → ClassId) (b q1 : Nat) (u1 : Nat → Nat) (q2 : Nat) (u2 : Nat → Nat) : (ci_w9 cA q1 u1 ++ ci_w10 cA q2 u2)[49]? = some ((ci_ad b q1 u1 q2 u2) 49, pi_E cA (ci_ad b q1 u1 q2 u2) ci_s0 49) := rfl
set_option maxRecDepth 100000 in
theorem ci_e50 (cA : Nat → ClassId) (b q1 : Nat) (u1 : Nat → Nat) (q2 : Nat) (u2 : Nat → Nat) : (ci_w9 cA q1 u1 ++ ci_w10 cA q2 u2)[50]? = some ((ci_ad b q1 u1 q2 u2) 50, pi_E cA (ci_ad b q1 u1 q2 u2) ci_s0 50) := rfl
set_option maxRecDepth 100000 in
theorem ci_e51 (cA : Nat → ClassId) (b q1 : Nat) (u1 : Nat → Nat) (q2 : Nat) (u2 : Nat → Nat) : (ci_w9 cA q1 u1 ++ ci_w10 cA q2 u2)[51]? = some ((ci_ad b q1 u1 q2 u2) 51, pi_E cA (ci_ad b q1 u1 q2 u2) ci_s0 51) := rfl
set_option maxRecDepth 100000 in
theorem ci_e52 (cA : Nat → ClassId) (b q1 : Nat) (u1 : Nat → Nat) (q2 : Nat) (u2 : Nat → Nat) : (ci_w9 cA q1 u1 ++ ci_w10 cA q2 u2)[52]? = some ((ci_ad b q1 u1 q2 u2) 52, pi_E cA (ci_ad b q1 u1 q2 u2) ci_s0 52) := rfl
set_option maxRecDepth 100000 in
theorem ci_e53 (cA : Nat → ClassId) (b q1 : Nat) (u1 : Nat → Nat) (q2 : Nat) (u2 : Nat → Nat) : (ci_w9 cA q1 u1 ++ ci_w10 cA q2 u2)[53]? = some ((ci_ad b q1 u1 q2 u2) 53, pi_E cA (ci_ad b q1 u1 q2 u2) ci_s0 53) := rfl
set_option maxRecDepth 100000 in
theorem ci_e54 (cA : Nat → ClassId) (b q1 : Nat) (u1 : Nat → Nat) (q2 : Nat) (u2 : Nat → Nat) : (ci_w9 cA q1 u1 ++ ci_w10 cA q2 u2)[54]? = some ((ci_ad b q1 u1 q2 u2) 54, pi_E cA (ci_ad b q1 u1 q2 u2) ci_s0 54) := rfl
set_option maxRecDepth 100000 in
theorem ci_e55 (cA : Nat → ClassId) (b q1 : Nat) (u1 : Nat → Nat) (q2 : Nat) (u2 : Nat → Nat) : (ci_w9 cA q1 u1 ++ ci_w10 cA q2 u2)[55]? = some ((ci_ad b q1 u1 q2 u2) 55, pi_E cA (ci_ad b q1 u1 q2 u2) ci_s0 55) := rfl
set_option maxRecDepth 100000 in
theorem ci_e56 (cA : Nat → ClassId) (b q1 : Nat) (u1 : Nat → Nat) (q2 : Nat) (u2 : Nat → Nat) : (ci_w9 cA q1 u1 ++ ci_w10 cA q2 u2)[56]? = some ((ci_ad b q1 u1 q2 u2) 56, pi_E cA (ci_ad b q1 u1 q2 u2) ci_s0 56) := rfl
set_option maxRecDepth 100000 in
theorem ci_e57 (cA : Nat → ClassId) (b q1 : Nat) (u1 : Nat → Nat) (q2 : Nat) (u2 : Nat → Nat) : (ci_w9 cA q1 u1 ++ ci_w10 cA q2 u2)[57]? = some ((ci_ad b q1 u1 q2 u2) 57, pi_E cA (ci_ad b q1 u1 q2 u2) ci_s0 57) := rfl
set_option maxRecDepth 100000 in
theorem ci_e58 (cA : Nat → ClassId) (b q1 : Nat) (u1 : Nat → Nat) (q2 : Nat) (u2 : Nat → Nat) : (ci_w9 cA q1 u1 ++ ci_w10 cA q2 u2)[58]? = some ((ci_ad b q1 u1 q2 u2) 58, pi_E cA (ci_ad b q1 u1 q2 u2) ci_s0 58) := rfl
set_option maxRecDepth 100000 in
theorem ci_e59 (cA : Nat → ClassId) (b q1 : Nat) (u1 : Nat → Nat) (q2 : Nat) (u2 : Nat → Nat) : (ci_w9 cA q1 u1 ++ ci_w10 cA q2 u2)[59]? = some ((ci_ad b q1 u1 q2 u2) 59, pi_E cA (ci_ad b q1 u1 q2 u2) ci_s0 59) := rfl
set_option maxRecDepth 100000 in
theorem ci_e60 (cA : Nat → ClassId) (b q1 : Nat) (u1 : Nat → Nat) (q2 : Nat) (u2 : Nat → Nat) : (ci_w9 cA q1 u1 ++ ci_w10 cA q2 u2)[60]? = some ((ci_ad b q1 u1 q2 u2) 60, pi_E cA (ci_ad b q1 u1 q2 u2) ci_s0 60) := rfl
set_option maxRecDepth 100000 in
theorem ci_e61 (cA : Nat → ClassId) (b q1 : Nat) (u1 : Nat → Nat) (q2 : Nat) (u2 : Nat → Nat) : (ci_w9 cA q1 u1 ++ ci_w10 cA q2 u2)[61]? = some ((ci_ad b q1 u1 q2 u2) 61, pi_E cA (ci_ad b q1 u1 q2 u2) ci_s0 61) := rfl
set_option maxRecDepth 100000 in
theorem ci_e62 (cA : Nat → ClassId) (b q1 : Nat) (u1 : Nat → Nat) (q2 : Nat) (u2 : Nat → Nat) : (ci_w9 cA q1 u1 ++ ci_w10 cA q2 u2)[62]? = some ((ci_ad b q1 u1 q2 u2) 62, pi_E cA (ci_ad b q1 u1 q2 u2) ci_s0 62) := rfl
set_option maxRecDepth 100000 in
theorem ci_e63 (cA : Nat → ClassId) (b q1 : Nat) (u1 : Nat → Nat) (q2 : Nat) (u2 : Nat → Nat) : (ci_w9 cA q1 u1 ++ ci_w10 cA q2 u2)[63]? = some ((ci_ad b q1 u1 q2 u2) 63, pi_E cA (ci_ad b q1 u1 q2 u2) ci_s0 63) := rfl
set_option maxRecDepth 100000 in
theorem ci_e64 (cA : Nat → ClassId) (b q1 : Nat) (u1 : Nat → Nat) (q2 : Nat) (u2 : Nat → Nat) : (ci_w9 cA q1 u1 ++ ci_w10 cA q2 u2)[64]? = some ((ci_ad b q1 u1 q2 u2) 64, pi_E cA (ci_ad b q1 u1 q2 u2) ci_s0 64) := rfl
set_option maxRecDepth 100000 in
theorem ci_e65 (cA : Nat → ClassId) (b q1 : Nat) (u1 : Nat → Nat) (q2 : Nat) (u2 : Nat → Nat) : (ci_w9 cA q1 u1 ++ ci_w10 cA q2 u2)[65]? = some ((ci_ad b q1 u1 q2 u2) 65, pi_E cA (ci_ad b q1 u1 q2 u2) ci_s0 65) := rfl
set_option maxRecDepth 100000 in
theorem ci_e66 (cA : Nat → ClassId) (b q1 : Nat) (u1 : Nat → Nat) (q2 : Nat) (u2 : Nat → Nat) : (ci_w9 cA q1 u1 ++ ci_w10 cA q2 u2)[66]? = some ((ci_ad b q1 u1 q2 u2) 66, pi_E cA (ci_ad b q1 u1 q2 u2) ci_s0 66) := rfl
set_option maxRecDepth 100000 in
theorem ci_e67 (cA : Nat → ClassId) (b q1 : Nat) (u1 : Nat → Nat) (q2 : Nat) (u2 : Nat → Nat) : (ci_w9 cA q1 u1 ++ ci_w10 cA q2 u2)[67]? = some ((ci_ad b q1 u1 q2 u2) 67, pi_E cA (ci_ad b q1 u1 q2 u2) ci_s0 67) := rfl
set_option maxRecDepth 100000 in
theorem ci_e68 (cA : Nat → ClassId) (b q1 : Nat) (u1 : Nat → Nat) (q2 : Nat) (u2 : Nat → Nat) : (ci_w9 cA q1 u1 ++ ci_w10 cA q2 u2)[68]? = some ((ci_ad b q1 u1 q2 u2) 68, pi_E cA (ci_ad b q1 u1 q2 u2) ci_s0 68) := rfl
set_option maxRecDepth 100000 in
theorem ci_e69 (cA : Nat → ClassId) (b q1 : Nat) (u1 : Nat → Nat) (q2 : Nat) (u2 : Nat → Nat) : (ci_w9 cA q1 u1 ++ ci_w10 cA q2 u2)[69]? = some ((ci_ad b q1 u1 q2 u2) 69, pi_E cA (ci_ad b q1 u1 q2 u2) ci_s0 69) := rfl
set_option maxRecDepth 100000 in
theorem ci_e70 (cA : Nat → ClassId) (b q1 : Nat) (u1 : Nat → Nat) (q2 : Nat) (u2 : Nat → Nat) : (ci_w9 cA q1 u1 ++ ci_w10 cA q2 u2)[70]? = some ((ci_ad b q1 u1 q2 u2) 70, pi_E cA (ci_ad b q1 u1 q2 u2) ci_s0 70) := rfl
set_option maxRecDepth 100000 in
theorem ci_e71 (cA : Nat → ClassId) (b q1 : Nat) (u1 : Nat → Nat) (q2 : Nat) (u2 : Nat → Nat) : (ci_w9 cA q1 u1 ++ ci_w10 cA q2 u2)[71]? = some ((ci_ad b q1 u1 q2 u2) 71, pi_E cA (ci_ad b q1 u1 q2 u2) ci_s0 71) := rfl
set_option maxRecDepth 100000 in
theorem ci_e72 (cA : Nat → ClassId) (b q1 : Nat) (u1 : Nat → Nat) (q2 : Nat) (u2 : Nat → Nat) : (ci_w9 cA q1 u1 ++ ci_w10 cA q2 u2)[72]? = some ((ci_ad b q1 u1 q2 u2) 72, pi_E cA (ci_ad b q1 u1 q2 u2) ci_s0 72) := rfl
set_option maxRecDepth 100000 in
theorem ci_e73 (cA : Nat → ClassId) (b q1 : Nat) (u1 : Nat → Nat) (q2 : Nat) (u2 : Nat → Nat) : (ci_w9 cA q1 u1 ++ ci_w10 cA q2 u2)[73]? = some ((ci_ad b q1 u1 q2 u2) 73, pi_E cA (ci_ad b q1 u1 q2 u2) ci_s0 73) := rfl
set_option maxRecDepth 100000 in
theorem ci_e74 (cA : Nat → ClassId) (b q1 : Nat) (u1 : Nat → Nat) (q2 : Nat) (u2 : Nat → Nat) : (ci_w9 cA q1 u1 ++ ci_w10 cA q2 u2)[74]? = some ((ci_ad b q1 u1 q2 u2) 74, pi_E cA (ci_ad b q1 u1 q2 u2) ci_s0 74) := rfl
set_option maxRecDepth 100000 in
theorem ci_e75 (cA : Nat → ClassId) (b q1 : Nat) (u1 : Nat → Nat) (q2 : Nat) (u2 : Nat → Nat) : (ci_w9 cA q1 u1 ++ ci_w10 cA q2 u2)[75]? = some ((ci_ad b q1 u1 q2 u2) 75, pi_E cA (ci_ad b q1 u1 q2 u2) ci_s0 75) := rfl
set_option maxRecDepth 100000 in
theorem ci_e76 (cA : Nat → ClassId) (b q1 : Nat) (u1 : Nat → Nat) (q2 : Nat) (u2 : Nat → Nat) : (ci_w9 cA q1 u1 ++ ci_w10 cA q2 u2)[76]? = some ((ci_ad b q1 u1 q2 u2) 76, pi_E cA (ci_ad b q1 u1 q2 u2) ci_s0 76) := rfl
set_option maxRecDepth 100000 in
theorem ci_e77 (cA : Nat → ClassId) (b q1 : Nat) (u1 : Nat → Nat) (q2 : Nat) (u2 : Nat → Nat) : (ci_w9 cA q1 u1 ++ ci_w10 cA q2 u2)[77]? = some ((ci_ad b q1 u1 q2 u2) 77, pi_E cA (ci_ad b q1 u1 q2 u2) ci_s0 77) := rfl
set_option maxRecDepth 100000 in
theorem ci_e78 (cA : Nat → ClassId) (b q1 : Nat) (u1 : Nat → Nat) (q2 : Nat) (u2 : Nat → Nat) : (ci_w9 cA q1 u1 ++ ci_w10 cA q2 u2)[78]? = some ((ci_ad b q1 u1 q2 u2) 78, pi_E cA (ci_ad b q1 u1 q2 u2) ci_s0 78) := rfl
set_option maxRecDepth 100000 in
theorem ci_e79 (cA : Nat → ClassId) (b q1 : Nat) (u1 : Nat → Nat) (q2 : Nat) (u2 : Nat → Nat) : (ci_w9 cA q1 u1 ++ ci_w10 cA q2 u2)[79]? = some ((ci_ad b q1 u1 q2 u2) 79, pi_E cA (ci_ad b q1 u1 q2 u2) ci_s0 79) := rfl
set_option maxRecDepth 100000 in
theorem ci_e80 (cA : Nat → ClassId) (b q1 : Nat) (u1 : Nat → Nat) (q2 : Nat) (u2 : Nat → Nat) : (ci_w9 cA q1 u1 ++ ci_w10 cA q2 u2)[80]? = some ((ci_ad b q1 u1 q2 u2) 80, pi_E cA (ci_ad b q1 u1 q2 u2) ci_s0 80) := rfl
set_option maxRecDepth 100000 in
theorem ci_e81 (cA : Nat → ClassId) (b q1 : Nat) (u1 : Nat → Nat) (q2 : Nat) (u2 : Nat → Nat) : (ci_w9 cA q1 u1 ++ ci_w10 cA q2 u2)[81]? = some ((ci_ad b q1 u1 q2 u2) 81, pi_E cA (ci_ad b q1 u1 q2 u2) ci_s0 81) := rfl
set_option maxRecDepth 100000 in
def ci_ps : List Nat := [0, 1, 2, 3, 4, 5, 6, 7, 8, 9, 10, 11, 12, 13, 14, 15, 16, 17, 18, 19, 20, 21, 22, 23, 24, 25, 26, 27, 28, 29, 30, 31, 32, 33, 34, 35, 36, 37, 38, 39, 40, 41, 42, 43, 44, 45, 46, 47, 48, 49, 50, 51, 52, 53, 54, 55, 56, 57, 58, 59, 60, 61, 62, 63, 64, 65, 66, 67, 68, 69, 70, 71, 72, 73, 74, 75, 76, 77, 78, 79, 80, 81]
set_option maxRecDepth 100000 in
theorem ci_lt {P : Nat → Prop} (h : ∀ i ∈ ([0, 1, 2, 3, 4, 5, 6, 7, 8, 9, 10, 11, 12, 13, 14, 15, 16, 17, 18, 19, 20, 21, 22, 23, 24, 25, 26, 27, 28, 29, 30, 31, 32, 33, 34, 35, 36, 37, 38, 39, 40, 41, 42, 43, 44, 45, 46, 47, 48, 49, 50, 51, 52, 53, 54, 55, 56, 57, 58, 59, 60, 61, 62, 63, 64, 65, 66, 67, 68, 69, 70, 71, 72, 73, 74, 75, 76, 77, 78, 79, 80, 81] : List Nat), P i) : ∀ i, i < pi_N → P i := fun i hi => h i (by
  have e : ([0, 1, 2, 3, 4, 5, 6, 7, 8, 9, 10, 11, 12, 13, 14, 15, 16, 17, 18, 19, 20, 21, 22, 23, 24, 25, 26, 27, 28, 29, 30, 31, 32, 33, 34, 35, 36, 37, 38, 39, 40, 41, 42, 43, 44, 45, 46, 47, 48, 49, 50, 51, 52, 53, 54, 55, 56, 57, 58, 59, 60, 61, 62, 63, 64, 65, 66, 67, 68, 69, 70, 71, 72, 73, 74, 75, 76, 77, 78, 79, 80, 81] : List Nat) = List.range 82 := by decide +kernel
  rw [e]; exact List.mem_range.mpr hi)
set_option maxRecDepth 100000 in
theorem ci_wP (D : va_G) (cA : Nat → ClassId) (b q1 : Nat) (u1 : Nat → Nat) (q2 : Nat) (u2 : Nat → Nat) {H : Heap} (hP : va_P D vwCl (ci_w9 cA q1 u1 ++ ci_w10 cA q2 u2) H) : ∀ i, i < pi_N → va_at D vwCl ((ci_ad b q1 u1 q2 u2) i, pi_E cA (ci_ad b q1 u1 q2 u2) ci_s0 i) H := ci_lt (List.forall_mem_cons.mpr ⟨hP 0 _ (ci_e0 cA b q1 u1 q2 u2), List.forall_mem_cons.mpr ⟨hP 1 _ (ci_e1 cA b q1 u1 q2 u2), List.forall_mem_cons.mpr ⟨hP 2 _ (ci_e2 cA b q1 u1 q2 u2), List.forall_mem_cons.mpr ⟨hP 3 _ (ci_e3 cA b q1 u1 q2 u2), List.forall_mem_cons.mpr ⟨hP 4 _ (ci_e4 cA b q1 u1 q2 u2), List.forall_mem_cons.mpr ⟨hP 5 _ (ci_e5 cA b q1 u1 q2 u2), List.forall_mem_cons.mpr ⟨hP 6 _ (ci_e6 cA b q1 u1 q2 u2), List.forall_mem_cons.mpr ⟨hP 7 _ (ci_e7 cA b q1 u1 q2 u2), List.forall_mem_cons.mpr ⟨hP 8 _ (ci_e8 cA b q1 u1 q2 u2), List.forall_mem_cons.mpr ⟨hP 9 _ (ci_e9 cA b q1 u1 q2 u2), List.forall_mem_cons.mpr ⟨hP 10 _ (ci_e10 cA b q1 u1 q2 u2), List.forall_mem_cons.mpr ⟨hP 11 _ (ci_e11 cA b q1 u1 q2 u2), List.forall_mem_cons.mpr ⟨hP 12 _ (ci_e12 cA b q1 u1 q2 u2), List.forall_mem_cons.mpr ⟨hP 13 _ (ci_e13 cA b q1 u1 q2 u2), List.forall_mem_cons.mpr ⟨hP 14 _ (ci_e14 cA b q1 u1 q2 u2), List.forall_mem_cons.mpr ⟨hP 15 _ (ci_e15 cA b q1 u1 q2 u2), List.forall_mem_cons.mpr ⟨hP 16 _ (ci_e16 cA b q1 u1 q2 u2), List.forall_mem_cons.mpr ⟨hP 17 _ (ci_e17 cA b q1 u1 q2 u2), List.forall_mem_cons.mpr ⟨hP 18 _ (ci_e18 cA b q1 u1 q2 u2), List.forall_mem_cons.mpr ⟨hP 19 _ (ci_e19 cA b q1 u1 q2 u2), List.forall_mem_cons.mpr ⟨hP 20 _ (ci_e20 cA b q1 u1 q2 u2), List.forall_mem_cons.mpr ⟨hP 21 _ (ci_e21 cA b q1 u1 q2 u2), List.forall_mem_cons.mpr ⟨hP 22 _ (ci_e22 cA b q1 u1 q2 u2), List.forall_mem_cons.mpr ⟨hP 23 _ (ci_e23 cA b q1 u1 q2 u2), List.forall_mem_cons.mpr ⟨hP 24 _ (ci_e24 cA b q1 u1 q2 u2), List.forall_mem_cons.mpr ⟨hP 25 _ (ci_e25 cA b q1 u1 q2 u2), List.forall_mem_cons.mpr ⟨hP 26 _ (ci_e26 cA b q1 u1 q2 u2), List.forall_mem_cons.mpr ⟨hP 27 _ (ci_e27 cA b q1 u1 q2 u2), List.forall_mem_cons.mpr ⟨hP 28 _ (ci_e28 cA b q1 u1 q2 u2), List.forall_mem_cons.mpr ⟨hP 29 _ (ci_e29 cA b q1 u1 q2 u2), List.forall_mem_cons.mpr ⟨hP 30 _ (ci_e30 cA b q1 u1 q2 u2), List.forall_mem_cons.mpr ⟨hP 31 _ (ci_e31 cA b q1 u1 q2 u2), List.forall_mem_cons.mpr ⟨hP 32 _ (ci_e32 cA b q1 u1 q2 u2), List.forall_mem_cons.mpr ⟨hP 33 _ (ci_e33 cA b q1 u1 q2 u2), List.forall_mem_cons.mpr ⟨hP 34 _ (ci_e34 cA b q1 u1 q2 u2), List.forall_mem_cons.mpr ⟨hP 35 _ (ci_e35 cA b q1 u1 q2 u2), List.forall_mem_cons.mpr ⟨hP 36 _ (ci_e36 cA b q1 u1 q2 u2), List.forall_mem_cons.mpr ⟨hP 37 _ (ci_e37 cA b q1 u1 q2 u2), List.forall_mem_cons.mpr ⟨hP 38 _ (ci_e38 cA b q1 u1 q2 u2), List.forall_mem_cons.mpr ⟨hP 39 _ (ci_e39 cA b q1 u1 q2 u2), List.forall_mem_cons.mpr ⟨hP 40 _ (ci_e40 cA b q1 u1 q2 u2), List.forall_mem_cons.mpr ⟨hP 41 _ (ci_e41 cA b q1 u1 q2 u2), List.forall_mem_cons.mpr ⟨hP 42 _ (ci_e42 cA b q1 u1 q2 u2), List.forall_mem_cons.mpr ⟨hP 43 _ (ci_e43 cA b q1 u1 q2 u2), List.forall_mem_cons.mpr ⟨hP 44 _ (ci_e44 cA b q1 u1 q2 u2), List.forall_mem_cons.mpr ⟨hP 45 _ (ci_e45 cA b q1 u1 q2 u2), List.forall_mem_cons.mpr ⟨hP 46 _ (ci_e46 cA b q1 u1 q2 u2), List.forall_mem_cons.mpr ⟨ci_e47 D cA b q1 u1 q2 u2 hP, List.forall_mem_cons.mpr ⟨hP 48 _ (ci_e48 cA b q1 u1 q2 u2), List.forall_mem_cons.mpr ⟨hP 49 _ (ci_e49 cA b q1 u1 q2 u2), List.forall_mem_cons.mpr ⟨hP 50 _ (ci_e50 cA b q1 u1 q2 u2), List.forall_mem_cons.mpr ⟨hP 51 _ (ci_e51 cA b q1 u1 q2 u2), List.forall_mem_cons.mpr ⟨hP 52 _ (ci_e52 cA b q1 u1 q2 u2), List.forall_mem_cons.mpr ⟨hP 53 _ (ci_e53 cA b q1 u1 q2 u2), List.forall_mem_cons.mpr ⟨hP 54 _ (ci_e54 cA b q1 u1 q2 u2), List.forall_mem_cons.mpr ⟨hP 55 _ (ci_e55 cA b q1 u1 q2 u2), List.forall_mem_cons.mpr ⟨hP 56 _ (ci_e56 cA b q1 u1 q2 u2), List.forall_mem_cons.mpr ⟨hP 57 _ (ci_e57 cA b q1 u1 q2 u2), List.forall_mem_cons.mpr ⟨hP 58 _ (ci_e58 cA b q1 u1 q2 u2), List.forall_mem_cons.mpr ⟨hP 59 _ (ci_e59 cA b q1 u1 q2 u2), List.forall_mem_cons.mpr ⟨hP 60 _ (ci_e60 cA b q1 u1 q2 u2), List.forall_mem_cons.mpr ⟨hP 61 _ (ci_e61 cA b q1 u1 q2 u2), List.forall_mem_cons.mpr ⟨hP 62 _ (ci_e62 cA b q1 u1 q2 u2), List.forall_mem_cons.mpr ⟨hP 63 _ (ci_e63 cA b q1 u1 q2 u2), List.forall_mem_cons.mpr ⟨hP 64 _ (ci_e64 cA b q1 u1 q2 u2), List.forall_mem_cons.mpr ⟨hP 65 _ (ci_e65 cA b q1 u1 q2 u2), List.forall_mem_cons.mpr ⟨hP 66 _ (ci_e66 cA b q1 u1 q2 u2), List.forall_mem_cons.mpr ⟨hP 67 _ (ci_e67 cA b q1 u1 q2 u2), List.forall_mem_cons.mpr ⟨hP 68 _ (ci_e68 cA b q1 u1 q2 u2), List.forall_mem_cons.mpr ⟨hP 69 _ (ci_e69 cA b q1 u1 q2 u2), List.forall_mem_cons.mpr ⟨hP 70 _ (ci_e70 cA b q1 u1 q2 u2), List.forall_mem_cons.mpr ⟨hP 71 _ (ci_e71 cA b q1 u1 q2 u2), List.forall_mem_cons.mpr ⟨hP 72 _ (ci_e72 cA b q1 u1 q2 u2), List.forall_mem_cons.mpr ⟨hP 73 _ (ci_e73 cA b q1 u1 q2 u2), List.forall_mem_cons.mpr ⟨hP 74 _ (ci_e74 cA b q1 u1 q2 u2), List.forall_mem_cons.mpr ⟨hP 75 _ (ci_e75 cA b q1 u1 q2 u2), List.forall_mem_cons.mpr ⟨hP 76 _ (ci_e76 cA b q1 u1 q2 u2), List.forall_mem_cons.mpr ⟨hP 77 _ (ci_e77 cA b q1 u1 q2 u2), List.forall_mem_cons.mpr ⟨hP 78 _ (ci_e78 cA b q1 u1 q2 u2), List.forall_mem_cons.mpr ⟨hP 79 _ (ci_e79 cA b q1 u1 q2 u2), List.forall_mem_cons.mpr ⟨hP 80 _ (ci_e80 cA b q1 u1 q2 u2), List.forall_mem_cons.mpr ⟨hP 81 _ (ci_e81 cA b q1 u1 q2 u2), (fun _ h => absurd h List.not_mem_nil)⟩⟩⟩⟩⟩⟩⟩⟩⟩⟩⟩⟩⟩⟩⟩⟩⟩⟩⟩⟩⟩⟩⟩⟩⟩⟩⟩⟩⟩⟩⟩⟩⟩⟩⟩⟩⟩⟩⟩⟩⟩⟩⟩⟩⟩⟩⟩⟩⟩⟩⟩⟩⟩⟩⟩⟩⟩⟩⟩⟩⟩⟩⟩⟩⟩⟩⟩⟩⟩⟩⟩⟩⟩⟩⟩⟩⟩⟩⟩⟩⟩⟩)
set_option maxRecDepth 100000 in
theorem ci_wA (cA : Nat → ClassId) (b q1 : Nat) (u1 : Nat → Nat) (q2 : Nat) (u2 : Nat → Nat) : ∀ i, i < pi_N → ∃ e : va_E, (ci_w9 cA q1 u1 ++ ci_w10 cA q2 u2)[ci_ps.getD i 0]? = some ((ci_ad b q1 u1 q2 u2) i, e) := ci_lt (List.forall_mem_cons.mpr ⟨⟨_, ci_e0 cA b q1 u1 q2 u2⟩, List.forall_mem_cons.mpr ⟨⟨_, ci_e1 cA b q1 u1 q2 u2⟩, List.forall_mem_cons.mpr ⟨⟨_, ci_e2 cA b q1 u1 q2 u2⟩, List.forall_mem_cons.mpr ⟨⟨_, ci_e3 cA b q1 u1 q2 u2⟩, List.forall_mem_cons.mpr ⟨⟨_, ci_e4 cA b q1 u1 q2 u2⟩, List.forall_mem_cons.mpr ⟨⟨_, ci_e5 cA b q1 u1 q2 u2⟩, List.forall_mem_cons.mpr ⟨⟨_, ci_e6 cA b q1 u1 q2 u2⟩, List.forall_mem_cons.mpr ⟨⟨_, ci_e7 cA b q1 u1 q2 u2⟩, List.forall_mem_cons.mpr ⟨⟨_, ci_e8 cA b q1 u1 q2 u2⟩, List.forall_mem_cons.mpr ⟨⟨_, ci_e9 cA b q1 u1 q2 u2⟩, List.forall_mem_cons.mpr ⟨⟨_, ci_e10 cA b q1 u1 q2 u2⟩, List.forall_mem_cons.mpr ⟨⟨_, ci_e11 cA b q1 u1 q2 u2⟩, List.forall_mem_cons.mpr ⟨⟨_, ci_e12 cA b q1 u1 q2 u2⟩, List.forall_mem_cons.mpr ⟨⟨_, ci_e13 cA b q1 u1 q2 u2⟩, List.forall_mem_cons.mpr ⟨⟨_, ci_e14 cA b q1 u1 q2 u2⟩, List.forall_mem_cons.mpr ⟨⟨_, ci_e15 cA b q1 u1 q2 u2⟩, List.forall_mem_cons.mpr ⟨⟨_, ci_e16 cA b q1 u1 q2 u2⟩, List.forall_mem_cons.mpr ⟨⟨_, ci_e17 cA b q1 u1 q2 u2⟩, List.forall_mem_cons.mpr ⟨⟨_, ci_e18 cA b q1 u1 q2 u2⟩, List.forall_mem_cons.mpr ⟨⟨_, ci_e19 cA b q1 u1 q2 u2⟩, List.forall_mem_cons.mpr ⟨⟨_, ci_e20 cA b q1 u1 q2 u2⟩, List.forall_mem_cons.mpr ⟨⟨_, ci_e21 cA b q1 u1 q2 u2⟩, List.forall_mem_cons.mpr ⟨⟨_, ci_e22 cA b q1 u1 q2 u2⟩, List.forall_mem_cons.mpr ⟨⟨_, ci_e23 cA b q1 u1 q2 u2⟩, List.forall_mem_cons.mpr ⟨⟨_, ci_e24 cA b q1 u1 q2 u2⟩, List.forall_mem_cons.mpr ⟨⟨_, ci_e25 cA b q1 u1 q2 u2⟩, List.forall_mem_cons.mpr ⟨⟨_, ci_e26 cA b q1 u1 q2 u2⟩, List.forall_mem_cons.mpr ⟨⟨_, ci_e27 cA b q1 u1 q2 u2⟩, List.forall_mem_cons.mpr ⟨⟨_, ci_e28 cA b q1 u1 q2 u2⟩, List.forall_mem_cons.mpr ⟨⟨_, ci_e29 cA b q1 u1 q2 u2⟩, List.forall_mem_cons.mpr ⟨⟨_, ci_e30 cA b q1 u1 q2 u2⟩, List.forall_mem_cons.mpr ⟨⟨_, ci_e31 cA b q1 u1 q2 u2⟩, List.forall_mem_cons.mpr ⟨⟨_, ci_e32 cA b q1 u1 q2 u2⟩, List.forall_mem_cons.mpr ⟨⟨_, ci_e33 cA b q1 u1 q2 u2⟩, List.forall_mem_cons.mpr ⟨⟨_, ci_e34 cA b q1 u1 q2 u2⟩, List.forall_mem_cons.mpr ⟨⟨_, ci_e35 cA b q1 u1 q2 u2⟩, List.forall_mem_cons.mpr ⟨⟨_, ci_e36 cA b q1 u1 q2 u2⟩, List.forall_mem_cons.mpr ⟨⟨_, ci_e37 cA b q1 u1 q2 u2⟩, List.forall_mem_cons.mpr ⟨⟨_, ci_e38 cA b q1 u1 q2 u2⟩, List.forall_mem_cons.mpr ⟨⟨_, ci_e39 cA b q1 u1 q2 u2⟩, List.forall_mem_cons.mpr ⟨⟨_, ci_e40 cA b q1 u1 q2 u2⟩, List.forall_mem_cons.mpr ⟨⟨_, ci_e41 cA b q1 u1 q2 u2⟩, List.forall_mem_cons.mpr ⟨⟨_, ci_e42 cA b q1 u1 q2 u2⟩, List.forall_mem_cons.mpr ⟨⟨_, ci_e43 cA b q1 u1 q2 u2⟩, List.forall_mem_cons.mpr ⟨⟨_, ci_e44 cA b q1 u1 q2 u2⟩, List.forall_mem_cons.mpr ⟨⟨_, ci_e45 cA b q1 u1 q2 u2⟩, List.forall_mem_cons.mpr ⟨⟨_, ci_e46 cA b q1 u1 q2 u2⟩, List.forall_mem_cons.mpr ⟨⟨_, rfl⟩, List.forall_mem_cons.mpr ⟨⟨_, ci_e48 cA b q1 u1 q2 u2⟩, List.forall_mem_cons.mpr ⟨⟨_, ci_e49 cA b q1 u1 q2 u2⟩, List.forall_mem_cons.mpr ⟨⟨_, ci_e50 cA b q1 u1 q2 u2⟩, List.forall_mem_cons.mpr ⟨⟨_, ci_e51 cA b q1 u1 q2 u2⟩, List.forall_mem_cons.mpr ⟨⟨_, ci_e52 cA b q1 u1 q2 u2⟩, List.forall_mem_cons.mpr ⟨⟨_, ci_e53 cA b q1 u1 q2 u2⟩, List.forall_mem_cons.mpr ⟨⟨_, ci_e54 cA b q1 u1 q2 u2⟩, List.forall_mem_cons.mpr ⟨⟨_, ci_e55 cA b q1 u1 q2 u2⟩, List.forall_mem_cons.mpr ⟨⟨_, ci_e56 cA b q1 u1 q2 u2⟩, List.forall_mem_cons.mpr ⟨⟨_, ci_e57 cA b q1 u1 q2 u2⟩, List.forall_mem_cons.mpr ⟨⟨_, ci_e58 cA b q1 u1 q2 u2⟩, List.forall_mem_cons.mpr ⟨⟨_, ci_e59 cA b q1 u1 q2 u2⟩, List.forall_mem_cons.mpr ⟨⟨_, ci_e60 cA b q1 u1 q2 u2⟩, List.forall_mem_cons.mpr ⟨⟨_, ci_e61 cA b q1 u1 q2 u2⟩, List.forall_mem_cons.mpr ⟨⟨_, ci_e62 cA b q1 u1 q2 u2⟩, List.forall_mem_cons.mpr ⟨⟨_, ci_e63 cA b q1 u1 q2 u2⟩, List.forall_mem_cons.mpr ⟨⟨_, ci_e64 cA b q1 u1 q2 u2⟩, List.forall_mem_cons.mpr ⟨⟨_, ci_e65 cA b q1 u1 q2 u2⟩, List.forall_mem_cons.mpr ⟨⟨_, ci_e66 cA b q1 u1 q2 u2⟩, List.forall_mem_cons.mpr ⟨⟨_, ci_e67 cA b q1 u1 q2 u2⟩, List.forall_mem_cons.mpr ⟨⟨_, ci_e68 cA b q1 u1 q2 u2⟩, List.forall_mem_cons.mpr ⟨⟨_, ci_e69 cA b q1 u1 q2 u2⟩, List.forall_mem_cons.mpr ⟨⟨_, ci_e70 cA b q1 u1 q2 u2⟩, List.forall_mem_cons.mpr ⟨⟨_, ci_e71 cA b q1 u1 q2 u2⟩, List.forall_mem_cons.mpr ⟨⟨_, ci_e72 cA b q1 u1 q2 u2⟩, List.forall_mem_cons.mpr ⟨⟨_, ci_e73 cA b q1 u1 q2 u2⟩, List.forall_mem_cons.mpr ⟨⟨_, ci_e74 cA b q1 u1 q2 u2⟩, List.forall_mem_cons.mpr ⟨⟨_, ci_e75 cA b q1 u1 q2 u2⟩, List.forall_mem_cons.mpr ⟨⟨_, ci_e76 cA b q1 u1 q2 u2⟩, List.forall_mem_cons.mpr ⟨⟨_, ci_e77 cA b q1 u1 q2 u2⟩, List.forall_mem_cons.mpr ⟨⟨_, ci_e78 cA b q1 u1 q2 u2⟩, List.forall_mem_cons.mpr ⟨⟨_, ci_e79 cA b q1 u1 q2 u2⟩, List.forall_mem_cons.mpr ⟨⟨_, ci_e80 cA b q1 u1 q2 u2⟩, List.forall_mem_cons.mpr ⟨⟨_, ci_e81 cA b q1 u1 q2 u2⟩, (fun _ h => absurd h List.not_mem_nil)⟩⟩⟩⟩⟩⟩⟩⟩⟩⟩⟩⟩⟩⟩⟩⟩⟩⟩⟩⟩⟩⟩⟩⟩⟩⟩⟩⟩⟩⟩⟩⟩⟩⟩⟩⟩⟩⟩⟩⟩⟩⟩⟩⟩⟩⟩⟩⟩⟩⟩⟩⟩⟩⟩⟩⟩⟩⟩⟩⟩⟩⟩⟩⟩⟩⟩⟩⟩⟩⟩⟩⟩⟩⟩⟩⟩⟩⟩⟩⟩⟩⟩)
set_option maxRecDepth 100000 in
theorem ci_ps_in : ∀ i, i < 82 → ∀ j, j < 82 → ci_ps.getD i 0 = ci_ps.getD j 0 → i = j := by decide +kernel
set_option maxRecDepth 100000 in
theorem ci_pi (D : va_G) (cA : Nat → ClassId) (b q1 : Nat) (u1 : Nat → Nat) (q2 : Nat) (u2 : Nat → Nat) {A : Nat → Prop} {H : Heap} (hP : va_P D vwCl (ci_w9 cA q1 u1 ++ ci_w10 cA q2 u2) H) (hD : va_D A (ci_w9 cA q1 u1 ++ ci_w10 cA q2 u2)) : va_P D vwCl (pi_W cA (ci_ad b q1 u1 q2 u2) ci_s0) H ∧ (∀ i j, i < pi_N → j < pi_N → (ci_ad b q1 u1 q2 u2) i = (ci_ad b q1 u1 q2 u2) j → i = j) ∧ ∀ i, i < pi_N → A ((ci_ad b q1 u1 q2 u2) i) := by
  refine ⟨fun k q hk => ?_, fun i j hi hj e => ?_, fun i hi => ?_⟩
  · obtain ⟨hi, rfl⟩ := pi_W_in hk
    exact ci_wP D cA b q1 u1 q2 u2 hP k hi
  · obtain ⟨x, hx⟩ := ci_wA cA b q1 u1 q2 u2 i hi
    obtain ⟨y, hy⟩ := ci_wA cA b q1 u1 q2 u2 j hj
    exact ci_ps_in i hi j hj (hD.1 _ _ _ _ hx hy e)
  · obtain ⟨x, hx⟩ := ci_wA cA b q1 u1 q2 u2 i hi
    exact hD.2 _ _ hx
set_option maxRecDepth 100000 in
def ci_W0 : zW := (fun i => if i = 2 then 59 else 0, fun _ _ => 0, fun i => ([fun _ => nI 0, ci_s0 62, ci_s0 63, ci_s0 64, fun _ => nI 0, fun _ => nI 0, fun _ => nI 0, fun _ => nI 0, fun _ => nI 0, fun _ => nI 0, fun _ => -1] : List (Nat → Int32)).getD i (fun _ => nI 0), fun i => if i = 0 then nI 0 else -1)
set_option maxRecDepth 100000 in
theorem ci_min0 (nd ns : Nat) (up lo : Nat → Nat) (hold h : Nat → Int32) (fm : Nat → Int32) (fd fk : Nat → Nat) (fn : Nat → Int32) (sm : Nat → Int32) (ws : Nat → Nat) (but : Int32) (cm : Nat → Int32) (cd : Nat → Nat) (nine : Nat) (rw_ : Nat → Nat) (m : Nat) (t : (zH × Int32) × Bool) : z_min nd ns up lo hold h (fun _ => nI 0) 0 fm fd fk fn 0 sm ws but 0 cm cd nine (-1) 0 rw_ m t = t := by
  have hw : z_wet nine (-1) (fun _ => nI 0) m = nI 0 := by unfold z_wet; split <;> rfl
  have h2 : ∀ s, z_m2 h (fun _ => nI 0) nd ns up lo nine (-1) m s = s := fun s => by unfold z_m2; rw [hw, if_neg (by decide)]
  have h4 : ∀ s, z_m4 hold ns up lo nine 0 rw_ m s = s := fun s => by unfold z_m4; split <;> rfl
  unfold z_min
  simp only [h2, h4]
  rfl
set_option maxRecDepth 100000 in
theorem ci_A0 : z_A ci_W0 = z_t0 := pi_lp_ind (P := fun s => s = z_t0) (ci_W0.nine + 1) (fun i _ s hs => (ci_min0 _ _ _ _ _ _ _ _ _ _ _ _ _ _ _ _ _ _ s).trans hs) z_t0 rfl
set_option maxRecDepth 100000 in
theorem ci_5 {P : Nat → Prop} (h : P 0 ∧ P 1 ∧ P 2 ∧ P 3 ∧ P 4) : ∀ k, k < 5 → P k := fun k hk => by
  rcases (show k = 0 ∨ k = 1 ∨ k = 2 ∨ k = 3 ∨ k = 4 by omega) with rfl | rfl | rfl | rfl | rfl
  · exact h.1
  · exact h.2.1
  · exact h.2.2.1
  · exact h.2.2.2.1
  · exact h.2.2.2.2
set_option maxRecDepth 100000 in
theorem ci_8 {P : Nat → Prop} (h : P 0 ∧ P 1 ∧ P 2 ∧ P 3 ∧ P 4 ∧ P 5 ∧ P 6 ∧ P 7) : ∀ k, k < 8 → P k := fun k hk => by
  rcases (show k = 0 ∨ k = 1 ∨ k = 2 ∨ k = 3 ∨ k = 4 ∨ k = 5 ∨ k = 6 ∨ k = 7 by omega) with rfl | rfl | rfl | rfl | rfl | rfl | rfl | rfl
  · exact h.1
  · exact h.2.1
  · exact h.2.2.1
  · exact h.2.2.2.1
  · exact h.2.2.2.2.1
  · exact h.2.2.2.2.2.1
  · exact h.2.2.2.2.2.2.1
  · exact h.2.2.2.2.2.2.2
set_option maxRecDepth 100000 in
theorem ci_4 {P : Nat → Prop} (h : P 0 ∧ P 1 ∧ P 2 ∧ P 3) : ∀ k, k < 4 → P k := fun k hk => by
  rcases (show k = 0 ∨ k = 1 ∨ k = 2 ∨ k = 3 by omega) with rfl | rfl | rfl | rfl
  · exact h.1
  · exact h.2.1
  · exact h.2.2.1
  · exact h.2.2.2
set_option maxRecDepth 100000 in
theorem ci_no {P : Nat → Prop} : ∀ i, i < 0 → P i := fun i hi => absurd hi (Nat.not_lt_zero i)
set_option maxRecDepth 100000 in
theorem ci_wd : z_wd ci_W0 := z_wd.mk (n0 := Nat.zero_le _) (n1 := Nat.zero_le _)
  (dr := Or.inr ⟨fun j hj => absurd hj (Nat.not_lt_zero j), by decide +kernel, rfl⟩)
  (hh := fun k => (show (-1 : Int32) = z_fg 0 _ k from (if_neg (Nat.not_lt_zero k)).symm))
  (sr := Or.inl ⟨rfl, by decide +kernel, rfl⟩)
  (us := fun k hk => absurd hk (Nat.not_lt_zero k))
set_option maxRecDepth 100000 in
theorem ci_wk : z_wk ci_W0 := z_wk.mk (wd := ci_wd) (nine := by decide +kernel) (nf := Nat.zero_le _) (nw := Nat.zero_le _) (nc := Nat.zero_le _)
  (fa := fun i hi => absurd hi (Nat.not_lt_zero i)) (sw := fun i hi => absurd hi (Nat.not_lt_zero i)) (ca := fun i hi => absurd hi (Nat.not_lt_zero i))
  (rt := ci_5 ⟨⟨1, by decide, by decide +kernel⟩, ⟨2, by decide, by decide +kernel⟩, ⟨3, by decide, by decide +kernel⟩, ⟨4, by decide, by decide +kernel⟩, ⟨5, by decide, by decide +kernel⟩⟩)
  (hd := ci_8 ⟨⟨99, by decide, by decide +kernel⟩, ⟨99, by decide, by decide +kernel⟩, ⟨99, by decide, by decide +kernel⟩, ⟨99, by decide, by decide +kernel⟩, ⟨99, by decide, by decide +kernel⟩, ⟨99, by decide, by decide +kernel⟩, ⟨99, by decide, by decide +kernel⟩, ⟨99, by decide, by decide +kernel⟩⟩)
  (pr := ci_8 ⟨⟨1, by decide, by decide +kernel⟩, ⟨1, by decide, by decide +kernel⟩, ⟨1, by decide, by decide +kernel⟩, ⟨1, by decide, by decide +kernel⟩, ⟨1, by decide, by decide +kernel⟩, ⟨1, by decide, by decide +kernel⟩, ⟨1, by decide, by decide +kernel⟩, ⟨1, by decide, by decide +kernel⟩⟩)
  (si := ci_4 ⟨⟨by decide +kernel, by decide +kernel, by decide +kernel⟩, ⟨by decide +kernel, by decide +kernel, by decide +kernel⟩, ⟨by decide +kernel, by decide +kernel, by decide +kernel⟩, ⟨by decide +kernel, by decide +kernel, by decide +kernel⟩⟩)
set_option maxRecDepth 100000 in
theorem ci_mr : z_MR ci_W0 ci_s0 := z_MR.mk (wk := ci_wk) (n0 := by decide +kernel) (n1 := by decide +kernel) (tx := rfl) (rt := rfl) (hd := rfl) (pr := rfl) (nine := by decide +kernel) (nf := by decide +kernel) (fa := fun i hi => absurd hi (Nat.not_lt_zero i)) (nw := by decide +kernel) (sw := fun i hi => absurd hi (Nat.not_lt_zero i)) (nc := by decide +kernel) (ca := fun i hi => absurd hi (Nat.not_lt_zero i)) (rn := rfl) (th := fun k _ => rfl) (fo := fun k _ => rfl) (si := fun k _ => rfl) (it := rfl) (fi := by decide +kernel) (j4 := fun k _ => rfl) (j5 := fun k _ => rfl)
set_option maxRecDepth 100000 in
theorem ci_cp : z_CP ci_W0 ci_s0 := z_CP.mk (wk := ci_wk) (fi := by decide +kernel) (m0 := by decide +kernel) (n0 := by decide +kernel) (m1 := by decide +kernel) (n1 := by decide +kernel) (t0 := fun i hi => absurd hi (Nat.not_lt_zero i)) (t1 := fun i hi => absurd hi (Nat.not_lt_zero i)) (nine := by decide +kernel) (rt := ci_5 ⟨by decide +kernel, by decide +kernel, by decide +kernel, by decide +kernel, by decide +kernel⟩) (hd := ci_8 ⟨by decide +kernel, by decide +kernel, by decide +kernel, by decide +kernel, by decide +kernel, by decide +kernel, by decide +kernel, by decide +kernel⟩) (pr := ci_8 ⟨by decide +kernel, by decide +kernel, by decide +kernel, by decide +kernel, by decide +kernel, by decide +kernel, by decide +kernel, by decide +kernel⟩) (mf := by decide +kernel) (nf := by decide +kernel) (fa := fun i hi => absurd hi (Nat.not_lt_zero i)) (mw := by decide +kernel) (nw := by decide +kernel) (sw := fun i hi => absurd hi (Nat.not_lt_zero i)) (mc := by decide +kernel) (nc := by decide +kernel) (ca := fun i hi => absurd hi (Nat.not_lt_zero i)) (rn := fun k _ => rfl) (sf0 := by decide +kernel) (ss0 := by decide +kernel) (si0 := fun j _ => rfl) (sf1 := by decide +kernel) (ss1 := by decide +kernel) (si1 := fun j _ => rfl) (sf2 := by decide +kernel) (ss2 := by decide +kernel) (si2 := fun j _ => rfl) (sf3 := by decide +kernel) (ss3 := by decide +kernel) (si3 := fun j _ => rfl)
set_option maxRecDepth 100000 in
theorem ci_ct : z_CT ci_W0 ci_s0 := z_CT.mk (d := by decide +kernel) (st := by decide +kernel) (f0 := by decide +kernel) (f1 := by decide +kernel) (hh := fun i hi => absurd hi (Nat.not_lt_zero i)) (ul := fun i hi => absurd hi (Nat.not_lt_zero i)) (dd := fun i hi => absurd hi (Nat.not_lt_zero i)) (sd := fun i hi => absurd hi (Nat.not_lt_zero i)) (fs := fun i hi => absurd hi (Nat.not_lt_zero i))
set_option maxRecDepth 100000 in
theorem ci_J : z_J ci_W0 ci_s0 := ⟨z_CR.mk (k := z_CK.mk ci_cp ci_ct) (b := by rw [ci_A0]; rfl) (y := by rw [ci_A0]; rfl) (a := by rw [ci_A0]; rfl) (jc := fun k _ => rfl) (jd := fun k _ => rfl), ci_mr, Nat.zero_le _⟩
