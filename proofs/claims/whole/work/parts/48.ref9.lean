theorem lX6_init_f30 : Cond.fieldLink RX6 30 "ModelCopiesModel" "draft" "[I" ∈ wsX6_init := by decide +kernel
theorem iX6_init_X6 : ∀ w ∈ wsX60, w ∈ wsX6_init := by decide +kernel
theorem lX6_init_f66 : Cond.fieldLink RX6 66 "ModelCopiesModel" "coins" "[I" ∈ wsX6_init := by decide +kernel
theorem arX6_init_int : Cond.arrayClass (newarray.typeOf .int) ∈ wsX6_init := by decide +kernel
theorem lX6_init_f7 : Cond.fieldLink RX6 7 "ModelCopiesModel" "readings" "[I" ∈ wsX6_init := by decide +kernel
theorem lX6_init_f13 : Cond.fieldLink RX6 13 "ModelCopiesModel" "models" "[I" ∈ wsX6_init := by decide +kernel
theorem arX6_init_boolean : Cond.arrayClass (newarray.typeOf .boolean) ∈ wsX6_init := by decide +kernel
theorem lX6_init_f16 : Cond.fieldLink RX6 16 "ModelCopiesModel" "told" "[Z" ∈ wsX6_init := by decide +kernel
theorem lX6_init_f20 : Cond.fieldLink RX6 20 "ModelCopiesModel" "owners" "[I" ∈ wsX6_init := by decide +kernel
theorem lX6_init_f23 : Cond.fieldLink RX6 23 "ModelCopiesModel" "houses" "[I" ∈ wsX6_init := by decide +kernel
theorem lX6_init_f26 : Cond.fieldLink RX6 26 "ModelCopiesModel" "copies" "I" ∈ wsX6_init := by decide +kernel
theorem lX6_init_f33 : Cond.fieldLink RX6 33 "ModelCopiesModel" "slips" "[I" ∈ wsX6_init := by decide +kernel
theorem lX6_init_f36 : Cond.fieldLink RX6 36 "ModelCopiesModel" "spots" "[I" ∈ wsX6_init := by decide +kernel
theorem lX6_init_f39 : Cond.fieldLink RX6 39 "ModelCopiesModel" "olds" "[I" ∈ wsX6_init := by decide +kernel
theorem lX6_init_f42 : Cond.fieldLink RX6 42 "ModelCopiesModel" "news" "[I" ∈ wsX6_init := by decide +kernel
theorem lX6_init_f45 : Cond.fieldLink RX6 45 "ModelCopiesModel" "has" "[Z" ∈ wsX6_init := by decide +kernel
theorem lX6_init_f48 : Cond.fieldLink RX6 48 "ModelCopiesModel" "lent" "[I" ∈ wsX6_init := by decide +kernel
theorem lX6_init_f51 : Cond.fieldLink RX6 51 "ModelCopiesModel" "borrowers" "[I" ∈ wsX6_init := by decide +kernel
theorem lX6_init_f54 : Cond.fieldLink RX6 54 "ModelCopiesModel" "lasts" "[I" ∈ wsX6_init := by decide +kernel
theorem lX6_init_f57 : Cond.fieldLink RX6 57 "ModelCopiesModel" "pledges" "[I" ∈ wsX6_init := by decide +kernel
theorem lX6_init_f60 : Cond.fieldLink RX6 60 "ModelCopiesModel" "lates" "[I" ∈ wsX6_init := by decide +kernel
theorem lX6_init_f63 : Cond.fieldLink RX6 63 "ModelCopiesModel" "back" "[Z" ∈ wsX6_init := by decide +kernel
theorem lX6_init_f69 : Cond.fieldLink RX6 69 "ModelCopiesModel" "laid" "[I" ∈ wsX6_init := by decide +kernel
theorem lX6_init_f72 : Cond.fieldLink RX6 72 "ModelCopiesModel" "families" "[I" ∈ wsX6_init := by decide +kernel
theorem lX6_init_m1 : Cond.methodLink RX6 1 objectInit ∈ wsX6_init := by decide +kernel
theorem vX6_init_oi : Cond.instanceMethod objectInit ∈ wsX6_init := by decide +kernel
theorem cX6_init_oi : Cond.code objectInit ⟨#[0xb1]⟩ 1 none ∈ wsX6_init := by decide +kernel
def xr (m : Nat) (o : Nat → Option Nat) (V : Nat → Nat → Int) (rows : va_W) : va_W := (m, .inr (7, [va_rf (o 0), va_rf (o 1), va_rf (o 2), va_rf (o 3), va_rf (o 4), .int (iI (V 5 0)), va_rf (o 6), .int (iI (V 7 0)), va_rf (o 8), .int (iI (V 9 0)), va_rf (o 10), va_rf (o 11), va_rf (o 12), va_rf (o 13), .int (iI (V 14 0)), va_rf (o 15), va_rf (o 16), va_rf (o 17), va_rf (o 18), va_rf (o 19), va_rf (o 20), .int (iI (V 21 0)), va_rf (o 22), va_rf (o 23), va_rf (o 24), .int (iI (V 25 0))])) :: rows
section
variable {m : Nat} {o : Nat → Option Nat} {V : Nat → Nat → Int} {rows Y : va_W}
theorem xrm : (m, .inr (7, [va_rf (o 0), va_rf (o 1), va_rf (o 2), va_rf (o 3), va_rf (o 4), .int (iI (V 5 0)), va_rf (o 6), .int (iI (V 7 0)), va_rf (o 8), .int (iI (V 9 0)), va_rf (o 10), va_rf (o 11), va_rf (o 12), va_rf (o 13), .int (iI (V 14 0)), va_rf (o 15), va_rf (o 16), va_rf (o 17), va_rf (o 18), va_rf (o 19), va_rf (o 20), .int (iI (V 21 0)), va_rf (o 22), va_rf (o 23), va_rf (o 24), .int (iI (V 25 0))])) ∈ xr m o V rows ++ Y := List.mem_of_getElem? (i := 0) rfl
theorem xrs_0 {z : Nat} : wSet (xr m o V rows ++ Y) m (.inr (7, [.ref z, va_rf (o 1), va_rf (o 2), va_rf (o 3), va_rf (o 4), .int (iI (V 5 0)), va_rf (o 6), .int (iI (V 7 0)), va_rf (o 8), .int (iI (V 9 0)), va_rf (o 10), va_rf (o 11), va_rf (o 12), va_rf (o 13), .int (iI (V 14 0)), va_rf (o 15), va_rf (o 16), va_rf (o 17), va_rf (o 18), va_rf (o 19), va_rf (o 20), .int (iI (V 21 0)), va_rf (o 22), va_rf (o 23), va_rf (o 24), .int (iI (V 25 0))])) (xr m (va_up o 0 (some z)) V rows ++ Y) := wSet_at 0 rfl rfl
theorem xrs_1 {z : Nat} : wSet (xr m o V rows ++ Y) m (.inr (7, [va_rf (o 0), .ref z, va_rf (o 2), va_rf (o 3), va_rf (o 4), .int (iI (V 5 0)), va_rf (o 6), .int (iI (V 7 0)), va_rf (o 8), .int (iI (V 9 0)), va_rf (o 10), va_rf (o 11), va_rf (o 12), va_rf (o 13), .int (iI (V 14 0)), va_rf (o 15), va_rf (o 16), va_rf (o 17), va_rf (o 18), va_rf (o 19), va_rf (o 20), .int (iI (V 21 0)), va_rf (o 22), va_rf (o 23), va_rf (o 24), .int (iI (V 25 0))])) (xr m (va_up o 1 (some z)) V rows ++ Y) := wSet_at 0 rfl rfl
theorem xrs_2 {z : Nat} : wSet (xr m o V rows ++ Y) m (.inr (7, [va_rf (o 0), va_rf (o 1), .ref z, va_rf (o 3), va_rf (o 4), .int (iI (V 5 0)), va_rf (o 6), .int (iI (V 7 0)), va_rf (o 8), .int (iI (V 9 0)), va_rf (o 10), va_rf (o 11), va_rf (o 12), va_rf (o 13), .int (iI (V 14 0)), va_rf (o 15), va_rf (o 16), va_rf (o 17), va_rf (o 18), va_rf (o 19), va_rf (o 20), .int (iI (V 21 0)), va_rf (o 22), va_rf (o 23), va_rf (o 24), .int (iI (V 25 0))])) (xr m (va_up o 2 (some z)) V rows ++ Y) := wSet_at 0 rfl rfl
theorem xrs_3 {z : Nat} : wSet (xr m o V rows ++ Y) m (.inr (7, [va_rf (o 0), va_rf (o 1), va_rf (o 2), .ref z, va_rf (o 4), .int (iI (V 5 0)), va_rf (o 6), .int (iI (V 7 0)), va_rf (o 8), .int (iI (V 9 0)), va_rf (o 10), va_rf (o 11), va_rf (o 12), va_rf (o 13), .int (iI (V 14 0)), va_rf (o 15), va_rf (o 16), va_rf (o 17), va_rf (o 18), va_rf (o 19), va_rf (o 20), .int (iI (V 21 0)), va_rf (o 22), va_rf (o 23), va_rf (o 24), .int (iI (V 25 0))])) (xr m (va_up o 3 (some z)) V rows ++ Y) := wSet_at 0 rfl rfl
theorem xrs_4 {z : Nat} : wSet (xr m o V rows ++ Y) m (.inr (7, [va_rf (o 0), va_rf (o 1), va_rf (o 2), va_rf (o 3), .ref z, .int (iI (V 5 0)), va_rf (o 6), .int (iI (V 7 0)), va_rf (o 8), .int (iI (V 9 0)), va_rf (o 10), va_rf (o 11), va_rf (o 12), va_rf (o 13), .int (iI (V 14 0)), va_rf (o 15), va_rf (o 16), va_rf (o 17), va_rf (o 18), va_rf (o 19), va_rf (o 20), .int (iI (V 21 0)), va_rf (o 22), va_rf (o 23), va_rf (o 24), .int (iI (V 25 0))])) (xr m (va_up o 4 (some z)) V rows ++ Y) := wSet_at 0 rfl rfl
theorem xrs_5 {z : Int} : wSet (xr m o V rows ++ Y) m (.inr (7, [va_rf (o 0), va_rf (o 1), va_rf (o 2), va_rf (o 3), va_rf (o 4), .int (iI z), va_rf (o 6), .int (iI (V 7 0)), va_rf (o 8), .int (iI (V 9 0)), va_rf (o 10), va_rf (o 11), va_rf (o 12), va_rf (o 13), .int (iI (V 14 0)), va_rf (o 15), va_rf (o 16), va_rf (o 17), va_rf (o 18), va_rf (o 19), va_rf (o 20), .int (iI (V 21 0)), va_rf (o 22), va_rf (o 23), va_rf (o 24), .int (iI (V 25 0))])) (xr m o (up2 V 5 0 z) rows ++ Y) := wSet_at 0 rfl rfl
theorem xrs_6 {z : Nat} : wSet (xr m o V rows ++ Y) m (.inr (7, [va_rf (o 0), va_rf (o 1), va_rf (o 2), va_rf (o 3), va_rf (o 4), .int (iI (V 5 0)), .ref z, .int (iI (V 7 0)), va_rf (o 8), .int (iI (V 9 0)), va_rf (o 10), va_rf (o 11), va_rf (o 12), va_rf (o 13), .int (iI (V 14 0)), va_rf (o 15), va_rf (o 16), va_rf (o 17), va_rf (o 18), va_rf (o 19), va_rf (o 20), .int (iI (V 21 0)), va_rf (o 22), va_rf (o 23), va_rf (o 24), .int (iI (V 25 0))])) (xr m (va_up o 6 (some z)) V rows ++ Y) := wSet_at 0 rfl rfl
theorem xrs_8 {z : Nat} : wSet (xr m o V rows ++ Y) m (.inr (7, [va_rf (o 0), va_rf (o 1), va_rf (o 2), va_rf (o 3), va_rf (o 4), .int (iI (V 5 0)), va_rf (o 6), .int (iI (V 7 0)), .ref z, .int (iI (V 9 0)), va_rf (o 10), va_rf (o 11), va_rf (o 12), va_rf (o 13), .int (iI (V 14 0)), va_rf (o 15), va_rf (o 16), va_rf (o 17), va_rf (o 18), va_rf (o 19), va_rf (o 20), .int (iI (V 21 0)), va_rf (o 22), va_rf (o 23), va_rf (o 24), .int (iI (V 25 0))])) (xr m (va_up o 8 (some z)) V rows ++ Y) := wSet_at 0 rfl rfl
theorem xrs_10 {z : Nat} : wSet (xr m o V rows ++ Y) m (.inr (7, [va_rf (o 0), va_rf (o 1), va_rf (o 2), va_rf (o 3), va_rf (o 4), .int (iI (V 5 0)), va_rf (o 6), .int (iI (V 7 0)), va_rf (o 8), .int (iI (V 9 0)), .ref z, va_rf (o 11), va_rf (o 12), va_rf (o 13), .int (iI (V 14 0)), va_rf (o 15), va_rf (o 16), va_rf (o 17), va_rf (o 18), va_rf (o 19), va_rf (o 20), .int (iI (V 21 0)), va_rf (o 22), va_rf (o 23), va_rf (o 24), .int (iI (V 25 0))])) (xr m (va_up o 10 (some z)) V rows ++ Y) := wSet_at 0 rfl rfl
theorem xrs_11 {z : Nat} : wSet (xr m o V rows ++ Y) m (.inr (7, [va_rf (o 0), va_rf (o 1), va_rf (o 2), va_rf (o 3), va_rf (o 4), .int (iI (V 5 0)), va_rf (o 6), .int (iI (V 7 0)), va_rf (o 8), .int (iI (V 9 0)), va_rf (o 10), .ref z, va_rf (o 12), va_rf (o 13), .int (iI (V 14 0)), va_rf (o 15), va_rf (o 16), va_rf (o 17), va_rf (o 18), va_rf (o 19), va_rf (o 20), .int (iI (V 21 0)), va_rf (o 22), va_rf (o 23), va_rf (o 24), .int (iI (V 25 0))])) (xr m (va_up o 11 (some z)) V rows ++ Y) := wSet_at 0 rfl rfl
theorem xrs_12 {z : Nat} : wSet (xr m o V rows ++ Y) m (.inr (7, [va_rf (o 0), va_rf (o 1), va_rf (o 2), va_rf (o 3), va_rf (o 4), .int (iI (V 5 0)), va_rf (o 6), .int (iI (V 7 0)), va_rf (o 8), .int (iI (V 9 0)), va_rf (o 10), va_rf (o 11), .ref z, va_rf (o 13), .int (iI (V 14 0)), va_rf (o 15), va_rf (o 16), va_rf (o 17), va_rf (o 18), va_rf (o 19), va_rf (o 20), .int (iI (V 21 0)), va_rf (o 22), va_rf (o 23), va_rf (o 24), .int (iI (V 25 0))])) (xr m (va_up o 12 (some z)) V rows ++ Y) := wSet_at 0 rfl rfl
theorem xrs_13 {z : Nat} : wSet (xr m o V rows ++ Y) m (.inr (7, [va_rf (o 0), va_rf (o 1), va_rf (o 2), va_rf (o 3), va_rf (o 4), .int (iI (V 5 0)), va_rf (o 6), .int (iI (V 7 0)), va_rf (o 8), .int (iI (V 9 0)), va_rf (o 10), va_rf (o 11), va_rf (o 12), .ref z, .int (iI (V 14 0)), va_rf (o 15), va_rf (o 16), va_rf (o 17), va_rf (o 18), va_rf (o 19), va_rf (o 20), .int (iI (V 21 0)), va_rf (o 22), va_rf (o 23), va_rf (o 24), .int (iI (V 25 0))])) (xr m (va_up o 13 (some z)) V rows ++ Y) := wSet_at 0 rfl rfl
theorem xrs_15 {z : Nat} : wSet (xr m o V rows ++ Y) m (.inr (7, [va_rf (o 0), va_rf (o 1), va_rf (o 2), va_rf (o 3), va_rf (o 4), .int (iI (V 5 0)), va_rf (o 6), .int (iI (V 7 0)), va_rf (o 8), .int (iI (V 9 0)), va_rf (o 10), va_rf (o 11), va_rf (o 12), va_rf (o 13), .int (iI (V 14 0)), .ref z, va_rf (o 16), va_rf (o 17), va_rf (o 18), va_rf (o 19), va_rf (o 20), .int (iI (V 21 0)), va_rf (o 22), va_rf (o 23), va_rf (o 24), .int (iI (V 25 0))])) (xr m (va_up o 15 (some z)) V rows ++ Y) := wSet_at 0 rfl rfl
theorem xrs_16 {z : Nat} : wSet (xr m o V rows ++ Y) m (.inr (7, [va_rf (o 0), va_rf (o 1), va_rf (o 2), va_rf (o 3), va_rf (o 4), .int (iI (V 5 0)), va_rf (o 6), .int (iI (V 7 0)), va_rf (o 8), .int (iI (V 9 0)), va_rf (o 10), va_rf (o 11), va_rf (o 12), va_rf (o 13), .int (iI (V 14 0)), va_rf (o 15), .ref z, va_rf (o 17), va_rf (o 18), va_rf (o 19), va_rf (o 20), .int (iI (V 21 0)), va_rf (o 22), va_rf (o 23), va_rf (o 24), .int (iI (V 25 0))])) (xr m (va_up o 16 (some z)) V rows ++ Y) := wSet_at 0 rfl rfl
theorem xrs_17 {z : Nat} : wSet (xr m o V rows ++ Y) m (.inr (7, [va_rf (o 0), va_rf (o 1), va_rf (o 2), va_rf (o 3), va_rf (o 4), .int (iI (V 5 0)), va_rf (o 6), .int (iI (V 7 0)), va_rf (o 8), .int (iI (V 9 0)), va_rf (o 10), va_rf (o 11), va_rf (o 12), va_rf (o 13), .int (iI (V 14 0)), va_rf (o 15), va_rf (o 16), .ref z, va_rf (o 18), va_rf (o 19), va_rf (o 20), .int (iI (V 21 0)), va_rf (o 22), va_rf (o 23), va_rf (o 24), .int (iI (V 25 0))])) (xr m (va_up o 17 (some z)) V rows ++ Y) := wSet_at 0 rfl rfl
theorem xrs_18 {z : Nat} : wSet (xr m o V rows ++ Y) m (.inr (7, [va_rf (o 0), va_rf (o 1), va_rf (o 2), va_rf (o 3), va_rf (o 4), .int (iI (V 5 0)), va_rf (o 6), .int (iI (V 7 0)), va_rf (o 8), .int (iI (V 9 0)), va_rf (o 10), va_rf (o 11), va_rf (o 12), va_rf (o 13), .int (iI (V 14 0)), va_rf (o 15), va_rf (o 16), va_rf (o 17), .ref z, va_rf (o 19), va_rf (o 20), .int (iI (V 21 0)), va_rf (o 22), va_rf (o 23), va_rf (o 24), .int (iI (V 25 0))])) (xr m (va_up o 18 (some z)) V rows ++ Y) := wSet_at 0 rfl rfl
theorem xrs_19 {z : Nat} : wSet (xr m o V rows ++ Y) m (.inr (7, [va_rf (o 0), va_rf (o 1), va_rf (o 2), va_rf (o 3), va_rf (o 4), .int (iI (V 5 0)), va_rf (o 6), .int (iI (V 7 0)), va_rf (o 8), .int (iI (V 9 0)), va_rf (o 10), va_rf (o 11), va_rf (o 12), va_rf (o 13), .int (iI (V 14 0)), va_rf (o 15), va_rf (o 16), va_rf (o 17), va_rf (o 18), .ref z, va_rf (o 20), .int (iI (V 21 0)), va_rf (o 22), va_rf (o 23), va_rf (o 24), .int (iI (V 25 0))])) (xr m (va_up o 19 (some z)) V rows ++ Y) := wSet_at 0 rfl rfl
theorem xrs_20 {z : Nat} : wSet (xr m o V rows ++ Y) m (.inr (7, [va_rf (o 0), va_rf (o 1), va_rf (o 2), va_rf (o 3), va_rf (o 4), .int (iI (V 5 0)), va_rf (o 6), .int (iI (V 7 0)), va_rf (o 8), .int (iI (V 9 0)), va_rf (o 10), va_rf (o 11), va_rf (o 12), va_rf (o 13), .int (iI (V 14 0)), va_rf (o 15), va_rf (o 16), va_rf (o 17), va_rf (o 18), va_rf (o 19), .ref z, .int (iI (V 21 0)), va_rf (o 22), va_rf (o 23), va_rf (o 24), .int (iI (V 25 0))])) (xr m (va_up o 20 (some z)) V rows ++ Y) := wSet_at 0 rfl rfl
theorem xrs_22 {z : Nat} : wSet (xr m o V rows ++ Y) m (.inr (7, [va_rf (o 0), va_rf (o 1), va_rf (o 2), va_rf (o 3), va_rf (o 4), .int (iI (V 5 0)), va_rf (o 6), .int (iI (V 7 0)), va_rf (o 8), .int (iI (V 9 0)), va_rf (o 10), va_rf (o 11), va_rf (o 12), va_rf (o 13), .int (iI (V 14 0)), va_rf (o 15), va_rf (o 16), va_rf (o 17), va_rf (o 18), va_rf (o 19), va_rf (o 20), .int (iI (V 21 0)), .ref z, va_rf (o 23), va_rf (o 24), .int (iI (V 25 0))])) (xr m (va_up o 22 (some z)) V rows ++ Y) := wSet_at 0 rfl rfl
theorem xrs_23 {z : Nat} : wSet (xr m o V rows ++ Y) m (.inr (7, [va_rf (o 0), va_rf (o 1), va_rf (o 2), va_rf (o 3), va_rf (o 4), .int (iI (V 5 0)), va_rf (o 6), .int (iI (V 7 0)), va_rf (o 8), .int (iI (V 9 0)), va_rf (o 10), va_rf (o 11), va_rf (o 12), va_rf (o 13), .int (iI (V 14 0)), va_rf (o 15), va_rf (o 16), va_rf (o 17), va_rf (o 18), va_rf (o 19), va_rf (o 20), .int (iI (V 21 0)), va_rf (o 22), .ref z, va_rf (o 24), .int (iI (V 25 0))])) (xr m (va_up o 23 (some z)) V rows ++ Y) := wSet_at 0 rfl rfl
theorem xrs_24 {z : Nat} : wSet (xr m o V rows ++ Y) m (.inr (7, [va_rf (o 0), va_rf (o 1), va_rf (o 2), va_rf (o 3), va_rf (o 4), .int (iI (V 5 0)), va_rf (o 6), .int (iI (V 7 0)), va_rf (o 8), .int (iI (V 9 0)), va_rf (o 10), va_rf (o 11), va_rf (o 12), va_rf (o 13), .int (iI (V 14 0)), va_rf (o 15), va_rf (o 16), va_rf (o 17), va_rf (o 18), va_rf (o 19), va_rf (o 20), .int (iI (V 21 0)), va_rf (o 22), va_rf (o 23), .ref z, .int (iI (V 25 0))])) (xr m (va_up o 24 (some z)) V rows ++ Y) := wSet_at 0 rfl rfl
end
theorem va_D.perm {A : Nat → Prop} {ws ws' : va_W} (h : va_D A ws) (p : ws.Perm ws') : va_D A ws' := by
  have n1 : (ws.map Prod.fst).Nodup := by
    rw [List.nodup_iff_pairwise_ne, List.pairwise_iff_getElem]
    intro i j hi hj hij e
    simp only [List.length_map] at hi hj
    simp only [List.getElem_map] at e
    have := h.1 i j _ _ (List.getElem?_eq_getElem hi) (List.getElem?_eq_getElem hj) e
    omega
  have n2 : (ws'.map Prod.fst).Nodup := (p.map Prod.fst).nodup_iff.mp n1
  rw [List.nodup_iff_pairwise_ne, List.pairwise_iff_getElem] at n2
  refine ⟨fun i j a b hi hj e => ?_, fun k q hk => ?_⟩
  · obtain ⟨li, ei⟩ := List.getElem?_eq_some_iff.mp hi
    obtain ⟨lj, ej⟩ := List.getElem?_eq_some_iff.mp hj
    have key : ∀ (i j : Nat) (li : i < ws'.length) (lj : j < ws'.length), i < j → ws'[i].1 ≠ ws'[j].1 := fun i j li lj hij => by
      have := n2 i j (by rw [List.length_map]; exact li) (by rw [List.length_map]; exact lj) hij
      simpa only [List.getElem_map] using this
    rcases Nat.lt_trichotomy i j with c | c | c
    · exact absurd (by rw [ei, ej]; exact e) (key i j li lj c)
    · exact c
    · exact absurd (by rw [ei, ej]; exact e.symm) (key j i lj li c)
  · have hm : q ∈ ws := p.mem_iff.mpr (List.mem_of_getElem? hk)
    obtain ⟨k', hk'⟩ := List.getElem?_of_mem hm
    exact h.2 k' q hk'
theorem va_P.perm {D : va_G} {cl : List vw_C} {ws ws' : va_W} {H : Heap} (h : va_P D cl ws H) (p : ws.Perm ws') : va_P D cl ws' H := fun k q hk => by
  have hm : q ∈ ws := p.mem_iff.mpr (List.mem_of_getElem? hk)
  obtain ⟨k', hk'⟩ := List.getElem?_of_mem hm
  exact h k' q hk'
def VZ : Nat → Nat → Int := up2 (fun _ _ => 0) 5 0 1
theorem xr_xm {G : GG} {Y : va_W} {q0 q1 q2 q3 q4 q6 q8 q10 q11 q12 q13 q15 q16 q17 q18 q19 q20 q22 q23 q24 m : Nat} : xr m (va_up (va_up (va_up (va_up (va_up (va_up (va_up (va_up (va_up (va_up (va_up (va_up (va_up (va_up (va_up (va_up (va_up (va_up (va_up (va_up (fun _ => none) 0 (some q0)) 1 (some q1)) 2 (some q2)) 3 (some q3)) 4 (some q4)) 6 (some q6)) 8 (some q8)) 10 (some q10)) 11 (some q11)) 12 (some q12)) 13 (some q13)) 15 (some q15)) 16 (some q16)) 17 (some q17)) 18 (some q18)) 19 (some q19)) 20 (some q20)) 22 (some q22)) 23 (some q23)) 24 (some q24)) (up2 (fun _ _ => 0) 5 0 1) (((((((((((((((((((([] ++ [(q0, .inl (G.2.1, 960, .inl (fun _ => iI 0)))]) ++ [(q1, .inl (G.2.1, 40, .inl (fun _ => iI 0)))]) ++ [(q2, .inl (G.2.2.1, 40, .inl (fun _ => iI 0)))]) ++ [(q3, .inl (G.2.1, 40, .inl (fun _ => iI 0)))]) ++ [(q4, .inl (G.2.1, 40, .inl (fun _ => iI 0)))]) ++ [(q6, .inl (G.2.1, 24, .inl (fun _ => iI 0)))]) ++ [(q8, .inl (G.2.1, 6, .inl (fun _ => iI 0)))]) ++ [(q10, .inl (G.2.1, 60, .inl (fun _ => iI 0)))]) ++ [(q11, .inl (G.2.1, 60, .inl (fun _ => iI 0)))]) ++ [(q12, .inl (G.2.1, 60, .inl (fun _ => iI 0)))]) ++ [(q13, .inl (G.2.2.1, 300, .inl (fun _ => iI 0)))]) ++ [(q15, .inl (G.2.1, 40, .inl (fun _ => iI 0)))]) ++ [(q16, .inl (G.2.1, 40, .inl (fun _ => iI 0)))]) ++ [(q17, .inl (G.2.1, 40, .inl (fun _ => iI 0)))]) ++ [(q18, .inl (G.2.1, 40, .inl (fun _ => iI 0)))]) ++ [(q19, .inl (G.2.1, 40, .inl (fun _ => iI 0)))]) ++ [(q20, .inl (G.2.2.1, 40, .inl (fun _ => iI 0)))]) ++ [(q22, .inl (G.2.1, 5, .inl (fun _ => iI 0)))]) ++ [(q23, .inl (G.2.1, 5, .inl (fun _ => iI 0)))]) ++ [(q24, .inl (G.2.1, 40, .inl (fun _ => iI 0)))]) ++ Y = xm G (fun k => if k = 0 then q0 else if k = 1 then q1 else if k = 2 then q2 else if k = 3 then q3 else if k = 4 then q4 else if k = 6 then q6 else if k = 8 then q8 else if k = 10 then q10 else if k = 11 then q11 else if k = 12 then q12 else if k = 13 then q13 else if k = 15 then q15 else if k = 16 then q16 else if k = 17 then q17 else if k = 18 then q18 else if k = 19 then q19 else if k = 20 then q20 else if k = 22 then q22 else if k = 23 then q23 else if k = 24 then q24 else m) VZ ++ Y := by
  refine congrArg (fun w => w ++ Y) ?_
  simp only [xr, xm, va_up, va_rf, List.nil_append, List.cons_append]
  rfl
section
variable {κ : KxT} {nL : Nat} {G : GG} {base mc ms : Nat} {post : Option Value → va_W → Prop} {exc : String → va_W → Prop} {cells slots pc : Nat} {lv : List (Nat × Value)} {st : List Value} {ws ws' : va_W}
theorem z_perm (p : ws.Perm ws') (kk : Z κ nL G base mc ms post exc cells slots pc lv st ws') : Z κ nL G base mc ms post exc cells slots pc lv st ws := fun ls H locs h hP hD hS => kk ls H locs h (hP.perm p) (hD.perm p) hS
theorem z_rot {m : Nat} {o : Nat → Option Nat} {V : Nat → Nat → Int} {rows Y : va_W} {z : Nat × va_E} (kk : Z κ nL G base mc ms post exc cells slots pc lv st (xr m o V (rows ++ [z]) ++ Y)) : Z κ nL G base mc ms post exc cells slots pc lv st ((xr m o V rows ++ Y) ++ [z]) := by
  refine z_perm ?_ kk
  show ((xr m o V rows ++ Y) ++ [z]).Perm (xr m o V (rows ++ [z]) ++ Y)
  rw [show xr m o V (rows ++ [z]) ++ Y = xr m o V rows ++ ([z] ++ Y) by simp [xr], List.append_assoc]
  exact List.Perm.append_left _ List.perm_append_comm
end
/-- what a new reference holds -/
def V0 : Nat → Nat → Int := fun k j => if k = 1 then (if j = 0 then -1 else 0) else if k = 5 then (if j = 0 then 1 else 0) else if k = 6 then (if j < 24 then -1 else 0) else if k = 22 then (if j < 5 then 100 else 0) else 0
section
variable {κ : KxT} {G : GG} {base mc ms : Nat} {post : Option Value → va_W → Prop} {exc : String → va_W → Prop} {q : Nat → Nat} {V : Nat → Nat → Int} {Y : va_W} {l : Launch}
abbrev rmX6_init : Room := { frames := 2, cells := 20, slots := 2000, locals := 80 }
theorem lp_X6_i1 (C : Cx κ cX6_init 2 wsX6_init RX6 none rmX6_init G base) {V : Nat → Nat → Int} (kk : ∀ f : Nat → Int, (∀ j, f j = if j < 24 then -1 else V 6 j) → Z κ 2 G base mc ms post exc 20 1920 197 [(1, .int (iI ((24 : Nat) : Int))), (0, .ref (q 30))] [] (xm G q (va_up V 6 f) ++ Y)) :
    ∀ (d k : Nat) (f : Nat → Int), k + d = 24 → (∀ j, f j = if j < k then -1 else V 6 j) → Z κ 2 G base mc ms post exc 20 1920 178 [(1, .int (iI (k : Int))), (0, .ref (q 30))] [] (xm G q (va_up V 6 f) ++ Y) := by
  intro d
  induction d with
  | zero =>
    intro k f hk hf
    have e : k = 24 := by omega
    subst e
    refine z_iload_n C 0 rfl rfl dX6_init_178 (rfl : 178 + 1 = 179) ?_
    refine z_bipush (c := 24) C (by decide) dX6_init_179 (rfl : 179 + 2 = 181) ?_
    refine z_icmp_ge (pt := 197) C dX6_init_181 (by decide) (rfl : 181 + 3 = 184) (iI_le (by omega) (by omega)).1 (fun q => mt (iI_le (by omega) (by omega)).2 q) (fun c1 => ?_) (fun c1 => ?_)
    · exact kk f hf
    · exact absurd c1 (by omega)
  | succ d ih =>
    intro k f hk hf
    refine z_iload_n C 0 rfl rfl dX6_init_178 (rfl : 178 + 1 = 179) ?_
    refine z_bipush (c := 24) C (by decide) dX6_init_179 (rfl : 179 + 2 = 181) ?_
    refine z_icmp_ge (pt := 197) C dX6_init_181 (by decide) (rfl : 181 + 3 = 184) (iI_le (by omega) (by omega)).1 (fun q => mt (iI_le (by omega) (by omega)).2 q) (fun c1 => ?_) (fun c1 => ?_)
    · exact absurd c1 (by omega)
    refine z_aload_n C 1 rfl rfl dX6_init_184 (rfl : 184 + 1 = 185) ?_
    refine z_get C xmm rfl iX6_init_X6 6 (by decide) lX6_init_f30 rfl rfl dX6_init_185 (rfl : 185 + 3 = 188) ?_
    refine z_iload_n C 0 rfl rfl dX6_init_188 (rfl : 188 + 1 = 189) ?_
    refine z_iconst C dX6_init_189 (rfl : 189 + 1 = 190) ?_
    refine z_iast C xmm_6 ⟨by omega, by omega⟩ (by omega) dX6_init_190 (rfl : 190 + 1 = 191) (xms_6 (i := k)) ?_
    refine z_iinc (lv' := [(1, _), (0, _)]) C 0 dX6_init_191 (rfl : 191 + 3 = 194) rfl rfl (by decide) rfl ?_
    refine z_goto (pc' := 178) C dX6_init_194 (by decide) ?_
    refine z_ws (ws' := xm G q (va_up V 6 (va_up f k (-1))) ++ Y) (by rw [up2_row, va_up_self, up_up]) ?_
    refine ih (k + 1) _ (by omega) (fun j => ?_)
    simp only [va_up]
    have := hf j
    by_cases e : j = k
    · subst e; rw [if_pos rfl, if_pos (by omega)]
    · rw [if_neg e, this]
      by_cases h : j < k
      · rw [if_pos h, if_pos (by omega)]
      · rw [if_neg h, if_neg (by omega)]
theorem lp_X6_i2 (C : Cx κ cX6_init 2 wsX6_init RX6 none rmX6_init G base) {V : Nat → Nat → Int} (kk : ∀ f : Nat → Int, (∀ j, f j = if j < 5 then 100 else V 22 j) → Z κ 2 G base mc ms post exc 20 1920 218 [(1, .int (iI ((5 : Nat) : Int))), (0, .ref (q 30))] [] (xm G q (va_up V 22 f) ++ Y)) :
    ∀ (d k : Nat) (f : Nat → Int), k + d = 5 → (∀ j, f j = if j < k then 100 else V 22 j) → Z κ 2 G base mc ms post exc 20 1920 199 [(1, .int (iI (k : Int))), (0, .ref (q 30))] [] (xm G q (va_up V 22 f) ++ Y) := by
  intro d
  induction d with
  | zero =>
    intro k f hk hf
    have e : k = 5 := by omega
    subst e
    refine z_iload_n C 0 rfl rfl dX6_init_199 (rfl : 199 + 1 = 200) ?_
    refine z_iconst C dX6_init_200 (rfl : 200 + 1 = 201) ?_
    refine z_icmp_ge (pt := 218) C dX6_init_201 (by decide) (rfl : 201 + 3 = 204) (iI_le (by omega) (by omega)).1 (fun q => mt (iI_le (by omega) (by omega)).2 q) (fun c1 => ?_) (fun c1 => ?_)
    · exact kk f hf
    · exact absurd c1 (by omega)
  | succ d ih =>
    intro k f hk hf
    refine z_iload_n C 0 rfl rfl dX6_init_199 (rfl : 199 + 1 = 200) ?_
    refine z_iconst C dX6_init_200 (rfl : 200 + 1 = 201) ?_
    refine z_icmp_ge (pt := 218) C dX6_init_201 (by decide) (rfl : 201 + 3 = 204) (iI_le (by omega) (by omega)).1 (fun q => mt (iI_le (by omega) (by omega)).2 q) (fun c1 => ?_) (fun c1 => ?_)
    · exact absurd c1 (by omega)
    refine z_aload_n C 1 rfl rfl dX6_init_204 (rfl : 204 + 1 = 205) ?_
    refine z_get C xmm rfl iX6_init_X6 22 (by decide) lX6_init_f66 rfl rfl dX6_init_205 (rfl : 205 + 3 = 208) ?_
    refine z_iload_n C 0 rfl rfl dX6_init_208 (rfl : 208 + 1 = 209) ?_
    refine z_bipush (c := 100) C (by decide) dX6_init_209 (rfl : 209 + 2 = 211) ?_
    refine z_iast C xmm_22 ⟨by omega, by omega⟩ (by omega) dX6_init_211 (rfl : 211 + 1 = 212) (xms_22 (i := k)) ?_
    refine z_iinc (lv' := [(1, _), (0, _)]) C 0 dX6_init_212 (rfl : 212 + 3 = 215) rfl rfl (by decide) rfl ?_
    refine z_goto (pc' := 199) C dX6_init_215 (by decide) ?_
    refine z_ws (ws' := xm G q (va_up V 22 (va_up f k 100)) ++ Y) (by rw [up2_row, va_up_self, up_up]) ?_
    refine ih (k + 1) _ (by omega) (fun j => ?_)
    simp only [va_up]
    have := hf j
    by_cases e : j = k
    · subst e; rw [if_pos rfl, if_pos (by omega)]
    · rw [if_neg e, this]
      by_cases h : j < k
      · rw [if_pos h, if_pos (by omega)]
      · rw [if_neg h, if_neg (by omega)]
theorem tl_X6_iA (C : Cx κ cX6_init 2 wsX6_init RX6 none rmX6_init G base) {m : Nat} {o : Nat → Option Nat} {V : Nat → Nat → Int} {rows : va_W} (hi : (kM κ).name = "<init>")
    (kk : ∀ q0 q1 q2 q3 : Nat, Z κ 2 G base mc ms post exc 4 1080 37 [(0, .ref m)] [] (xr m (va_up (va_up (va_up (va_up o 0 (some q0)) 1 (some q1)) 2 (some q2)) 3 (some q3)) V ((((rows ++ [(q0, .inl (G.2.1, 960, .inl (fun _ => iI 0)))]) ++ [(q1, .inl (G.2.1, 40, .inl (fun _ => iI 0)))]) ++ [(q2, .inl (G.2.2.1, 40, .inl (fun _ => iI 0)))]) ++ [(q3, .inl (G.2.1, 40, .inl (fun _ => iI 0)))]) ++ Y)) : Z κ 2 G base mc ms post exc 0 0 4 [(0, .ref m)] [] (xr m o V rows ++ Y) := by
  refine z_aload_n C 0 rfl rfl dX6_init_4 (rfl : 4 + 1 = 5) ?_
  refine z_sipush (c := 960) C (by decide) dX6_init_5 (rfl : 5 + 3 = 8) ?_
  refine z_newa (N' := 960) (a0 := (960, .inl (fun _ => iI 0))) C 0 rfl arX6_init_int rfl (fun _ => rfl) rfl (by decide) (by decide) (by decide) (by decide) dX6_init_8 (rfl : 8 + 2 = 10) (fun q0 hq0 => ?_)
  refine z_rot ?_
  refine z_putF C hi tyX6 tyX6_ok nmX6 xrm rfl iX6_init_X6 0 (by decide) lX6_init_f7 rfl rfl rfl rfl rfl (Nat.le_of_ble_eq_true rfl) dX6_init_10 (rfl : 10 + 3 = 13) xrs_0 ?_
  refine z_aload_n C 0 rfl rfl dX6_init_13 (rfl : 13 + 1 = 14) ?_
  refine z_bipush (c := 40) C (by decide) dX6_init_14 (rfl : 14 + 2 = 16) ?_
  refine z_newa (N' := 40) (a0 := (40, .inl (fun _ => iI 0))) C 0 rfl arX6_init_int rfl (fun _ => rfl) rfl (by decide) (by decide) (by decide) (by decide) dX6_init_16 (rfl : 16 + 2 = 18) (fun q1 hq1 => ?_)
  refine z_rot ?_
  refine z_putF C hi tyX6 tyX6_ok nmX6 xrm rfl iX6_init_X6 1 (by decide) lX6_init_f13 rfl rfl rfl rfl rfl (Nat.le_of_ble_eq_true rfl) dX6_init_18 (rfl : 18 + 3 = 21) xrs_1 ?_
  refine z_aload_n C 0 rfl rfl dX6_init_21 (rfl : 21 + 1 = 22) ?_
  refine z_bipush (c := 40) C (by decide) dX6_init_22 (rfl : 22 + 2 = 24) ?_
  refine z_newa (N' := 40) (a0 := (40, .inl (fun _ => iI 0))) C 1 rfl arX6_init_boolean rfl (fun _ => rfl) rfl (by decide) (by decide) (by decide) (by decide) dX6_init_24 (rfl : 24 + 2 = 26) (fun q2 hq2 => ?_)
  refine z_rot ?_
  refine z_putF C hi tyX6 tyX6_ok nmX6 xrm rfl iX6_init_X6 2 (by decide) lX6_init_f16 rfl rfl rfl rfl rfl (Nat.le_of_ble_eq_true rfl) dX6_init_26 (rfl : 26 + 3 = 29) xrs_2 ?_
  refine z_aload_n C 0 rfl rfl dX6_init_29 (rfl : 29 + 1 = 30) ?_
  refine z_bipush (c := 40) C (by decide) dX6_init_30 (rfl : 30 + 2 = 32) ?_
  refine z_newa (N' := 40) (a0 := (40, .inl (fun _ => iI 0))) C 0 rfl arX6_init_int rfl (fun _ => rfl) rfl (by decide) (by decide) (by decide) (by decide) dX6_init_32 (rfl : 32 + 2 = 34) (fun q3 hq3 => ?_)
  refine z_rot ?_
  refine z_putF C hi tyX6 tyX6_ok nmX6 xrm rfl iX6_init_X6 3 (by decide) lX6_init_f20 rfl rfl rfl rfl rfl (Nat.le_of_ble_eq_true rfl) dX6_init_34 (rfl : 34 + 3 = 37) xrs_3 ?_
  exact kk _ _ _ _
theorem tl_X6_iB (C : Cx κ cX6_init 2 wsX6_init RX6 none rmX6_init G base) {m : Nat} {o : Nat → Option Nat} {V : Nat → Nat → Int} {rows : va_W} (hi : (kM κ).name = "<init>")
    (kk : ∀ q4 q6 q8 : Nat, Z κ 2 G base mc ms post exc 7 1150 66 [(0, .ref m)] [] (xr m (va_up (va_up (va_up o 4 (some q4)) 6 (some q6)) 8 (some q8)) (up2 V 5 0 1) (((rows ++ [(q4, .inl (G.2.1, 40, .inl (fun _ => iI 0)))]) ++ [(q6, .inl (G.2.1, 24, .inl (fun _ => iI 0)))]) ++ [(q8, .inl (G.2.1, 6, .inl (fun _ => iI 0)))]) ++ Y)) : Z κ 2 G base mc ms post exc 4 1080 37 [(0, .ref m)] [] (xr m o V rows ++ Y) := by
  refine z_aload_n C 0 rfl rfl dX6_init_37 (rfl : 37 + 1 = 38) ?_
  refine z_bipush (c := 40) C (by decide) dX6_init_38 (rfl : 38 + 2 = 40) ?_
  refine z_newa (N' := 40) (a0 := (40, .inl (fun _ => iI 0))) C 0 rfl arX6_init_int rfl (fun _ => rfl) rfl (by decide) (by decide) (by decide) (by decide) dX6_init_40 (rfl : 40 + 2 = 42) (fun q4 hq4 => ?_)
  refine z_rot ?_
  refine z_putF C hi tyX6 tyX6_ok nmX6 xrm rfl iX6_init_X6 4 (by decide) lX6_init_f23 rfl rfl rfl rfl rfl (Nat.le_of_ble_eq_true rfl) dX6_init_42 (rfl : 42 + 3 = 45) xrs_4 ?_
  refine z_aload_n C 0 rfl rfl dX6_init_45 (rfl : 45 + 1 = 46) ?_
  refine z_iconst C dX6_init_46 (rfl : 46 + 1 = 47) ?_
  refine z_put C tyX6 tyX6_ok nmX6 xrm rfl iX6_init_X6 5 (by decide) lX6_init_f26 rfl rfl rfl rfl rfl (Nat.le_of_ble_eq_true rfl) dX6_init_47 (rfl : 47 + 3 = 50) xrs_5 ?_
  refine z_aload_n C 0 rfl rfl dX6_init_50 (rfl : 50 + 1 = 51) ?_
  refine z_bipush (c := 24) C (by decide) dX6_init_51 (rfl : 51 + 2 = 53) ?_
  refine z_newa (N' := 24) (a0 := (24, .inl (fun _ => iI 0))) C 0 rfl arX6_init_int rfl (fun _ => rfl) rfl (by decide) (by decide) (by decide) (by decide) dX6_init_53 (rfl : 53 + 2 = 55) (fun q6 hq6 => ?_)
  refine z_rot ?_
  refine z_putF C hi tyX6 tyX6_ok nmX6 xrm rfl iX6_init_X6 6 (by decide) lX6_init_f30 rfl rfl rfl rfl rfl (Nat.le_of_ble_eq_true rfl) dX6_init_55 (rfl : 55 + 3 = 58) xrs_6 ?_
  refine z_aload_n C 0 rfl rfl dX6_init_58 (rfl : 58 + 1 = 59) ?_
  refine z_bipush (c := 6) C (by decide) dX6_init_59 (rfl : 59 + 2 = 61) ?_
  refine z_newa (N' := 6) (a0 := (6, .inl (fun _ => iI 0))) C 0 rfl arX6_init_int rfl (fun _ => rfl) rfl (by decide) (by decide) (by decide) (by decide) dX6_init_61 (rfl : 61 + 2 = 63) (fun q8 hq8 => ?_)
  refine z_rot ?_
  refine z_putF C hi tyX6 tyX6_ok nmX6 xrm rfl iX6_init_X6 8 (by decide) lX6_init_f33 rfl rfl rfl rfl rfl (Nat.le_of_ble_eq_true rfl) dX6_init_63 (rfl : 63 + 3 = 66) xrs_8 ?_
  exact kk _ _ _
theorem tl_X6_iC (C : Cx κ cX6_init 2 wsX6_init RX6 none rmX6_init G base) {m : Nat} {o : Nat → Option Nat} {V : Nat → Nat → Int} {rows : va_W} (hi : (kM κ).name = "<init>")
    (kk : ∀ q10 q11 q12 q13 : Nat, Z κ 2 G base mc ms post exc 11 1630 99 [(0, .ref m)] [] (xr m (va_up (va_up (va_up (va_up o 10 (some q10)) 11 (some q11)) 12 (some q12)) 13 (some q13)) V ((((rows ++ [(q10, .inl (G.2.1, 60, .inl (fun _ => iI 0)))]) ++ [(q11, .inl (G.2.1, 60, .inl (fun _ => iI 0)))]) ++ [(q12, .inl (G.2.1, 60, .inl (fun _ => iI 0)))]) ++ [(q13, .inl (G.2.2.1, 300, .inl (fun _ => iI 0)))]) ++ Y)) : Z κ 2 G base mc ms post exc 7 1150 66 [(0, .ref m)] [] (xr m o V rows ++ Y) := by
  refine z_aload_n C 0 rfl rfl dX6_init_66 (rfl : 66 + 1 = 67) ?_
  refine z_bipush (c := 60) C (by decide) dX6_init_67 (rfl : 67 + 2 = 69) ?_
  refine z_newa (N' := 60) (a0 := (60, .inl (fun _ => iI 0))) C 0 rfl arX6_init_int rfl (fun _ => rfl) rfl (by decide) (by decide) (by decide) (by decide) dX6_init_69 (rfl : 69 + 2 = 71) (fun q10 hq10 => ?_)
  refine z_rot ?_
  refine z_putF C hi tyX6 tyX6_ok nmX6 xrm rfl iX6_init_X6 10 (by decide) lX6_init_f36 rfl rfl rfl rfl rfl (Nat.le_of_ble_eq_true rfl) dX6_init_71 (rfl : 71 + 3 = 74) xrs_10 ?_
  refine z_aload_n C 0 rfl rfl dX6_init_74 (rfl : 74 + 1 = 75) ?_
  refine z_bipush (c := 60) C (by decide) dX6_init_75 (rfl : 75 + 2 = 77) ?_
  refine z_newa (N' := 60) (a0 := (60, .inl (fun _ => iI 0))) C 0 rfl arX6_init_int rfl (fun _ => rfl) rfl (by decide) (by decide) (by decide) (by decide) dX6_init_77 (rfl : 77 + 2 = 79) (fun q11 hq11 => ?_)
  refine z_rot ?_
  refine z_putF C hi tyX6 tyX6_ok nmX6 xrm rfl iX6_init_X6 11 (by decide) lX6_init_f39 rfl rfl rfl rfl rfl (Nat.le_of_ble_eq_true rfl) dX6_init_79 (rfl : 79 + 3 = 82) xrs_11 ?_
  refine z_aload_n C 0 rfl rfl dX6_init_82 (rfl : 82 + 1 = 83) ?_
  refine z_bipush (c := 60) C (by decide) dX6_init_83 (rfl : 83 + 2 = 85) ?_
  refine z_newa (N' := 60) (a0 := (60, .inl (fun _ => iI 0))) C 0 rfl arX6_init_int rfl (fun _ => rfl) rfl (by decide) (by decide) (by decide) (by decide) dX6_init_85 (rfl : 85 + 2 = 87) (fun q12 hq12 => ?_)
  refine z_rot ?_
  refine z_putF C hi tyX6 tyX6_ok nmX6 xrm rfl iX6_init_X6 12 (by decide) lX6_init_f42 rfl rfl rfl rfl rfl (Nat.le_of_ble_eq_true rfl) dX6_init_87 (rfl : 87 + 3 = 90) xrs_12 ?_
  refine z_aload_n C 0 rfl rfl dX6_init_90 (rfl : 90 + 1 = 91) ?_
  refine z_sipush (c := 300) C (by decide) dX6_init_91 (rfl : 91 + 3 = 94) ?_
  refine z_newa (N' := 300) (a0 := (300, .inl (fun _ => iI 0))) C 1 rfl arX6_init_boolean rfl (fun _ => rfl) rfl (by decide) (by decide) (by decide) (by decide) dX6_init_94 (rfl : 94 + 2 = 96) (fun q13 hq13 => ?_)
  refine z_rot ?_
  refine z_putF C hi tyX6 tyX6_ok nmX6 xrm rfl iX6_init_X6 13 (by decide) lX6_init_f45 rfl rfl rfl rfl rfl (Nat.le_of_ble_eq_true rfl) dX6_init_96 (rfl : 96 + 3 = 99) xrs_13 ?_
  exact kk _ _ _ _
theorem tl_X6_iD (C : Cx κ cX6_init 2 wsX6_init RX6 none rmX6_init G base) {m : Nat} {o : Nat → Option Nat} {V : Nat → Nat → Int} {rows : va_W} (hi : (kM κ).name = "<init>")
    (kk : ∀ q15 q16 q17 q18 : Nat, Z κ 2 G base mc ms post exc 15 1790 131 [(0, .ref m)] [] (xr m (va_up (va_up (va_up (va_up o 15 (some q15)) 16 (some q16)) 17 (some q17)) 18 (some q18)) V ((((rows ++ [(q15, .inl (G.2.1, 40, .inl (fun _ => iI 0)))]) ++ [(q16, .inl (G.2.1, 40, .inl (fun _ => iI 0)))]) ++ [(q17, .inl (G.2.1, 40, .inl (fun _ => iI 0)))]) ++ [(q18, .inl (G.2.1, 40, .inl (fun _ => iI 0)))]) ++ Y)) : Z κ 2 G base mc ms post exc 11 1630 99 [(0, .ref m)] [] (xr m o V rows ++ Y) := by
  refine z_aload_n C 0 rfl rfl dX6_init_99 (rfl : 99 + 1 = 100) ?_
  refine z_bipush (c := 40) C (by decide) dX6_init_100 (rfl : 100 + 2 = 102) ?_
  refine z_newa (N' := 40) (a0 := (40, .inl (fun _ => iI 0))) C 0 rfl arX6_init_int rfl (fun _ => rfl) rfl (by decide) (by decide) (by decide) (by decide) dX6_init_102 (rfl : 102 + 2 = 104) (fun q15 hq15 => ?_)
  refine z_rot ?_
  refine z_putF C hi tyX6 tyX6_ok nmX6 xrm rfl iX6_init_X6 15 (by decide) lX6_init_f48 rfl rfl rfl rfl rfl (Nat.le_of_ble_eq_true rfl) dX6_init_104 (rfl : 104 + 3 = 107) xrs_15 ?_
  refine z_aload_n C 0 rfl rfl dX6_init_107 (rfl : 107 + 1 = 108) ?_
  refine z_bipush (c := 40) C (by decide) dX6_init_108 (rfl : 108 + 2 = 110) ?_
  refine z_newa (N' := 40) (a0 := (40, .inl (fun _ => iI 0))) C 0 rfl arX6_init_int rfl (fun _ => rfl) rfl (by decide) (by decide) (by decide) (by decide) dX6_init_110 (rfl : 110 + 2 = 112) (fun q16 hq16 => ?_)
  refine z_rot ?_
  refine z_putF C hi tyX6 tyX6_ok nmX6 xrm rfl iX6_init_X6 16 (by decide) lX6_init_f51 rfl rfl rfl rfl rfl (Nat.le_of_ble_eq_true rfl) dX6_init_112 (rfl : 112 + 3 = 115) xrs_16 ?_
  refine z_aload_n C 0 rfl rfl dX6_init_115 (rfl : 115 + 1 = 116) ?_
  refine z_bipush (c := 40) C (by decide) dX6_init_116 (rfl : 116 + 2 = 118) ?_
  refine z_newa (N' := 40) (a0 := (40, .inl (fun _ => iI 0))) C 0 rfl arX6_init_int rfl (fun _ => rfl) rfl (by decide) (by decide) (by decide) (by decide) dX6_init_118 (rfl : 118 + 2 = 120) (fun q17 hq17 => ?_)
  refine z_rot ?_
  refine z_putF C hi tyX6 tyX6_ok nmX6 xrm rfl iX6_init_X6 17 (by decide) lX6_init_f54 rfl rfl rfl rfl rfl (Nat.le_of_ble_eq_true rfl) dX6_init_120 (rfl : 120 + 3 = 123) xrs_17 ?_
  refine z_aload_n C 0 rfl rfl dX6_init_123 (rfl : 123 + 1 = 124) ?_
  refine z_bipush (c := 40) C (by decide) dX6_init_124 (rfl : 124 + 2 = 126) ?_
  refine z_newa (N' := 40) (a0 := (40, .inl (fun _ => iI 0))) C 0 rfl arX6_init_int rfl (fun _ => rfl) rfl (by decide) (by decide) (by decide) (by decide) dX6_init_126 (rfl : 126 + 2 = 128) (fun q18 hq18 => ?_)
  refine z_rot ?_
  refine z_putF C hi tyX6 tyX6_ok nmX6 xrm rfl iX6_init_X6 18 (by decide) lX6_init_f57 rfl rfl rfl rfl rfl (Nat.le_of_ble_eq_true rfl) dX6_init_128 (rfl : 128 + 3 = 131) xrs_18 ?_
  exact kk _ _ _ _
theorem tl_X6_iE (C : Cx κ cX6_init 2 wsX6_init RX6 none rmX6_init G base) {m : Nat} {o : Nat → Option Nat} {V : Nat → Nat → Int} {rows : va_W} (hi : (kM κ).name = "<init>")
    (kk : ∀ q19 q20 q22 q23 : Nat, Z κ 2 G base mc ms post exc 19 1880 161 [(0, .ref m)] [] (xr m (va_up (va_up (va_up (va_up o 19 (some q19)) 20 (some q20)) 22 (some q22)) 23 (some q23)) V ((((rows ++ [(q19, .inl (G.2.1, 40, .inl (fun _ => iI 0)))]) ++ [(q20, .inl (G.2.2.1, 40, .inl (fun _ => iI 0)))]) ++ [(q22, .inl (G.2.1, 5, .inl (fun _ => iI 0)))]) ++ [(q23, .inl (G.2.1, 5, .inl (fun _ => iI 0)))]) ++ Y)) : Z κ 2 G base mc ms post exc 15 1790 131 [(0, .ref m)] [] (xr m o V rows ++ Y) := by
  refine z_aload_n C 0 rfl rfl dX6_init_131 (rfl : 131 + 1 = 132) ?_
  refine z_bipush (c := 40) C (by decide) dX6_init_132 (rfl : 132 + 2 = 134) ?_
  refine z_newa (N' := 40) (a0 := (40, .inl (fun _ => iI 0))) C 0 rfl arX6_init_int rfl (fun _ => rfl) rfl (by decide) (by decide) (by decide) (by decide) dX6_init_134 (rfl : 134 + 2 = 136) (fun q19 hq19 => ?_)
  refine z_rot ?_
  refine z_putF C hi tyX6 tyX6_ok nmX6 xrm rfl iX6_init_X6 19 (by decide) lX6_init_f60 rfl rfl rfl rfl rfl (Nat.le_of_ble_eq_true rfl) dX6_init_136 (rfl : 136 + 3 = 139) xrs_19 ?_
  refine z_aload_n C 0 rfl rfl dX6_init_139 (rfl : 139 + 1 = 140) ?_
  refine z_bipush (c := 40) C (by decide) dX6_init_140 (rfl : 140 + 2 = 142) ?_
  refine z_newa (N' := 40) (a0 := (40, .inl (fun _ => iI 0))) C 1 rfl arX6_init_boolean rfl (fun _ => rfl) rfl (by decide) (by decide) (by decide) (by decide) dX6_init_142 (rfl : 142 + 2 = 144) (fun q20 hq20 => ?_)
  refine z_rot ?_
  refine z_putF C hi tyX6 tyX6_ok nmX6 xrm rfl iX6_init_X6 20 (by decide) lX6_init_f63 rfl rfl rfl rfl rfl (Nat.le_of_ble_eq_true rfl) dX6_init_144 (rfl : 144 + 3 = 147) xrs_20 ?_
  refine z_aload_n C 0 rfl rfl dX6_init_147 (rfl : 147 + 1 = 148) ?_
  refine z_iconst C dX6_init_148 (rfl : 148 + 1 = 149) ?_
  refine z_newa (N' := 5) (a0 := (5, .inl (fun _ => iI 0))) C 0 rfl arX6_init_int rfl (fun _ => rfl) rfl (by decide) (by decide) (by decide) (by decide) dX6_init_149 (rfl : 149 + 2 = 151) (fun q22 hq22 => ?_)
  refine z_rot ?_
  refine z_putF C hi tyX6 tyX6_ok nmX6 xrm rfl iX6_init_X6 22 (by decide) lX6_init_f66 rfl rfl rfl rfl rfl (Nat.le_of_ble_eq_true rfl) dX6_init_151 (rfl : 151 + 3 = 154) xrs_22 ?_
  refine z_aload_n C 0 rfl rfl dX6_init_154 (rfl : 154 + 1 = 155) ?_
  refine z_iconst C dX6_init_155 (rfl : 155 + 1 = 156) ?_
  refine z_newa (N' := 5) (a0 := (5, .inl (fun _ => iI 0))) C 0 rfl arX6_init_int rfl (fun _ => rfl) rfl (by decide) (by decide) (by decide) (by decide) dX6_init_156 (rfl : 156 + 2 = 158) (fun q23 hq23 => ?_)
  refine z_rot ?_
  refine z_putF C hi tyX6 tyX6_ok nmX6 xrm rfl iX6_init_X6 23 (by decide) lX6_init_f69 rfl rfl rfl rfl rfl (Nat.le_of_ble_eq_true rfl) dX6_init_158 (rfl : 158 + 3 = 161) xrs_23 ?_
  exact kk _ _ _ _
theorem tl_X6_iF (C : Cx κ cX6_init 2 wsX6_init RX6 none rmX6_init G base) {m : Nat} {o : Nat → Option Nat} {V : Nat → Nat → Int} {rows : va_W} (hi : (kM κ).name = "<init>")
    (kk : ∀ q24 : Nat, Z κ 2 G base mc ms post exc 20 1920 169 [(0, .ref m)] [] (xr m (va_up o 24 (some q24)) V (rows ++ [(q24, .inl (G.2.1, 40, .inl (fun _ => iI 0)))]) ++ Y)) : Z κ 2 G base mc ms post exc 19 1880 161 [(0, .ref m)] [] (xr m o V rows ++ Y) := by
  refine z_aload_n C 0 rfl rfl dX6_init_161 (rfl : 161 + 1 = 162) ?_
  refine z_bipush (c := 40) C (by decide) dX6_init_162 (rfl : 162 + 2 = 164) ?_
  refine z_newa (N' := 40) (a0 := (40, .inl (fun _ => iI 0))) C 0 rfl arX6_init_int rfl (fun _ => rfl) rfl (by decide) (by decide) (by decide) (by decide) dX6_init_164 (rfl : 164 + 2 = 166) (fun q24 hq24 => ?_)
  refine z_rot ?_
  refine z_putF C hi tyX6 tyX6_ok nmX6 xrm rfl iX6_init_X6 24 (by decide) lX6_init_f72 rfl rfl rfl rfl rfl (Nat.le_of_ble_eq_true rfl) dX6_init_166 (rfl : 166 + 3 = 169) xrs_24 ?_
  exact kk _
theorem tl_X6_init (C : Cx κ cX6_init 2 wsX6_init RX6 none rmX6_init G base) {m : Nat} (hm : q 30 = m) (hp : ∀ q' : Nat → Nat, q' 30 = m → post none (xm G q' V0 ++ Y)) (hmc : 20 ≤ mc ∧ 1920 ≤ ms) : Z κ 2 G base mc ms post exc 20 1920 169 [(0, .ref m)] [] (xm G q VZ ++ Y) := by
  refine z_sub [0] (lv' := [(0, .ref (q 30))]) (by rw [hm]; rfl) ?_
  refine z_aload_n C 0 rfl rfl dX6_init_169 (rfl : 169 + 1 = 170) ?_
  refine z_get C xmm rfl iX6_init_X6 1 (by decide) lX6_init_f13 rfl rfl dX6_init_170 (rfl : 170 + 3 = 173) ?_
  refine z_iconst C dX6_init_173 (rfl : 173 + 1 = 174) ?_
  refine z_iconst C dX6_init_174 (rfl : 174 + 1 = 175) ?_
  refine z_iast C xmm_1 ⟨by omega, by omega⟩ (by omega) dX6_init_175 (rfl : 175 + 1 = 176) (xms_1 (i := 0)) ?_
  refine z_iconst C dX6_init_176 (rfl : 176 + 1 = 177) ?_
  refine z_istore_n (lv' := [(1, _), (0, _)]) C rfl dX6_init_177 (rfl : 177 + 1 = 178) (by decide) rfl ?_
  refine z_ws (ws' := xm G q (va_up (up2 VZ 1 0 (-1)) 6 (up2 VZ 1 0 (-1) 6)) ++ Y) (by rw [up_self]) ?_
  refine lp_X6_i1 C (fun f hf => ?_) 24 0 _ rfl (fun j => by rw [if_neg (Nat.not_lt_zero j)])
  refine z_iconst C dX6_init_197 (rfl : 197 + 1 = 198) ?_
  refine z_istore_n (lv' := [(1, _), (0, _)]) C rfl dX6_init_198 (rfl : 198 + 1 = 199) (by decide) rfl ?_
  refine z_ws (ws' := xm G q (va_up (va_up (up2 VZ 1 0 (-1)) 6 f) 22 (va_up (up2 VZ 1 0 (-1)) 6 f 22)) ++ Y) (by rw [up_self]) ?_
  refine lp_X6_i2 C (fun f2 hf2 => ?_) 5 0 _ rfl (fun j => by rw [if_neg (Nat.not_lt_zero j)])
  refine z_vret C rfl dX6_init_218 ?_ hmc.1 hmc.2
  refine cast (congrArg (fun w => post none (xm G q w ++ Y)) ?_) (hp q hm)
  symm
  funext k j
  by_cases e22 : k = 22
  · subst e22; rw [va_up_self, hf2 j]; rfl
  rw [va_up_ne _ _ e22]
  by_cases e6 : k = 6
  · subst e6; rw [va_up_self, hf j]; rfl
  rw [va_up_ne _ _ e6]
  by_cases e1 : k = 1
  · subst e1
    by_cases e0 : j = 0
    · subst e0; rfl
    · rw [up2_ne _ _ (fun h => e0 h.2)]; simp [VZ, V0, up2, va_up, e0]
  rw [up2_ne _ _ (fun h => e1 h.1)]
  simp only [VZ, V0, up2, va_up, if_neg e22, if_neg e6, if_neg e1]
  by_cases e5 : k = 5
  · subst e5
    by_cases e0 : j = 0 <;> simp [va_up, e0]
  · simp [e5]
theorem c_X6_init {m : Nat} : MC l yX6_init wsX6_init rmX6_init G base [.ref m] (xr m (fun _ => none) (fun _ _ => 0) [] ++ Y) (fun v w => v = none ∧ ∃ q : Nat → Nat, q 30 = m ∧ w = xm G q V0 ++ Y) (fun _ _ => False) := by
  refine MC.of (cc := cX6_init) (by decide) rfl rfl (Nat.le_of_ble_eq_true rfl) ?_
  intro κ C hT hl hi
  refine z_aload_n C 0 rfl rfl dX6_init_0 (rfl : 0 + 1 = 1) ?_
  refine z_objInit C lX6_init_m1 vX6_init_oi cX6_init_oi (by decide) (by decide) dX6_init_1 (rfl : 1 + 3 = 4) ?_
  refine tl_X6_iA C hi (fun q0 q1 q2 q3 => ?_)
  refine tl_X6_iB C hi (fun q4 q6 q8 => ?_)
  refine tl_X6_iC C hi (fun q10 q11 q12 q13 => ?_)
  refine tl_X6_iD C hi (fun q15 q16 q17 q18 => ?_)
  refine tl_X6_iE C hi (fun q19 q20 q22 q23 => ?_)
  refine tl_X6_iF C hi (fun q24 => ?_)
  refine z_ws xr_xm ?_
  refine tl_X6_init C ?_ ?_ ?_
  · rfl
  · exact fun q' h => ⟨rfl, q', h, rfl⟩
  · exact ⟨by decide, by decide⟩
end
