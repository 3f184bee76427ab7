/-! the reference's world: its object at q 30, the row of its field k at q k; V k: what the row holds (V k 0: what the number holds) -/
def xm (G : GG) (q : Nat → Nat) (V : Nat → Nat → Int) : va_W := [(q 30, .inr (7, [.ref (q 0), .ref (q 1), .ref (q 2), .ref (q 3), .ref (q 4), .int (iI (V 5 0)), .ref (q 6), .int (iI (V 7 0)), .ref (q 8), .int (iI (V 9 0)), .ref (q 10), .ref (q 11), .ref (q 12), .ref (q 13), .int (iI (V 14 0)), .ref (q 15), .ref (q 16), .ref (q 17), .ref (q 18), .ref (q 19), .ref (q 20), .int (iI (V 21 0)), .ref (q 22), .ref (q 23), .ref (q 24), .int (iI (V 25 0))])), (q 0, .inl (G.2.1, 960, .inl (fun j => iI (V 0 j)))), (q 1, .inl (G.2.1, 40, .inl (fun j => iI (V 1 j)))), (q 2, .inl (G.2.2.1, 40, .inl (fun j => iI (V 2 j)))), (q 3, .inl (G.2.1, 40, .inl (fun j => iI (V 3 j)))), (q 4, .inl (G.2.1, 40, .inl (fun j => iI (V 4 j)))), (q 6, .inl (G.2.1, 24, .inl (fun j => iI (V 6 j)))), (q 8, .inl (G.2.1, 6, .inl (fun j => iI (V 8 j)))), (q 10, .inl (G.2.1, 60, .inl (fun j => iI (V 10 j)))), (q 11, .inl (G.2.1, 60, .inl (fun j => iI (V 11 j)))), (q 12, .inl (G.2.1, 60, .inl (fun j => iI (V 12 j)))), (q 13, .inl (G.2.2.1, 300, .inl (fun j => iI (V 13 j)))), (q 15, .inl (G.2.1, 40, .inl (fun j => iI (V 15 j)))), (q 16, .inl (G.2.1, 40, .inl (fun j => iI (V 16 j)))), (q 17, .inl (G.2.1, 40, .inl (fun j => iI (V 17 j)))), (q 18, .inl (G.2.1, 40, .inl (fun j => iI (V 18 j)))), (q 19, .inl (G.2.1, 40, .inl (fun j => iI (V 19 j)))), (q 20, .inl (G.2.2.1, 40, .inl (fun j => iI (V 20 j)))), (q 22, .inl (G.2.1, 5, .inl (fun j => iI (V 22 j)))), (q 23, .inl (G.2.1, 5, .inl (fun j => iI (V 23 j)))), (q 24, .inl (G.2.1, 40, .inl (fun j => iI (V 24 j))))]
section
variable {G : GG} {q : Nat → Nat} {V : Nat → Nat → Int} {Y : va_W}
theorem xmm : (q 30, .inr (7, [.ref (q 0), .ref (q 1), .ref (q 2), .ref (q 3), .ref (q 4), .int (iI (V 5 0)), .ref (q 6), .int (iI (V 7 0)), .ref (q 8), .int (iI (V 9 0)), .ref (q 10), .ref (q 11), .ref (q 12), .ref (q 13), .int (iI (V 14 0)), .ref (q 15), .ref (q 16), .ref (q 17), .ref (q 18), .ref (q 19), .ref (q 20), .int (iI (V 21 0)), .ref (q 22), .ref (q 23), .ref (q 24), .int (iI (V 25 0))])) ∈ xm G q V ++ Y := List.mem_of_getElem? (i := 0) rfl
theorem xmm_0 : (q 0, .inl (G.2.1, 960, .inl (fun j => iI (V 0 j)))) ∈ xm G q V ++ Y := List.mem_of_getElem? (i := 1) rfl
theorem xms_0 {i : Nat} {z : Int} : wSet (xm G q V ++ Y) (q 0) (.inl (G.2.1, 960, .inl (upd (fun j => iI (V 0 j)) i (iI z)))) (xm G q (up2 V 0 i z) ++ Y) := by
  have e : upd (fun j => iI (V 0 j)) i (iI z) = fun j => iI (up2 V 0 i z 0 j) := by
    funext j
    by_cases hj : j = i <;> simp [upd, up2, va_up, hj]
  rw [e]
  exact wSet_at 1 rfl rfl
theorem xmm_1 : (q 1, .inl (G.2.1, 40, .inl (fun j => iI (V 1 j)))) ∈ xm G q V ++ Y := List.mem_of_getElem? (i := 2) rfl
theorem xms_1 {i : Nat} {z : Int} : wSet (xm G q V ++ Y) (q 1) (.inl (G.2.1, 40, .inl (upd (fun j => iI (V 1 j)) i (iI z)))) (xm G q (up2 V 1 i z) ++ Y) := by
  have e : upd (fun j => iI (V 1 j)) i (iI z) = fun j => iI (up2 V 1 i z 1 j) := by
    funext j
    by_cases hj : j = i <;> simp [upd, up2, va_up, hj]
  rw [e]
  exact wSet_at 2 rfl rfl
theorem xmm_2 : (q 2, .inl (G.2.2.1, 40, .inl (fun j => iI (V 2 j)))) ∈ xm G q V ++ Y := List.mem_of_getElem? (i := 3) rfl
theorem xms_2 {i : Nat} {z : Int} : wSet (xm G q V ++ Y) (q 2) (.inl (G.2.2.1, 40, .inl (upd (fun j => iI (V 2 j)) i (iI z)))) (xm G q (up2 V 2 i z) ++ Y) := by
  have e : upd (fun j => iI (V 2 j)) i (iI z) = fun j => iI (up2 V 2 i z 2 j) := by
    funext j
    by_cases hj : j = i <;> simp [upd, up2, va_up, hj]
  rw [e]
  exact wSet_at 3 rfl rfl
theorem xmm_3 : (q 3, .inl (G.2.1, 40, .inl (fun j => iI (V 3 j)))) ∈ xm G q V ++ Y := List.mem_of_getElem? (i := 4) rfl
theorem xms_3 {i : Nat} {z : Int} : wSet (xm G q V ++ Y) (q 3) (.inl (G.2.1, 40, .inl (upd (fun j => iI (V 3 j)) i (iI z)))) (xm G q (up2 V 3 i z) ++ Y) := by
  have e : upd (fun j => iI (V 3 j)) i (iI z) = fun j => iI (up2 V 3 i z 3 j) := by
    funext j
    by_cases hj : j = i <;> simp [upd, up2, va_up, hj]
  rw [e]
  exact wSet_at 4 rfl rfl
theorem xmm_4 : (q 4, .inl (G.2.1, 40, .inl (fun j => iI (V 4 j)))) ∈ xm G q V ++ Y := List.mem_of_getElem? (i := 5) rfl
theorem xms_4 {i : Nat} {z : Int} : wSet (xm G q V ++ Y) (q 4) (.inl (G.2.1, 40, .inl (upd (fun j => iI (V 4 j)) i (iI z)))) (xm G q (up2 V 4 i z) ++ Y) := by
  have e : upd (fun j => iI (V 4 j)) i (iI z) = fun j => iI (up2 V 4 i z 4 j) := by
    funext j
    by_cases hj : j = i <;> simp [upd, up2, va_up, hj]
  rw [e]
  exact wSet_at 5 rfl rfl
theorem xmm_6 : (q 6, .inl (G.2.1, 24, .inl (fun j => iI (V 6 j)))) ∈ xm G q V ++ Y := List.mem_of_getElem? (i := 6) rfl
theorem xms_6 {i : Nat} {z : Int} : wSet (xm G q V ++ Y) (q 6) (.inl (G.2.1, 24, .inl (upd (fun j => iI (V 6 j)) i (iI z)))) (xm G q (up2 V 6 i z) ++ Y) := by
  have e : upd (fun j => iI (V 6 j)) i (iI z) = fun j => iI (up2 V 6 i z 6 j) := by
    funext j
    by_cases hj : j = i <;> simp [upd, up2, va_up, hj]
  rw [e]
  exact wSet_at 6 rfl rfl
theorem xmm_8 : (q 8, .inl (G.2.1, 6, .inl (fun j => iI (V 8 j)))) ∈ xm G q V ++ Y := List.mem_of_getElem? (i := 7) rfl
theorem xms_8 {i : Nat} {z : Int} : wSet (xm G q V ++ Y) (q 8) (.inl (G.2.1, 6, .inl (upd (fun j => iI (V 8 j)) i (iI z)))) (xm G q (up2 V 8 i z) ++ Y) := by
  have e : upd (fun j => iI (V 8 j)) i (iI z) = fun j => iI (up2 V 8 i z 8 j) := by
    funext j
    by_cases hj : j = i <;> simp [upd, up2, va_up, hj]
  rw [e]
  exact wSet_at 7 rfl rfl
theorem xmm_10 : (q 10, .inl (G.2.1, 60, .inl (fun j => iI (V 10 j)))) ∈ xm G q V ++ Y := List.mem_of_getElem? (i := 8) rfl
theorem xms_10 {i : Nat} {z : Int} : wSet (xm G q V ++ Y) (q 10) (.inl (G.2.1, 60, .inl (upd (fun j => iI (V 10 j)) i (iI z)))) (xm G q (up2 V 10 i z) ++ Y) := by
  have e : upd (fun j => iI (V 10 j)) i (iI z) = fun j => iI (up2 V 10 i z 10 j) := by
    funext j
    by_cases hj : j = i <;> simp [upd, up2, va_up, hj]
  rw [e]
  exact wSet_at 8 rfl rfl
theorem xmm_11 : (q 11, .inl (G.2.1, 60, .inl (fun j => iI (V 11 j)))) ∈ xm G q V ++ Y := List.mem_of_getElem? (i := 9) rfl
theorem xms_11 {i : Nat} {z : Int} : wSet (xm G q V ++ Y) (q 11) (.inl (G.2.1, 60, .inl (upd (fun j => iI (V 11 j)) i (iI z)))) (xm G q (up2 V 11 i z) ++ Y) := by
  have e : upd (fun j => iI (V 11 j)) i (iI z) = fun j => iI (up2 V 11 i z 11 j) := by
    funext j
    by_cases hj : j = i <;> simp [upd, up2, va_up, hj]
  rw [e]
  exact wSet_at 9 rfl rfl
theorem xmm_12 : (q 12, .inl (G.2.1, 60, .inl (fun j => iI (V 12 j)))) ∈ xm G q V ++ Y := List.mem_of_getElem? (i := 10) rfl
theorem xms_12 {i : Nat} {z : Int} : wSet (xm G q V ++ Y) (q 12) (.inl (G.2.1, 60, .inl (upd (fun j => iI (V 12 j)) i (iI z)))) (xm G q (up2 V 12 i z) ++ Y) := by
  have e : upd (fun j => iI (V 12 j)) i (iI z) = fun j => iI (up2 V 12 i z 12 j) := by
    funext j
    by_cases hj : j = i <;> simp [upd, up2, va_up, hj]
  rw [e]
  exact wSet_at 10 rfl rfl
theorem xmm_13 : (q 13, .inl (G.2.2.1, 300, .inl (fun j => iI (V 13 j)))) ∈ xm G q V ++ Y := List.mem_of_getElem? (i := 11) rfl
theorem xms_13 {i : Nat} {z : Int} : wSet (xm G q V ++ Y) (q 13) (.inl (G.2.2.1, 300, .inl (upd (fun j => iI (V 13 j)) i (iI z)))) (xm G q (up2 V 13 i z) ++ Y) := by
  have e : upd (fun j => iI (V 13 j)) i (iI z) = fun j => iI (up2 V 13 i z 13 j) := by
    funext j
    by_cases hj : j = i <;> simp [upd, up2, va_up, hj]
  rw [e]
  exact wSet_at 11 rfl rfl
theorem xmm_15 : (q 15, .inl (G.2.1, 40, .inl (fun j => iI (V 15 j)))) ∈ xm G q V ++ Y := List.mem_of_getElem? (i := 12) rfl
theorem xms_15 {i : Nat} {z : Int} : wSet (xm G q V ++ Y) (q 15) (.inl (G.2.1, 40, .inl (upd (fun j => iI (V 15 j)) i (iI z)))) (xm G q (up2 V 15 i z) ++ Y) := by
  have e : upd (fun j => iI (V 15 j)) i (iI z) = fun j => iI (up2 V 15 i z 15 j) := by
    funext j
    by_cases hj : j = i <;> simp [upd, up2, va_up, hj]
  rw [e]
  exact wSet_at 12 rfl rfl
theorem xmm_16 : (q 16, .inl (G.2.1, 40, .inl (fun j => iI (V 16 j)))) ∈ xm G q V ++ Y := List.mem_of_getElem? (i := 13) rfl
theorem xms_16 {i : Nat} {z : Int} : wSet (xm G q V ++ Y) (q 16) (.inl (G.2.1, 40, .inl (upd (fun j => iI (V 16 j)) i (iI z)))) (xm G q (up2 V 16 i z) ++ Y) := by
  have e : upd (fun j => iI (V 16 j)) i (iI z) = fun j => iI (up2 V 16 i z 16 j) := by
    funext j
    by_cases hj : j = i <;> simp [upd, up2, va_up, hj]
  rw [e]
  exact wSet_at 13 rfl rfl
theorem xmm_17 : (q 17, .inl (G.2.1, 40, .inl (fun j => iI (V 17 j)))) ∈ xm G q V ++ Y := List.mem_of_getElem? (i := 14) rfl
theorem xms_17 {i : Nat} {z : Int} : wSet (xm G q V ++ Y) (q 17) (.inl (G.2.1, 40, .inl (upd (fun j => iI (V 17 j)) i (iI z)))) (xm G q (up2 V 17 i z) ++ Y) := by
  have e : upd (fun j => iI (V 17 j)) i (iI z) = fun j => iI (up2 V 17 i z 17 j) := by
    funext j
    by_cases hj : j = i <;> simp [upd, up2, va_up, hj]
  rw [e]
  exact wSet_at 14 rfl rfl
theorem xmm_18 : (q 18, .inl (G.2.1, 40, .inl (fun j => iI (V 18 j)))) ∈ xm G q V ++ Y := List.mem_of_getElem? (i := 15) rfl
theorem xms_18 {i : Nat} {z : Int} : wSet (xm G q V ++ Y) (q 18) (.inl (G.2.1, 40, .inl (upd (fun j => iI (V 18 j)) i (iI z)))) (xm G q (up2 V 18 i z) ++ Y) := by
  have e : upd (fun j => iI (V 18 j)) i (iI z) = fun j => iI (up2 V 18 i z 18 j) := by
    funext j
    by_cases hj : j = i <;> simp [upd, up2, va_up, hj]
  rw [e]
  exact wSet_at 15 rfl rfl
theorem xmm_19 : (q 19, .inl (G.2.1, 40, .inl (fun j => iI (V 19 j)))) ∈ xm G q V ++ Y := List.mem_of_getElem? (i := 16) rfl
theorem xms_19 {i : Nat} {z : Int} : wSet (xm G q V ++ Y) (q 19) (.inl (G.2.1, 40, .inl (upd (fun j => iI (V 19 j)) i (iI z)))) (xm G q (up2 V 19 i z) ++ Y) := by
  have e : upd (fun j => iI (V 19 j)) i (iI z) = fun j => iI (up2 V 19 i z 19 j) := by
    funext j
    by_cases hj : j = i <;> simp [upd, up2, va_up, hj]
  rw [e]
  exact wSet_at 16 rfl rfl
theorem xmm_20 : (q 20, .inl (G.2.2.1, 40, .inl (fun j => iI (V 20 j)))) ∈ xm G q V ++ Y := List.mem_of_getElem? (i := 17) rfl
theorem xms_20 {i : Nat} {z : Int} : wSet (xm G q V ++ Y) (q 20) (.inl (G.2.2.1, 40, .inl (upd (fun j => iI (V 20 j)) i (iI z)))) (xm G q (up2 V 20 i z) ++ Y) := by
  have e : upd (fun j => iI (V 20 j)) i (iI z) = fun j => iI (up2 V 20 i z 20 j) := by
    funext j
    by_cases hj : j = i <;> simp [upd, up2, va_up, hj]
  rw [e]
  exact wSet_at 17 rfl rfl
theorem xmm_22 : (q 22, .inl (G.2.1, 5, .inl (fun j => iI (V 22 j)))) ∈ xm G q V ++ Y := List.mem_of_getElem? (i := 18) rfl
theorem xms_22 {i : Nat} {z : Int} : wSet (xm G q V ++ Y) (q 22) (.inl (G.2.1, 5, .inl (upd (fun j => iI (V 22 j)) i (iI z)))) (xm G q (up2 V 22 i z) ++ Y) := by
  have e : upd (fun j => iI (V 22 j)) i (iI z) = fun j => iI (up2 V 22 i z 22 j) := by
    funext j
    by_cases hj : j = i <;> simp [upd, up2, va_up, hj]
  rw [e]
  exact wSet_at 18 rfl rfl
theorem xmm_23 : (q 23, .inl (G.2.1, 5, .inl (fun j => iI (V 23 j)))) ∈ xm G q V ++ Y := List.mem_of_getElem? (i := 19) rfl
theorem xms_23 {i : Nat} {z : Int} : wSet (xm G q V ++ Y) (q 23) (.inl (G.2.1, 5, .inl (upd (fun j => iI (V 23 j)) i (iI z)))) (xm G q (up2 V 23 i z) ++ Y) := by
  have e : upd (fun j => iI (V 23 j)) i (iI z) = fun j => iI (up2 V 23 i z 23 j) := by
    funext j
    by_cases hj : j = i <;> simp [upd, up2, va_up, hj]
  rw [e]
  exact wSet_at 19 rfl rfl
theorem xmm_24 : (q 24, .inl (G.2.1, 40, .inl (fun j => iI (V 24 j)))) ∈ xm G q V ++ Y := List.mem_of_getElem? (i := 20) rfl
theorem xms_24 {i : Nat} {z : Int} : wSet (xm G q V ++ Y) (q 24) (.inl (G.2.1, 40, .inl (upd (fun j => iI (V 24 j)) i (iI z)))) (xm G q (up2 V 24 i z) ++ Y) := by
  have e : upd (fun j => iI (V 24 j)) i (iI z) = fun j => iI (up2 V 24 i z 24 j) := by
    funext j
    by_cases hj : j = i <;> simp [upd, up2, va_up, hj]
  rw [e]
  exact wSet_at 20 rfl rfl
theorem xms_5 {z : Int} : wSet (xm G q V ++ Y) (q 30) (.inr (7, [.ref (q 0), .ref (q 1), .ref (q 2), .ref (q 3), .ref (q 4), .int (iI z), .ref (q 6), .int (iI (V 7 0)), .ref (q 8), .int (iI (V 9 0)), .ref (q 10), .ref (q 11), .ref (q 12), .ref (q 13), .int (iI (V 14 0)), .ref (q 15), .ref (q 16), .ref (q 17), .ref (q 18), .ref (q 19), .ref (q 20), .int (iI (V 21 0)), .ref (q 22), .ref (q 23), .ref (q 24), .int (iI (V 25 0))])) (xm G q (up2 V 5 0 z) ++ Y) := wSet_at 0 rfl rfl
theorem xms_7 {z : Int} : wSet (xm G q V ++ Y) (q 30) (.inr (7, [.ref (q 0), .ref (q 1), .ref (q 2), .ref (q 3), .ref (q 4), .int (iI (V 5 0)), .ref (q 6), .int (iI z), .ref (q 8), .int (iI (V 9 0)), .ref (q 10), .ref (q 11), .ref (q 12), .ref (q 13), .int (iI (V 14 0)), .ref (q 15), .ref (q 16), .ref (q 17), .ref (q 18), .ref (q 19), .ref (q 20), .int (iI (V 21 0)), .ref (q 22), .ref (q 23), .ref (q 24), .int (iI (V 25 0))])) (xm G q (up2 V 7 0 z) ++ Y) := wSet_at 0 rfl rfl
theorem xms_9 {z : Int} : wSet (xm G q V ++ Y) (q 30) (.inr (7, [.ref (q 0), .ref (q 1), .ref (q 2), .ref (q 3), .ref (q 4), .int (iI (V 5 0)), .ref (q 6), .int (iI (V 7 0)), .ref (q 8), .int (iI z), .ref (q 10), .ref (q 11), .ref (q 12), .ref (q 13), .int (iI (V 14 0)), .ref (q 15), .ref (q 16), .ref (q 17), .ref (q 18), .ref (q 19), .ref (q 20), .int (iI (V 21 0)), .ref (q 22), .ref (q 23), .ref (q 24), .int (iI (V 25 0))])) (xm G q (up2 V 9 0 z) ++ Y) := wSet_at 0 rfl rfl
theorem xms_14 {z : Int} : wSet (xm G q V ++ Y) (q 30) (.inr (7, [.ref (q 0), .ref (q 1), .ref (q 2), .ref (q 3), .ref (q 4), .int (iI (V 5 0)), .ref (q 6), .int (iI (V 7 0)), .ref (q 8), .int (iI (V 9 0)), .ref (q 10), .ref (q 11), .ref (q 12), .ref (q 13), .int (iI z), .ref (q 15), .ref (q 16), .ref (q 17), .ref (q 18), .ref (q 19), .ref (q 20), .int (iI (V 21 0)), .ref (q 22), .ref (q 23), .ref (q 24), .int (iI (V 25 0))])) (xm G q (up2 V 14 0 z) ++ Y) := wSet_at 0 rfl rfl
theorem xms_21 {z : Int} : wSet (xm G q V ++ Y) (q 30) (.inr (7, [.ref (q 0), .ref (q 1), .ref (q 2), .ref (q 3), .ref (q 4), .int (iI (V 5 0)), .ref (q 6), .int (iI (V 7 0)), .ref (q 8), .int (iI (V 9 0)), .ref (q 10), .ref (q 11), .ref (q 12), .ref (q 13), .int (iI (V 14 0)), .ref (q 15), .ref (q 16), .ref (q 17), .ref (q 18), .ref (q 19), .ref (q 20), .int (iI z), .ref (q 22), .ref (q 23), .ref (q 24), .int (iI (V 25 0))])) (xm G q (up2 V 21 0 z) ++ Y) := wSet_at 0 rfl rfl
theorem xms_25 {z : Int} : wSet (xm G q V ++ Y) (q 30) (.inr (7, [.ref (q 0), .ref (q 1), .ref (q 2), .ref (q 3), .ref (q 4), .int (iI (V 5 0)), .ref (q 6), .int (iI (V 7 0)), .ref (q 8), .int (iI (V 9 0)), .ref (q 10), .ref (q 11), .ref (q 12), .ref (q 13), .int (iI (V 14 0)), .ref (q 15), .ref (q 16), .ref (q 17), .ref (q 18), .ref (q 19), .ref (q 20), .int (iI (V 21 0)), .ref (q 22), .ref (q 23), .ref (q 24), .int (iI z)])) (xm G q (up2 V 25 0 z) ++ Y) := wSet_at 0 rfl rfl
end
