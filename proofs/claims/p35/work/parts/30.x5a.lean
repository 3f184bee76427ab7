theorem tX5_requirePlace_IOB : ∀ w ∈ (vx_atS RX5 288 "java/lang/IndexOutOfBoundsException" ["java/lang/RuntimeException", "java/lang/Exception"]).filter goodWord, w ∈ wsX5_requirePlace := by decide +kernel
theorem lX5_requirePlace_c284 : Cond.classLink RX5 284 "java/lang/IndexOutOfBoundsException" ∈ wsX5_requirePlace := by decide +kernel
theorem nX5_requirePlace_IOB : Cond.initialized "java/lang/IndexOutOfBoundsException" ∈ wsX5_requirePlace := by decide +kernel
theorem tX5_requireScribe_IOB : ∀ w ∈ (vx_atS RX5 288 "java/lang/IndexOutOfBoundsException" ["java/lang/RuntimeException", "java/lang/Exception"]).filter goodWord, w ∈ wsX5_requireScribe := by decide +kernel
theorem lX5_requireScribe_c284 : Cond.classLink RX5 284 "java/lang/IndexOutOfBoundsException" ∈ wsX5_requireScribe := by decide +kernel
theorem nX5_requireScribe_IOB : Cond.initialized "java/lang/IndexOutOfBoundsException" ∈ wsX5_requireScribe := by decide +kernel
theorem hd30_X5_requirePlace : yX5_requirePlace.cls ≠ "java/lang/invoke/MethodHandle" ∧ yX5_requirePlace.cls ≠ "java/lang/invoke/VarHandle" ∧ (parseMethodDescriptor yX5_requirePlace.desc).map (fun d => d.parameters.length) = some 1 := by decide +kernel
theorem tX5_requireError_IAE : ∀ w ∈ (vx_atS RX5 61 "java/lang/IllegalArgumentException" ["java/lang/RuntimeException", "java/lang/Exception"]).filter goodWord, w ∈ wsX5_requireError := by decide +kernel
theorem lX5_requireError_c57 : Cond.classLink RX5 57 "java/lang/IllegalArgumentException" ∈ wsX5_requireError := by decide +kernel
theorem nX5_requireError_IAE : Cond.initialized "java/lang/IllegalArgumentException" ∈ wsX5_requireError := by decide +kernel
theorem tX5_findCopy_IOB : ∀ w ∈ (vx_atS RX5 288 "java/lang/IndexOutOfBoundsException" ["java/lang/RuntimeException", "java/lang/Exception"]).filter goodWord, w ∈ wsX5_findCopy := by decide +kernel
theorem lX5_findCopy_c284 : Cond.classLink RX5 284 "java/lang/IndexOutOfBoundsException" ∈ wsX5_findCopy := by decide +kernel
theorem nX5_findCopy_IOB : Cond.initialized "java/lang/IndexOutOfBoundsException" ∈ wsX5_findCopy := by decide +kernel
theorem lX5_findCopy_f16 : Cond.fieldLink RX5 16 "ModelCopies" "copies" "Ljava/util/ArrayList;" ∈ wsX5_findCopy := by decide +kernel
theorem iX5_findCopy_X5 : ∀ w ∈ wsX50, w ∈ wsX5_findCopy := by decide +kernel
theorem hd30_Jx4a65c_size_8abf5 : yJx4a65c_size_8abf5.cls = RJx4a65c ∧ yJx4a65c_size_8abf5.cls ≠ "java/lang/invoke/MethodHandle" ∧ yJx4a65c_size_8abf5.cls ≠ "java/lang/invoke/VarHandle" ∧ (parseMethodDescriptor yJx4a65c_size_8abf5.desc).map (fun d => d.parameters.length) = some 0 := by decide +kernel
theorem hd30_Jx4a65c_get_915e3 : yJx4a65c_get_915e3.cls = RJx4a65c ∧ yJx4a65c_get_915e3.cls ≠ "java/lang/invoke/MethodHandle" ∧ yJx4a65c_get_915e3.cls ≠ "java/lang/invoke/VarHandle" ∧ (parseMethodDescriptor yJx4a65c_get_915e3.desc).map (fun d => d.parameters.length) = some 1 := by decide +kernel
theorem lX5_findCopy_c49 : Cond.classLink RX5 49 "ModelCopies$Copy" ∈ wsX5_findCopy := by decide +kernel
theorem tX5_findHouse_IOB : ∀ w ∈ (vx_atS RX5 288 "java/lang/IndexOutOfBoundsException" ["java/lang/RuntimeException", "java/lang/Exception"]).filter goodWord, w ∈ wsX5_findHouse := by decide +kernel
theorem lX5_findHouse_c284 : Cond.classLink RX5 284 "java/lang/IndexOutOfBoundsException" ∈ wsX5_findHouse := by decide +kernel
theorem nX5_findHouse_IOB : Cond.initialized "java/lang/IndexOutOfBoundsException" ∈ wsX5_findHouse := by decide +kernel
theorem lX5_findHouse_f10 : Cond.fieldLink RX5 10 "ModelCopies" "houses" "Ljava/util/ArrayList;" ∈ wsX5_findHouse := by decide +kernel
theorem iX5_findHouse_X5 : ∀ w ∈ wsX50, w ∈ wsX5_findHouse := by decide +kernel
theorem lX5_findHouse_c40 : Cond.classLink RX5 40 "ModelCopies$House" ∈ wsX5_findHouse := by decide +kernel
theorem tX5_findLoan_IOB : ∀ w ∈ (vx_atS RX5 288 "java/lang/IndexOutOfBoundsException" ["java/lang/RuntimeException", "java/lang/Exception"]).filter goodWord, w ∈ wsX5_findLoan := by decide +kernel
theorem lX5_findLoan_c284 : Cond.classLink RX5 284 "java/lang/IndexOutOfBoundsException" ∈ wsX5_findLoan := by decide +kernel
theorem nX5_findLoan_IOB : Cond.initialized "java/lang/IndexOutOfBoundsException" ∈ wsX5_findLoan := by decide +kernel
theorem lX5_findLoan_f22 : Cond.fieldLink RX5 22 "ModelCopies" "loans" "Ljava/util/ArrayList;" ∈ wsX5_findLoan := by decide +kernel
theorem iX5_findLoan_X5 : ∀ w ∈ wsX50, w ∈ wsX5_findLoan := by decide +kernel
theorem lX5_findLoan_c186 : Cond.classLink RX5 186 "ModelCopies$Loan" ∈ wsX5_findLoan := by decide +kernel
theorem tX5_requireLetter_IOB : ∀ w ∈ (vx_atS RX5 288 "java/lang/IndexOutOfBoundsException" ["java/lang/RuntimeException", "java/lang/Exception"]).filter goodWord, w ∈ wsX5_requireLetter := by decide +kernel
theorem lX5_requireLetter_c284 : Cond.classLink RX5 284 "java/lang/IndexOutOfBoundsException" ∈ wsX5_requireLetter := by decide +kernel
theorem nX5_requireLetter_IOB : Cond.initialized "java/lang/IndexOutOfBoundsException" ∈ wsX5_requireLetter := by decide +kernel
theorem lX5_requireLetter_f19 : Cond.fieldLink RX5 19 "ModelCopies" "letters" "Ljava/util/ArrayList;" ∈ wsX5_requireLetter := by decide +kernel
theorem iX5_requireLetter_X5 : ∀ w ∈ wsX50, w ∈ wsX5_requireLetter := by decide +kernel
theorem lX5_numberOf_f118 : Cond.fieldLink RX5 118 "ModelCopies$Copy" "number" "I" ∈ wsX5_numberOf := by decide +kernel
theorem iX5_numberOf_X0 : ∀ w ∈ wsX00, w ∈ wsX5_numberOf := by decide +kernel
theorem lX5_setOf_f118 : Cond.fieldLink RX5 118 "ModelCopies$Copy" "number" "I" ∈ wsX5_setOf := by decide +kernel
theorem iX5_setOf_X0 : ∀ w ∈ wsX00, w ∈ wsX5_setOf := by decide +kernel
theorem hd30_X0_countSharedWith : yX0_countSharedWith.cls = RX0 ∧ yX0_countSharedWith.cls ≠ "java/lang/invoke/MethodHandle" ∧ yX0_countSharedWith.cls ≠ "java/lang/invoke/VarHandle" ∧ (parseMethodDescriptor yX0_countSharedWith.desc).map (fun d => d.parameters.length) = some 1 := by decide +kernel
theorem hd30_X0_countErrors : yX0_countErrors.cls = RX0 ∧ yX0_countErrors.cls ≠ "java/lang/invoke/MethodHandle" ∧ yX0_countErrors.cls ≠ "java/lang/invoke/VarHandle" ∧ (parseMethodDescriptor yX0_countErrors.desc).map (fun d => d.parameters.length) = some 0 := by decide +kernel
section
variable {κ : KxT} {G : GG} {base mc ms : Nat} {post : Option Value → va_W → Prop} {exc : String → va_W → Prop} {X : va_W} {L : List Nat} {K : Nat → Nat} {I : Nat → Nat → Int} {F : Nat → Nat → Option Nat} {R : Nat → Nat → Int} {N : Nat → Nat} {O : Nat → Nat → Option Nat} {l : Launch}
theorem c_list_size {de a e n : Nat} {ad : Nat → Nat} (h : LST L K I F N O de a e n ad) : MC l yJx4a65c_size_8abf5 wsJx4a65c_size_8abf5 rmJx4a65c_size_8abf5 G base [.ref a] (pw G X L K I F R N O) (fun v w => v = some (.int (iI (n : Int))) ∧ w = (pw G X L K I F R N O)) (fun _ _ => False) := by
  have := c_AL_size (l := l) (G := G) (base := base) (X := X) (I := I) (F := F) (R := R) (N := N) (O := O) h.1 h.2.1
  rw [h.2.2.1] at this
  exact this
theorem c_list_get {de a e n i : Nat} {ad : Nat → Nat} (h : LST L K I F N O de a e n ad) (hi : i < n) : MC l yJx4a65c_get_915e3 wsJx4a65c_get_915e3 rmJx4a65c_get_915e3 G base [.ref a, .int (iI (i : Int))] (pw G X L K I F R N O) (fun v w => v = some (.ref (ad i)) ∧ w = (pw G X L K I F R N O)) (fun _ _ => False) := by
  obtain ⟨h1, h2, h3, h4, h5⟩ := h.get hi
  have := c_AL_get (l := l) (G := G) (base := base) (X := X) (I := I) (F := F) (R := R) (N := N) (O := O) h.1 h.2.1 h.2.2.1 h.2.2.2.1 h1 h2 hi h3 h4
  rw [h5] at this
  exact this
abbrev rmX5_requirePlace : Room := { frames := 6, cells := 1, slots := 6, locals := 90 }
theorem c_X5_requirePlace {z : Int} {ws : va_W} (hz : -2147483648 ≤ z ∧ z < 2147483648) : MC l yX5_requirePlace wsX5_requirePlace rmX5_requirePlace G base [.int (iI z)] ws (fun v w => v = none ∧ w = ws ∧ 0 ≤ z ∧ z < 24) (fun E w => E = "java/lang/IndexOutOfBoundsException" ∧ w = ws ∧ ¬ (0 ≤ z ∧ z < 24)) := by
  refine MC.of (cc := cX5_requirePlace) (by decide) rfl rfl (Nat.le_of_ble_eq_true rfl) ?_
  intro κ C hT hl hnm
  refine z_iload_n C 0 rfl rfl dX5_requirePlace_0 (rfl : 0 + 1 = 1) ?_
  refine z_if_lt (pt := 10) C dX5_requirePlace_1 (by decide) (rfl : 1 + 3 = 4) (iI_lt0 (by omega)).1 (fun q => mt (iI_lt0 (by omega)).2 q) (fun c => ?_) (fun c => ?_)
  · exact z_throwW C hT rfl lX5_requirePlace_c284 nX5_requirePlace_IOB (List.mem_of_getElem? (i := 0) rfl) tX5_requirePlace_IOB thN_IOB thG_IOB dX5_requirePlace_10 dX5_requirePlace_13 dX5_requirePlace_14 dX5_requirePlace_17 dX5_requirePlace_20 (by decide) (Nat.le_of_ble_eq_true rfl) (by decide) (by decide) (by decide) (by decide) ⟨rfl, rfl, by omega⟩
  refine z_iload_n C 0 rfl rfl dX5_requirePlace_4 (rfl : 4 + 1 = 5) ?_
  refine z_bipush (c := 24) C (by decide) dX5_requirePlace_5 (rfl : 5 + 2 = 7) ?_
  refine z_icmp_lt (pt := 21) C dX5_requirePlace_7 (by decide) (rfl : 7 + 3 = 10) (iI_lt (by omega) (by omega)).1 (fun q => mt (iI_lt (by omega) (by omega)).2 q) (fun c2 => ?_) (fun c2 => ?_)
  · exact z_vret C rfl dX5_requirePlace_21 ⟨rfl, rfl, by omega, by omega⟩ (by decide) (by decide)
  · exact z_throwW C hT rfl lX5_requirePlace_c284 nX5_requirePlace_IOB (List.mem_of_getElem? (i := 0) rfl) tX5_requirePlace_IOB thN_IOB thG_IOB dX5_requirePlace_10 dX5_requirePlace_13 dX5_requirePlace_14 dX5_requirePlace_17 dX5_requirePlace_20 (by decide) (Nat.le_of_ble_eq_true rfl) (by decide) (by decide) (by decide) (by decide) ⟨rfl, rfl, by omega⟩
abbrev rmX5_requireScribe : Room := { frames := 6, cells := 1, slots := 6, locals := 90 }
theorem c_X5_requireScribe {z : Int} {ws : va_W} (hz : -2147483648 ≤ z ∧ z < 2147483648) : MC l yX5_requireScribe wsX5_requireScribe rmX5_requireScribe G base [.int (iI z)] ws (fun v w => v = none ∧ w = ws ∧ 0 ≤ z ∧ z < 6) (fun E w => E = "java/lang/IndexOutOfBoundsException" ∧ w = ws ∧ ¬ (0 ≤ z ∧ z < 6)) := by
  refine MC.of (cc := cX5_requireScribe) (by decide) rfl rfl (Nat.le_of_ble_eq_true rfl) ?_
  intro κ C hT hl hnm
  refine z_iload_n C 0 rfl rfl dX5_requireScribe_0 (rfl : 0 + 1 = 1) ?_
  refine z_if_lt (pt := 10) C dX5_requireScribe_1 (by decide) (rfl : 1 + 3 = 4) (iI_lt0 (by omega)).1 (fun q => mt (iI_lt0 (by omega)).2 q) (fun c => ?_) (fun c => ?_)
  · exact z_throwW C hT rfl lX5_requireScribe_c284 nX5_requireScribe_IOB (List.mem_of_getElem? (i := 4) rfl) tX5_requireScribe_IOB thN_IOB thG_IOB dX5_requireScribe_10 dX5_requireScribe_13 dX5_requireScribe_14 dX5_requireScribe_17 dX5_requireScribe_20 (by decide) (Nat.le_of_ble_eq_true rfl) (by decide) (by decide) (by decide) (by decide) ⟨rfl, rfl, by omega⟩
  refine z_iload_n C 0 rfl rfl dX5_requireScribe_4 (rfl : 4 + 1 = 5) ?_
  refine z_bipush (c := 6) C (by decide) dX5_requireScribe_5 (rfl : 5 + 2 = 7) ?_
  refine z_icmp_lt (pt := 21) C dX5_requireScribe_7 (by decide) (rfl : 7 + 3 = 10) (iI_lt (by omega) (by omega)).1 (fun q => mt (iI_lt (by omega) (by omega)).2 q) (fun c2 => ?_) (fun c2 => ?_)
  · exact z_vret C rfl dX5_requireScribe_21 ⟨rfl, rfl, by omega, by omega⟩ (by decide) (by decide)
  · exact z_throwW C hT rfl lX5_requireScribe_c284 nX5_requireScribe_IOB (List.mem_of_getElem? (i := 4) rfl) tX5_requireScribe_IOB thN_IOB thG_IOB dX5_requireScribe_10 dX5_requireScribe_13 dX5_requireScribe_14 dX5_requireScribe_17 dX5_requireScribe_20 (by decide) (Nat.le_of_ble_eq_true rfl) (by decide) (by decide) (by decide) (by decide) ⟨rfl, rfl, by omega⟩
abbrev rmX5_requireError : Room := { frames := 7, cells := 2, slots := 12, locals := 112 }
theorem c_X5_requireError {z r : Int} {ws : va_W} (hz : -2147483648 ≤ z ∧ z < 2147483648) (hr : -2147483648 ≤ r ∧ r < 2147483648) : MC l yX5_requireError wsX5_requireError rmX5_requireError G base [.int (iI z), .int (iI r)] ws (fun v w => v = none ∧ w = ws ∧ (0 ≤ z ∧ z < 24) ∧ 1 ≤ r ∧ r ≤ 9) (fun E w => w = ws ∧ (if 0 ≤ z ∧ z < 24 then E = "java/lang/IllegalArgumentException" ∧ ¬ (1 ≤ r ∧ r ≤ 9) else E = "java/lang/IndexOutOfBoundsException")) := by
  refine MC.of (cc := cX5_requireError) (by decide) rfl rfl (Nat.le_of_ble_eq_true rfl) ?_
  intro κ C hT hl hnm
  refine z_sub [0, 1] (lv' := [(0, .int (iI z)), (1, .int (iI r))]) rfl ?_
  refine z_iload_n C 0 rfl rfl dX5_requireError_0 (rfl : 0 + 1 = 1) ?_
  refine z_callS C 1 6 (c_X5_requirePlace hz) gX5_requireError_X5_requirePlace rfl hd30_X5_requirePlace ⟨Nat.le_of_ble_eq_true rfl, Nat.le_of_ble_eq_true rfl⟩ rfl (Nat.le_of_ble_eq_true rfl) dX5_requireError_1 (rfl : 1 + 3 = 4) rfl rfl ⟨Nat.le_of_ble_eq_true rfl, Nat.le_of_ble_eq_true rfl⟩ (fun E w h => z_out C hT ⟨h.2.1, by rw [if_neg h.2.2]; exact h.1⟩ (by decide) (by decide)) ?_ rfl
  rintro _ _ ⟨rfl, rfl, h1⟩
  refine z_v0 ?_
  refine z_iload_n C 1 rfl rfl dX5_requireError_4 (rfl : 4 + 1 = 5) ?_
  refine z_if_le (pt := 14) C dX5_requireError_5 (by decide) (rfl : 5 + 3 = 8) (iI_le0 (by omega)).1 (fun q => mt (iI_le0 (by omega)).2 q) (fun c => ?_) (fun c => ?_)
  · exact z_throwW C hT rfl lX5_requireError_c57 nX5_requireError_IAE (List.mem_of_getElem? (i := 22) rfl) tX5_requireError_IAE thN_IAE thG_IAE dX5_requireError_14 dX5_requireError_17 dX5_requireError_18 dX5_requireError_21 dX5_requireError_24 (by decide) (Nat.le_of_ble_eq_true rfl) (by decide) (by decide) (by decide) (by decide) ⟨rfl, by rw [if_pos h1]; exact ⟨rfl, by omega⟩⟩
  refine z_iload_n C 1 rfl rfl dX5_requireError_8 (rfl : 8 + 1 = 9) ?_
  refine z_bipush (c := 10) C (by decide) dX5_requireError_9 (rfl : 9 + 2 = 11) ?_
  refine z_icmp_lt (pt := 25) C dX5_requireError_11 (by decide) (rfl : 11 + 3 = 14) (iI_lt (by omega) (by omega)).1 (fun q => mt (iI_lt (by omega) (by omega)).2 q) (fun c2 => ?_) (fun c2 => ?_)
  · exact z_vret C rfl dX5_requireError_25 ⟨rfl, rfl, h1, by omega, by omega⟩ (by decide) (by decide)
  · exact z_throwW C hT rfl lX5_requireError_c57 nX5_requireError_IAE (List.mem_of_getElem? (i := 22) rfl) tX5_requireError_IAE thN_IAE thG_IAE dX5_requireError_14 dX5_requireError_17 dX5_requireError_18 dX5_requireError_21 dX5_requireError_24 (by decide) (Nat.le_of_ble_eq_true rfl) (by decide) (by decide) (by decide) (by decide) ⟨rfl, by rw [if_pos h1]; exact ⟨rfl, by omega⟩⟩
abbrev rmX5_findCopy : Room := { frames := 6, cells := 1, slots := 6, locals := 90 }
theorem c_X5_findCopy {de x cl ec n : Nat} {cA rA : Nat → Nat} {z : Int} (hz : -2147483648 ≤ z ∧ z < 2147483648) (hx : isX L K F x 9 cl) (h : LST L K I F N O de cl ec n cA) (hn : n ≤ 1000) (hc : ∀ i, i < n → isC L K F N (cA i) (rA i)) : MC l yX5_findCopy wsX5_findCopy rmX5_findCopy G base [.ref x, .int (iI z)] (pw G X L K I F R N O) (fun v w => w = (pw G X L K I F R N O) ∧ ∃ i : Nat, z = (i : Int) ∧ i < n ∧ v = some (.ref (cA i))) (fun E w => E = "java/lang/IndexOutOfBoundsException" ∧ w = (pw G X L K I F R N O) ∧ ¬ (0 ≤ z ∧ z < n)) := by
  refine MC.of (cc := cX5_findCopy) (by decide) rfl rfl (Nat.le_of_ble_eq_true rfl) ?_
  intro κ C hT hl hnm
  refine z_sub [0, 1] (lv' := [(0, .ref x), (1, .int (iI z))]) rfl ?_
  refine z_iload_n C 1 rfl rfl dX5_findCopy_0 (rfl : 0 + 1 = 1) ?_
  refine z_if_lt (pt := 15) C dX5_findCopy_1 (by decide) (rfl : 1 + 3 = 4) (iI_lt0 (by omega)).1 (fun q => mt (iI_lt0 (by omega)).2 q) (fun c => ?_) (fun c => ?_)
  · exact z_throwW C hT rfl lX5_findCopy_c284 nX5_findCopy_IOB (List.mem_of_getElem? (i := 3) rfl) tX5_findCopy_IOB thN_IOB thG_IOB dX5_findCopy_15 dX5_findCopy_18 dX5_findCopy_19 dX5_findCopy_22 dX5_findCopy_25 (by decide) (Nat.le_of_ble_eq_true rfl) (by decide) (by decide) (by decide) (by decide) ⟨rfl, rfl, by omega⟩
  refine z_iload_n C 1 rfl rfl dX5_findCopy_4 (rfl : 4 + 1 = 5) ?_
  refine z_aload_n C 0 rfl rfl dX5_findCopy_5 (rfl : 5 + 1 = 6) ?_
  refine z_get C (pwm_MC hx.1 hx.2.1) rfl iX5_findCopy_X5 1 (by decide) lX5_findCopy_f16 rfl rfl dX5_findCopy_6 (rfl : 6 + 3 = 9) ?_
  rw [hx.2.2]
  refine z_callV C 0 0 (c_list_size h) gX5_findCopy_Jx4a65c_size_8abf5 rfl hd30_Jx4a65c_size_8abf5 ⟨Nat.le_of_ble_eq_true rfl, Nat.le_of_ble_eq_true rfl⟩ (pwm_AL h.1 h.2.1) rfl rfl (Nat.le_of_ble_eq_true rfl) dX5_findCopy_9 (rfl : 9 + 3 = 12) rfl rfl ⟨Nat.le_of_ble_eq_true rfl, Nat.le_of_ble_eq_true rfl⟩ (fun _ _ h => h.elim) ?_ rfl
  rintro _ _ ⟨rfl, rfl⟩
  refine z_v1 ?_
  refine z_icmp_lt (pt := 26) C dX5_findCopy_12 (by decide) (rfl : 12 + 3 = 15) (iI_lt (by omega) (by omega)).1 (fun q => mt (iI_lt (by omega) (by omega)).2 q) (fun c2 => ?_) (fun c2 => ?_)
  rotate_left
  · exact z_throwW C hT rfl lX5_findCopy_c284 nX5_findCopy_IOB (List.mem_of_getElem? (i := 3) rfl) tX5_findCopy_IOB thN_IOB thG_IOB dX5_findCopy_15 dX5_findCopy_18 dX5_findCopy_19 dX5_findCopy_22 dX5_findCopy_25 (by decide) (Nat.le_of_ble_eq_true rfl) (by decide) (by decide) (by decide) (by decide) ⟨rfl, rfl, by omega⟩
  obtain ⟨i, rfl⟩ : ∃ i : Nat, z = (i : Int) := ⟨z.toNat, by omega⟩
  have hi : i < n := by omega
  refine z_aload_n C 0 rfl rfl dX5_findCopy_26 (rfl : 26 + 1 = 27) ?_
  refine z_get C (pwm_MC hx.1 hx.2.1) rfl iX5_findCopy_X5 1 (by decide) lX5_findCopy_f16 rfl rfl dX5_findCopy_27 (rfl : 27 + 3 = 30) ?_
  rw [hx.2.2]
  refine z_iload_n C 1 rfl rfl dX5_findCopy_30 (rfl : 30 + 1 = 31) ?_
  refine z_callV C 0 0 (c_list_get (i := i) h hi) gX5_findCopy_Jx4a65c_get_915e3 rfl hd30_Jx4a65c_get_915e3 ⟨Nat.le_of_ble_eq_true rfl, Nat.le_of_ble_eq_true rfl⟩ (pwm_AL h.1 h.2.1) rfl rfl (Nat.le_of_ble_eq_true rfl) dX5_findCopy_31 (rfl : 31 + 3 = 34) rfl rfl ⟨Nat.le_of_ble_eq_true rfl, Nat.le_of_ble_eq_true rfl⟩ (fun _ _ h => h.elim) ?_ rfl
  rintro _ _ ⟨rfl, rfl⟩
  refine z_v1 ?_
  refine z_cast C (pwm_Copy (hc i hi).1 (hc i hi).2.1) rfl lX5_findCopy_c49 dX5_findCopy_34 (rfl : 34 + 3 = 37) ?_
  exact z_aret (v := some (cA i)) C rfl (.inl ⟨_, rfl⟩) dX5_findCopy_37 ⟨rfl, i, rfl, hi, rfl⟩ (by decide) (by decide)
abbrev rmX5_findHouse : Room := { frames := 6, cells := 1, slots := 6, locals := 90 }
theorem c_X5_findHouse {de x hl eh : Nat} {hA heA : Nat → Nat} {z : Int} (hz : -2147483648 ≤ z ∧ z < 2147483648) (hx : isX L K F x 8 hl) (h : LST L K I F N O de hl eh 5 hA) (hc : ∀ i, i < 5 → isH L K F N (hA i) (heA i)) : MC l yX5_findHouse wsX5_findHouse rmX5_findHouse G base [.ref x, .int (iI z)] (pw G X L K I F R N O) (fun v w => w = (pw G X L K I F R N O) ∧ ∃ i : Nat, z = (i : Int) ∧ i < 5 ∧ v = some (.ref (hA i))) (fun E w => E = "java/lang/IndexOutOfBoundsException" ∧ w = (pw G X L K I F R N O) ∧ ¬ (0 ≤ z ∧ z < 5)) := by
  refine MC.of (cc := cX5_findHouse) (by decide) rfl rfl (Nat.le_of_ble_eq_true rfl) ?_
  intro κ C hT hl hnm
  refine z_sub [0, 1] (lv' := [(0, .ref x), (1, .int (iI z))]) rfl ?_
  refine z_iload_n C 1 rfl rfl dX5_findHouse_0 (rfl : 0 + 1 = 1) ?_
  refine z_if_lt (pt := 15) C dX5_findHouse_1 (by decide) (rfl : 1 + 3 = 4) (iI_lt0 (by omega)).1 (fun q => mt (iI_lt0 (by omega)).2 q) (fun c => ?_) (fun c => ?_)
  · exact z_throwW C hT rfl lX5_findHouse_c284 nX5_findHouse_IOB (List.mem_of_getElem? (i := 5) rfl) tX5_findHouse_IOB thN_IOB thG_IOB dX5_findHouse_15 dX5_findHouse_18 dX5_findHouse_19 dX5_findHouse_22 dX5_findHouse_25 (by decide) (Nat.le_of_ble_eq_true rfl) (by decide) (by decide) (by decide) (by decide) ⟨rfl, rfl, by omega⟩
  refine z_iload_n C 1 rfl rfl dX5_findHouse_4 (rfl : 4 + 1 = 5) ?_
  refine z_aload_n C 0 rfl rfl dX5_findHouse_5 (rfl : 5 + 1 = 6) ?_
  refine z_get C (pwm_MC hx.1 hx.2.1) rfl iX5_findHouse_X5 0 (by decide) lX5_findHouse_f10 rfl rfl dX5_findHouse_6 (rfl : 6 + 3 = 9) ?_
  rw [hx.2.2]
  refine z_callV C 0 0 (c_list_size h) gX5_findHouse_Jx4a65c_size_8abf5 rfl hd30_Jx4a65c_size_8abf5 ⟨Nat.le_of_ble_eq_true rfl, Nat.le_of_ble_eq_true rfl⟩ (pwm_AL h.1 h.2.1) rfl rfl (Nat.le_of_ble_eq_true rfl) dX5_findHouse_9 (rfl : 9 + 3 = 12) rfl rfl ⟨Nat.le_of_ble_eq_true rfl, Nat.le_of_ble_eq_true rfl⟩ (fun _ _ h => h.elim) ?_ rfl
  rintro _ _ ⟨rfl, rfl⟩
  refine z_v1 ?_
  refine z_icmp_lt (pt := 26) C dX5_findHouse_12 (by decide) (rfl : 12 + 3 = 15) (iI_lt (by omega) (by omega)).1 (fun q => mt (iI_lt (by omega) (by omega)).2 q) (fun c2 => ?_) (fun c2 => ?_)
  rotate_left
  · exact z_throwW C hT rfl lX5_findHouse_c284 nX5_findHouse_IOB (List.mem_of_getElem? (i := 5) rfl) tX5_findHouse_IOB thN_IOB thG_IOB dX5_findHouse_15 dX5_findHouse_18 dX5_findHouse_19 dX5_findHouse_22 dX5_findHouse_25 (by decide) (Nat.le_of_ble_eq_true rfl) (by decide) (by decide) (by decide) (by decide) ⟨rfl, rfl, by omega⟩
  obtain ⟨i, rfl⟩ : ∃ i : Nat, z = (i : Int) := ⟨z.toNat, by omega⟩
  have hi : i < 5 := by omega
  refine z_aload_n C 0 rfl rfl dX5_findHouse_26 (rfl : 26 + 1 = 27) ?_
  refine z_get C (pwm_MC hx.1 hx.2.1) rfl iX5_findHouse_X5 0 (by decide) lX5_findHouse_f10 rfl rfl dX5_findHouse_27 (rfl : 27 + 3 = 30) ?_
  rw [hx.2.2]
  refine z_iload_n C 1 rfl rfl dX5_findHouse_30 (rfl : 30 + 1 = 31) ?_
  refine z_callV C 0 0 (c_list_get (i := i) h hi) gX5_findHouse_Jx4a65c_get_915e3 rfl hd30_Jx4a65c_get_915e3 ⟨Nat.le_of_ble_eq_true rfl, Nat.le_of_ble_eq_true rfl⟩ (pwm_AL h.1 h.2.1) rfl rfl (Nat.le_of_ble_eq_true rfl) dX5_findHouse_31 (rfl : 31 + 3 = 34) rfl rfl ⟨Nat.le_of_ble_eq_true rfl, Nat.le_of_ble_eq_true rfl⟩ (fun _ _ h => h.elim) ?_ rfl
  rintro _ _ ⟨rfl, rfl⟩
  refine z_v1 ?_
  refine z_cast C (pwm_House (hc i hi).1 (hc i hi).2.1) rfl lX5_findHouse_c40 dX5_findHouse_34 (rfl : 34 + 3 = 37) ?_
  exact z_aret (v := some (hA i)) C rfl (.inl ⟨_, rfl⟩) dX5_findHouse_37 ⟨rfl, i, rfl, hi, rfl⟩ (by decide) (by decide)
abbrev rmX5_findLoan : Room := { frames := 6, cells := 1, slots := 6, locals := 90 }
theorem c_X5_findLoan {de x ll el n : Nat} {lA : Nat → Nat} {z : Int} (hz : -2147483648 ≤ z ∧ z < 2147483648) (hx : isX L K F x 11 ll) (h : LST L K I F N O de ll el n lA) (hn : n ≤ 1000) (hc : ∀ i, i < n → lA i ∈ L ∧ K (lA i) = 4) : MC l yX5_findLoan wsX5_findLoan rmX5_findLoan G base [.ref x, .int (iI z)] (pw G X L K I F R N O) (fun v w => w = (pw G X L K I F R N O) ∧ ∃ i : Nat, z = (i : Int) ∧ i < n ∧ v = some (.ref (lA i))) (fun E w => E = "java/lang/IndexOutOfBoundsException" ∧ w = (pw G X L K I F R N O) ∧ ¬ (0 ≤ z ∧ z < n)) := by
  refine MC.of (cc := cX5_findLoan) (by decide) rfl rfl (Nat.le_of_ble_eq_true rfl) ?_
  intro κ C hT hl hnm
  refine z_sub [0, 1] (lv' := [(0, .ref x), (1, .int (iI z))]) rfl ?_
  refine z_iload_n C 1 rfl rfl dX5_findLoan_0 (rfl : 0 + 1 = 1) ?_
  refine z_if_lt (pt := 15) C dX5_findLoan_1 (by decide) (rfl : 1 + 3 = 4) (iI_lt0 (by omega)).1 (fun q => mt (iI_lt0 (by omega)).2 q) (fun c => ?_) (fun c => ?_)
  · exact z_throwW C hT rfl lX5_findLoan_c284 nX5_findLoan_IOB (List.mem_of_getElem? (i := 20) rfl) tX5_findLoan_IOB thN_IOB thG_IOB dX5_findLoan_15 dX5_findLoan_18 dX5_findLoan_19 dX5_findLoan_22 dX5_findLoan_25 (by decide) (Nat.le_of_ble_eq_true rfl) (by decide) (by decide) (by decide) (by decide) ⟨rfl, rfl, by omega⟩
  refine z_iload_n C 1 rfl rfl dX5_findLoan_4 (rfl : 4 + 1 = 5) ?_
  refine z_aload_n C 0 rfl rfl dX5_findLoan_5 (rfl : 5 + 1 = 6) ?_
  refine z_get C (pwm_MC hx.1 hx.2.1) rfl iX5_findLoan_X5 3 (by decide) lX5_findLoan_f22 rfl rfl dX5_findLoan_6 (rfl : 6 + 3 = 9) ?_
  rw [hx.2.2]
  refine z_callV C 0 0 (c_list_size h) gX5_findLoan_Jx4a65c_size_8abf5 rfl hd30_Jx4a65c_size_8abf5 ⟨Nat.le_of_ble_eq_true rfl, Nat.le_of_ble_eq_true rfl⟩ (pwm_AL h.1 h.2.1) rfl rfl (Nat.le_of_ble_eq_true rfl) dX5_findLoan_9 (rfl : 9 + 3 = 12) rfl rfl ⟨Nat.le_of_ble_eq_true rfl, Nat.le_of_ble_eq_true rfl⟩ (fun _ _ h => h.elim) ?_ rfl
  rintro _ _ ⟨rfl, rfl⟩
  refine z_v1 ?_
  refine z_icmp_lt (pt := 26) C dX5_findLoan_12 (by decide) (rfl : 12 + 3 = 15) (iI_lt (by omega) (by omega)).1 (fun q => mt (iI_lt (by omega) (by omega)).2 q) (fun c2 => ?_) (fun c2 => ?_)
  rotate_left
  · exact z_throwW C hT rfl lX5_findLoan_c284 nX5_findLoan_IOB (List.mem_of_getElem? (i := 20) rfl) tX5_findLoan_IOB thN_IOB thG_IOB dX5_findLoan_15 dX5_findLoan_18 dX5_findLoan_19 dX5_findLoan_22 dX5_findLoan_25 (by decide) (Nat.le_of_ble_eq_true rfl) (by decide) (by decide) (by decide) (by decide) ⟨rfl, rfl, by omega⟩
  obtain ⟨i, rfl⟩ : ∃ i : Nat, z = (i : Int) := ⟨z.toNat, by omega⟩
  have hi : i < n := by omega
  refine z_aload_n C 0 rfl rfl dX5_findLoan_26 (rfl : 26 + 1 = 27) ?_
  refine z_get C (pwm_MC hx.1 hx.2.1) rfl iX5_findLoan_X5 3 (by decide) lX5_findLoan_f22 rfl rfl dX5_findLoan_27 (rfl : 27 + 3 = 30) ?_
  rw [hx.2.2]
  refine z_iload_n C 1 rfl rfl dX5_findLoan_30 (rfl : 30 + 1 = 31) ?_
  refine z_callV C 0 0 (c_list_get (i := i) h hi) gX5_findLoan_Jx4a65c_get_915e3 rfl hd30_Jx4a65c_get_915e3 ⟨Nat.le_of_ble_eq_true rfl, Nat.le_of_ble_eq_true rfl⟩ (pwm_AL h.1 h.2.1) rfl rfl (Nat.le_of_ble_eq_true rfl) dX5_findLoan_31 (rfl : 31 + 3 = 34) rfl rfl ⟨Nat.le_of_ble_eq_true rfl, Nat.le_of_ble_eq_true rfl⟩ (fun _ _ h => h.elim) ?_ rfl
  rintro _ _ ⟨rfl, rfl⟩
  refine z_v1 ?_
  refine z_cast C (pwm_Loan (hc i hi).1 (hc i hi).2) rfl lX5_findLoan_c186 dX5_findLoan_34 (rfl : 34 + 3 = 37) ?_
  exact z_aret (v := some (lA i)) C rfl (.inl ⟨_, rfl⟩) dX5_findLoan_37 ⟨rfl, i, rfl, hi, rfl⟩ (by decide) (by decide)
abbrev rmX5_requireLetter : Room := { frames := 6, cells := 1, slots := 6, locals := 90 }
theorem c_X5_requireLetter {de x ll el n : Nat} {lA : Nat → Nat} {z : Int} (hz : -2147483648 ≤ z ∧ z < 2147483648) (hx : isX L K F x 10 ll) (h : LST L K I F N O de ll el n lA) (hn : n ≤ 1000) : MC l yX5_requireLetter wsX5_requireLetter rmX5_requireLetter G base [.ref x, .int (iI z)] (pw G X L K I F R N O) (fun v w => v = none ∧ w = (pw G X L K I F R N O) ∧ 0 ≤ z ∧ z < n) (fun E w => E = "java/lang/IndexOutOfBoundsException" ∧ w = (pw G X L K I F R N O) ∧ ¬ (0 ≤ z ∧ z < n)) := by
  refine MC.of (cc := cX5_requireLetter) (by decide) rfl rfl (Nat.le_of_ble_eq_true rfl) ?_
  intro κ C hT hl hnm
  refine z_sub [0, 1] (lv' := [(0, .ref x), (1, .int (iI z))]) rfl ?_
  refine z_iload_n C 1 rfl rfl dX5_requireLetter_0 (rfl : 0 + 1 = 1) ?_
  refine z_if_lt (pt := 15) C dX5_requireLetter_1 (by decide) (rfl : 1 + 3 = 4) (iI_lt0 (by omega)).1 (fun q => mt (iI_lt0 (by omega)).2 q) (fun c => ?_) (fun c => ?_)
  · exact z_throwW C hT rfl lX5_requireLetter_c284 nX5_requireLetter_IOB (List.mem_of_getElem? (i := 23) rfl) tX5_requireLetter_IOB thN_IOB thG_IOB dX5_requireLetter_15 dX5_requireLetter_18 dX5_requireLetter_19 dX5_requireLetter_22 dX5_requireLetter_25 (by decide) (Nat.le_of_ble_eq_true rfl) (by decide) (by decide) (by decide) (by decide) ⟨rfl, rfl, by omega⟩
  refine z_iload_n C 1 rfl rfl dX5_requireLetter_4 (rfl : 4 + 1 = 5) ?_
  refine z_aload_n C 0 rfl rfl dX5_requireLetter_5 (rfl : 5 + 1 = 6) ?_
  refine z_get C (pwm_MC hx.1 hx.2.1) rfl iX5_requireLetter_X5 2 (by decide) lX5_requireLetter_f19 rfl rfl dX5_requireLetter_6 (rfl : 6 + 3 = 9) ?_
  rw [hx.2.2]
  refine z_callV C 0 0 (c_list_size h) gX5_requireLetter_Jx4a65c_size_8abf5 rfl hd30_Jx4a65c_size_8abf5 ⟨Nat.le_of_ble_eq_true rfl, Nat.le_of_ble_eq_true rfl⟩ (pwm_AL h.1 h.2.1) rfl rfl (Nat.le_of_ble_eq_true rfl) dX5_requireLetter_9 (rfl : 9 + 3 = 12) rfl rfl ⟨Nat.le_of_ble_eq_true rfl, Nat.le_of_ble_eq_true rfl⟩ (fun _ _ h => h.elim) ?_ rfl
  rintro _ _ ⟨rfl, rfl⟩
  refine z_v1 ?_
  refine z_icmp_lt (pt := 26) C dX5_requireLetter_12 (by decide) (rfl : 12 + 3 = 15) (iI_lt (by omega) (by omega)).1 (fun q => mt (iI_lt (by omega) (by omega)).2 q) (fun c2 => ?_) (fun c2 => ?_)
  · exact z_vret C rfl dX5_requireLetter_26 ⟨rfl, rfl, by omega, by omega⟩ (by decide) (by decide)
  · exact z_throwW C hT rfl lX5_requireLetter_c284 nX5_requireLetter_IOB (List.mem_of_getElem? (i := 23) rfl) tX5_requireLetter_IOB thN_IOB thG_IOB dX5_requireLetter_15 dX5_requireLetter_18 dX5_requireLetter_19 dX5_requireLetter_22 dX5_requireLetter_25 (by decide) (Nat.le_of_ble_eq_true rfl) (by decide) (by decide) (by decide) (by decide) ⟨rfl, rfl, by omega⟩
abbrev rmX5_numberOf : Room := { frames := 0, cells := 0, slots := 0, locals := 0 }
theorem c_X5_numberOfN : MC l yX5_numberOf wsX5_numberOf rmX5_numberOf G base [.null] (pw G X L K I F R N O) (fun v w => v = some (.int (iI (-1))) ∧ w = (pw G X L K I F R N O)) (fun _ _ => False) := by
  refine MC.of (cc := cX5_numberOf) (by decide) rfl rfl (Nat.le_of_ble_eq_true rfl) ?_
  intro κ C hT hl hnm
  refine z_aload_nN C 0 rfl rfl dX5_numberOf_0 (rfl : 0 + 1 = 1) ?_
  refine z_ifnonnullN C  dX5_numberOf_1 (rfl : 1 + 3 = 4) ?_
  refine z_iconst C dX5_numberOf_4 (rfl : 4 + 1 = 5) ?_
  refine z_goto (pc' := 12) C dX5_numberOf_5 (by decide) ?_
  exact z_iret C rfl dX5_numberOf_12 ⟨rfl, rfl⟩ (by decide) (by decide)
theorem c_X5_numberOf {a : Nat} (ha : a ∈ L) (hk : K a = 0) : MC l yX5_numberOf wsX5_numberOf rmX5_numberOf G base [.ref a] (pw G X L K I F R N O) (fun v w => v = some (.int (iI (I 0 a))) ∧ w = (pw G X L K I F R N O)) (fun _ _ => False) := by
  refine MC.of (cc := cX5_numberOf) (by decide) rfl rfl (Nat.le_of_ble_eq_true rfl) ?_
  intro κ C hT hl hnm
  refine z_aload_n C 0 rfl rfl dX5_numberOf_0 (rfl : 0 + 1 = 1) ?_
  refine z_ifnonnull (pc' := 8) C dX5_numberOf_1 (by decide) ?_
  refine z_aload_n C 0 rfl rfl dX5_numberOf_8 (rfl : 8 + 1 = 9) ?_
  refine z_get C (pwm_Copy ha hk) rfl iX5_numberOf_X0 0 (by decide) lX5_numberOf_f118 rfl rfl dX5_numberOf_9 (rfl : 9 + 3 = 12) ?_
  exact z_iret C rfl dX5_numberOf_12 ⟨rfl, rfl⟩ (by decide) (by decide)
abbrev rmX5_setOf : Room := { frames := 0, cells := 0, slots := 0, locals := 0 }
theorem c_X5_setOf {a i : Nat} (ha : a ∈ L) (hk : K a = 0) (hi : I 0 a = (i : Int)) (h64 : i < 60) : MC l yX5_setOf wsX5_setOf rmX5_setOf G base [.ref a] (pw G X L K I F R N O) (fun v w => v = some (.long (lN (2 ^ i))) ∧ w = (pw G X L K I F R N O)) (fun _ _ => False) := by
  refine MC.of (cc := cX5_setOf) (by decide) rfl rfl (Nat.le_of_ble_eq_true rfl) ?_
  intro κ C hT hl hnm
  refine z_lconst (v := 1) C (by decide) dX5_setOf_0 (rfl : 0 + 1 = 1) ?_
  refine z_aload_n C 0 rfl rfl dX5_setOf_1 (rfl : 1 + 1 = 2) ?_
  refine z_get C (pwm_Copy ha hk) rfl iX5_setOf_X0 0 (by decide) lX5_setOf_f118 rfl rfl dX5_setOf_2 (rfl : 2 + 3 = 5) ?_
  rw [hi]
  refine z_lshl C rfl dX5_setOf_5 (rfl : 5 + 1 = 6) ?_
  refine z_topl (y := lN (2 ^ i)) (shl1 h64) ?_
  exact z_lret C rfl dX5_setOf_6 ⟨rfl, rfl⟩ (by decide) (by decide)
abbrev rmX5_worthAsModel : Room := { frames := 2, cells := 0, slots := 0, locals := 50 }
theorem c_X5_worthAsModel {a b ra rb : Nat} (ha : isC L K F N a ra) (hb : isC L K F N b rb) (xa : rg9 (R ra)) (xb : rg9 (R rb)) : MC l yX5_worthAsModel wsX5_worthAsModel rmX5_worthAsModel G base [.ref a, .ref b] (pw G X L K I F R N O) (fun v w => v = some (.int (iI (3 * shc (R rb) (R ra) 24 - shc (R ra) (R ra) 24))) ∧ w = (pw G X L K I F R N O)) (fun _ _ => False) := by
  refine MC.of (cc := cX5_worthAsModel) (by decide) rfl rfl (Nat.le_of_ble_eq_true rfl) ?_
  intro κ C hT hl hnm
  refine z_sub [0, 1] (lv' := [(0, .ref a), (1, .ref b)]) rfl ?_
  refine z_aload_n C 1 rfl rfl dX5_worthAsModel_0 (rfl : 0 + 1 = 1) ?_
  refine z_aload_n C 0 rfl rfl dX5_worthAsModel_1 (rfl : 1 + 1 = 2) ?_
  refine z_callV C 0 0 (c_X0_countSharedWith hb ha xb xa) gX5_worthAsModel_X0_countSharedWith rfl hd30_X0_countSharedWith ⟨Nat.le_of_ble_eq_true rfl, Nat.le_of_ble_eq_true rfl⟩ (pwm_Copy hb.1 hb.2.1) rfl rfl (Nat.le_of_ble_eq_true rfl) dX5_worthAsModel_2 (rfl : 2 + 3 = 5) rfl rfl ⟨Nat.le_of_ble_eq_true rfl, Nat.le_of_ble_eq_true rfl⟩ (fun _ _ h => h.elim) ?_ rfl
  rintro _ _ ⟨rfl, rfl⟩
  refine z_v1 ?_
  refine z_istore_n (lv' := [(2, _), (0, _), (1, _)]) C rfl dX5_worthAsModel_5 (rfl : 5 + 1 = 6) (by decide) rfl ?_
  refine z_aload_n C 1 rfl rfl dX5_worthAsModel_6 (rfl : 6 + 1 = 7) ?_
  refine z_callV C 0 0 (c_X0_countErrors ha xa) gX5_worthAsModel_X0_countErrors rfl hd30_X0_countErrors ⟨Nat.le_of_ble_eq_true rfl, Nat.le_of_ble_eq_true rfl⟩ (pwm_Copy ha.1 ha.2.1) rfl rfl (Nat.le_of_ble_eq_true rfl) dX5_worthAsModel_7 (rfl : 7 + 3 = 10) rfl rfl ⟨Nat.le_of_ble_eq_true rfl, Nat.le_of_ble_eq_true rfl⟩ (fun _ _ h => h.elim) ?_ rfl
  rintro _ _ ⟨rfl, rfl⟩
  refine z_v1 ?_
  refine z_iload_n C 0 rfl rfl dX5_worthAsModel_10 (rfl : 10 + 1 = 11) ?_
  refine z_isub C dX5_worthAsModel_11 (rfl : 11 + 1 = 12) rfl ?_
  refine z_istore_n (lv' := [(3, _), (2, _), (0, _), (1, _)]) C rfl dX5_worthAsModel_12 (rfl : 12 + 1 = 13) (by decide) rfl ?_
  refine z_iconst C dX5_worthAsModel_13 (rfl : 13 + 1 = 14) ?_
  refine z_iload_n C 1 rfl rfl dX5_worthAsModel_14 (rfl : 14 + 1 = 15) ?_
  refine z_imul C dX5_worthAsModel_15 (rfl : 15 + 1 = 16) rfl ?_
  refine z_iload_n C 0 rfl rfl dX5_worthAsModel_16 (rfl : 16 + 1 = 17) ?_
  refine z_isub C dX5_worthAsModel_17 (rfl : 17 + 1 = 18) rfl ?_
  refine z_topi (y := iI (3 * shc (R rb) (R ra) 24 - shc (R ra) (R ra) 24)) (by congr 1; omega) ?_
  exact z_iret C rfl dX5_worthAsModel_18 ⟨rfl, rfl⟩ (by decide) (by decide)
end
