theorem lX5_copies_f16 : Cond.fieldLink RX5 16 "ModelCopies" "copies" "Ljava/util/ArrayList;" ∈ wsX5_copies := by decide +kernel
theorem iX5_copies_X5 : ∀ w ∈ wsX50, w ∈ wsX5_copies := by decide +kernel
theorem hd61_Jx4a65c_size_8abf5 : yJx4a65c_size_8abf5.cls = RJx4a65c ∧ yJx4a65c_size_8abf5.cls ≠ "java/lang/invoke/MethodHandle" ∧ yJx4a65c_size_8abf5.cls ≠ "java/lang/invoke/VarHandle" ∧ (parseMethodDescriptor yJx4a65c_size_8abf5.desc).map (fun d => d.parameters.length) = some 0 := by decide +kernel
theorem lX5_letters_f19 : Cond.fieldLink RX5 19 "ModelCopies" "letters" "Ljava/util/ArrayList;" ∈ wsX5_letters := by decide +kernel
theorem iX5_letters_X5 : ∀ w ∈ wsX50, w ∈ wsX5_letters := by decide +kernel
theorem lX5_loans_f22 : Cond.fieldLink RX5 22 "ModelCopies" "loans" "Ljava/util/ArrayList;" ∈ wsX5_loans := by decide +kernel
theorem iX5_loans_X5 : ∀ w ∈ wsX50, w ∈ wsX5_loans := by decide +kernel
theorem lX5_day_f36 : Cond.fieldLink RX5 36 "ModelCopies" "today" "I" ∈ wsX5_day := by decide +kernel
theorem iX5_day_X5 : ∀ w ∈ wsX50, w ∈ wsX5_day := by decide +kernel
theorem hd61_X5_findCopy : yX5_findCopy.cls = RX5 ∧ yX5_findCopy.cls ≠ "java/lang/invoke/MethodHandle" ∧ yX5_findCopy.cls ≠ "java/lang/invoke/VarHandle" ∧ (parseMethodDescriptor yX5_findCopy.desc).map (fun d => d.parameters.length) = some 1 := by decide +kernel
theorem hd61_X0_countErrors : yX0_countErrors.cls = RX0 ∧ yX0_countErrors.cls ≠ "java/lang/invoke/MethodHandle" ∧ yX0_countErrors.cls ≠ "java/lang/invoke/VarHandle" ∧ (parseMethodDescriptor yX0_countErrors.desc).map (fun d => d.parameters.length) = some 0 := by decide +kernel
theorem lX5_houseOf_f91 : Cond.fieldLink RX5 91 "ModelCopies$Copy" "house" "LModelCopies$House;" ∈ wsX5_houseOf := by decide +kernel
theorem iX5_houseOf_X0 : ∀ w ∈ wsX00, w ∈ wsX5_houseOf := by decide +kernel
theorem lX5_houseOf_f232 : Cond.fieldLink RX5 232 "ModelCopies$House" "number" "I" ∈ wsX5_houseOf := by decide +kernel
theorem iX5_houseOf_X2 : ∀ w ∈ wsX20, w ∈ wsX5_houseOf := by decide +kernel
theorem lX5_ownerOf_f174 : Cond.fieldLink RX5 174 "ModelCopies$Copy" "owner" "LModelCopies$House;" ∈ wsX5_ownerOf := by decide +kernel
theorem iX5_ownerOf_X0 : ∀ w ∈ wsX00, w ∈ wsX5_ownerOf := by decide +kernel
theorem lX5_ownerOf_f232 : Cond.fieldLink RX5 232 "ModelCopies$House" "number" "I" ∈ wsX5_ownerOf := by decide +kernel
theorem iX5_ownerOf_X2 : ∀ w ∈ wsX20, w ∈ wsX5_ownerOf := by decide +kernel
theorem hd61_X5_findHouse : yX5_findHouse.cls = RX5 ∧ yX5_findHouse.cls ≠ "java/lang/invoke/MethodHandle" ∧ yX5_findHouse.cls ≠ "java/lang/invoke/VarHandle" ∧ (parseMethodDescriptor yX5_findHouse.desc).map (fun d => d.parameters.length) = some 1 := by decide +kernel
theorem lX5_coins_f179 : Cond.fieldLink RX5 179 "ModelCopies$House" "coins" "I" ∈ wsX5_coins := by decide +kernel
theorem iX5_coins_X2 : ∀ w ∈ wsX20, w ∈ wsX5_coins := by decide +kernel
theorem lX5_laidDown_f191 : Cond.fieldLink RX5 191 "ModelCopies$House" "laidDown" "I" ∈ wsX5_laidDown := by decide +kernel
theorem iX5_laidDown_X2 : ∀ w ∈ wsX20, w ∈ wsX5_laidDown := by decide +kernel
theorem hd61_X5_findLoan : yX5_findLoan.cls = RX5 ∧ yX5_findLoan.cls ≠ "java/lang/invoke/MethodHandle" ∧ yX5_findLoan.cls ≠ "java/lang/invoke/VarHandle" ∧ (parseMethodDescriptor yX5_findLoan.desc).map (fun d => d.parameters.length) = some 1 := by decide +kernel
theorem lX5_isBack_f202 : Cond.fieldLink RX5 202 "ModelCopies$Loan" "isBack" "Z" ∈ wsX5_isBack := by decide +kernel
theorem iX5_isBack_X4 : ∀ w ∈ wsX40, w ∈ wsX5_isBack := by decide +kernel
theorem hd61_X0_modelIfTold : yX0_modelIfTold.cls = RX0 ∧ yX0_modelIfTold.cls ≠ "java/lang/invoke/MethodHandle" ∧ yX0_modelIfTold.cls ≠ "java/lang/invoke/VarHandle" ∧ (parseMethodDescriptor yX0_modelIfTold.desc).map (fun d => d.parameters.length) = some 0 := by decide +kernel
theorem hd61_X5_numberOf : yX5_numberOf.cls ≠ "java/lang/invoke/MethodHandle" ∧ yX5_numberOf.cls ≠ "java/lang/invoke/VarHandle" ∧ (parseMethodDescriptor yX5_numberOf.desc).map (fun d => d.parameters.length) = some 1 := by decide +kernel
theorem lX5_late_f202 : Cond.fieldLink RX5 202 "ModelCopies$Loan" "isBack" "Z" ∈ wsX5_late := by decide +kernel
theorem iX5_late_X4 : ∀ w ∈ wsX40, w ∈ wsX5_late := by decide +kernel
theorem lX5_late_f220 : Cond.fieldLink RX5 220 "ModelCopies$Loan" "daysLateAtEnd" "I" ∈ wsX5_late := by decide +kernel
theorem lX5_late_f36 : Cond.fieldLink RX5 36 "ModelCopies" "today" "I" ∈ wsX5_late := by decide +kernel
theorem iX5_late_X5 : ∀ w ∈ wsX50, w ∈ wsX5_late := by decide +kernel
theorem hd61_X4_daysLateOn : yX4_daysLateOn.cls = RX4 ∧ yX4_daysLateOn.cls ≠ "java/lang/invoke/MethodHandle" ∧ yX4_daysLateOn.cls ≠ "java/lang/invoke/VarHandle" ∧ (parseMethodDescriptor yX4_daysLateOn.desc).map (fun d => d.parameters.length) = some 1 := by decide +kernel
theorem hd61_X5_requireScribe : yX5_requireScribe.cls ≠ "java/lang/invoke/MethodHandle" ∧ yX5_requireScribe.cls ≠ "java/lang/invoke/VarHandle" ∧ (parseMethodDescriptor yX5_requireScribe.desc).map (fun d => d.parameters.length) = some 1 := by decide +kernel
theorem lX5_slips_f25 : Cond.fieldLink RX5 25 "ModelCopies" "slipsByScribe" "[I" ∈ wsX5_slips := by decide +kernel
theorem iX5_slips_X5 : ∀ w ∈ wsX50, w ∈ wsX5_slips := by decide +kernel
theorem hd61_X5_requirePlace : yX5_requirePlace.cls ≠ "java/lang/invoke/MethodHandle" ∧ yX5_requirePlace.cls ≠ "java/lang/invoke/VarHandle" ∧ (parseMethodDescriptor yX5_requirePlace.desc).map (fun d => d.parameters.length) = some 1 := by decide +kernel
theorem lX5_reading_f139 : Cond.fieldLink RX5 139 "ModelCopies$Copy" "readings" "[I" ∈ wsX5_reading := by decide +kernel
theorem iX5_reading_X0 : ∀ w ∈ wsX00, w ∈ wsX5_reading := by decide +kernel
theorem hd61_X0_countSharedWith : yX0_countSharedWith.cls = RX0 ∧ yX0_countSharedWith.cls ≠ "java/lang/invoke/MethodHandle" ∧ yX0_countSharedWith.cls ≠ "java/lang/invoke/VarHandle" ∧ (parseMethodDescriptor yX0_countSharedWith.desc).map (fun d => d.parameters.length) = some 1 := by decide +kernel
theorem hd61_X5_requireLetter : yX5_requireLetter.cls = RX5 ∧ yX5_requireLetter.cls ≠ "java/lang/invoke/MethodHandle" ∧ yX5_requireLetter.cls ≠ "java/lang/invoke/VarHandle" ∧ (parseMethodDescriptor yX5_requireLetter.desc).map (fun d => d.parameters.length) = some 1 := by decide +kernel
theorem hd61_X2_holds : yX2_holds.cls = RX2 ∧ yX2_holds.cls ≠ "java/lang/invoke/MethodHandle" ∧ yX2_holds.cls ≠ "java/lang/invoke/VarHandle" ∧ (parseMethodDescriptor yX2_holds.desc).map (fun d => d.parameters.length) = some 1 := by decide +kernel
theorem lX5_letter_f19 : Cond.fieldLink RX5 19 "ModelCopies" "letters" "Ljava/util/ArrayList;" ∈ wsX5_letter := by decide +kernel
theorem iX5_letter_X5 : ∀ w ∈ wsX50, w ∈ wsX5_letter := by decide +kernel
theorem hd61_Jx4a65c_get_915e3 : yJx4a65c_get_915e3.cls = RJx4a65c ∧ yJx4a65c_get_915e3.cls ≠ "java/lang/invoke/MethodHandle" ∧ yJx4a65c_get_915e3.cls ≠ "java/lang/invoke/VarHandle" ∧ (parseMethodDescriptor yJx4a65c_get_915e3.desc).map (fun d => d.parameters.length) = some 1 := by decide +kernel
theorem lX5_letter_c146 : Cond.classLink RX5 146 "ModelCopies$Letter" ∈ wsX5_letter := by decide +kernel
theorem lX5_letter_f275 : Cond.fieldLink RX5 275 "ModelCopies$Letter" "place" "I" ∈ wsX5_letter := by decide +kernel
theorem iX5_letter_X3 : ∀ w ∈ wsX30, w ∈ wsX5_letter := by decide +kernel
theorem lX5_letter_f278 : Cond.fieldLink RX5 278 "ModelCopies$Letter" "was" "I" ∈ wsX5_letter := by decide +kernel
theorem lX5_letter_f281 : Cond.fieldLink RX5 281 "ModelCopies$Letter" "now" "I" ∈ wsX5_letter := by decide +kernel
theorem lX5_family_f127 : Cond.fieldLink RX5 127 "ModelCopies$Copy" "family" "I" ∈ wsX5_family := by decide +kernel
theorem iX5_family_X0 : ∀ w ∈ wsX00, w ∈ wsX5_family := by decide +kernel
def rdP (w0 : va_W) (P : Prop) (ans : Int) : Option Value → va_W → Prop := fun v w => w = w0 ∧ P ∧ v = some (.int (iI ans))
def rdE (w0 : va_W) (P : Prop) : String → va_W → Prop := fun E w => E = "java/lang/IndexOutOfBoundsException" ∧ w = w0 ∧ ¬ P
section
variable {κ : KxT} {G : GG} {base mc ms : Nat} {post : Option Value → va_W → Prop} {exc : String → va_W → Prop} {X : va_W} {L : List Nat} {K : Nat → Nat} {I : Nat → Nat → Int} {F : Nat → Nat → Option Nat} {R : Nat → Nat → Int} {N : Nat → Nat} {O : Nat → Nat → Option Nat} {l : Launch}
variable {de n m t : Nat} {T : Nat → Nat} {g : Nat → Nat → Nat} {V : Nat → Nat → Int}
abbrev rmX5_copies : Room := { frames := 1, cells := 0, slots := 0, locals := 40 }
theorem c_X5_copies (h : RX de L K I F R N O T g V n m t) (hw : WFV V n m t) : MC l yX5_copies wsX5_copies rmX5_copies G base [.ref (g 6 0)] (pw G X L K I F R N O) (fun v w => v = some (.int (iI (n : Int))) ∧ w = (pw G X L K I F R N O)) (fun _ _ => False) := by
  refine MC.of (cc := cX5_copies) (by decide) rfl rfl (Nat.le_of_ble_eq_true rfl) ?_
  intro κ C hT hl hnm
  refine z_aload_n C 0 rfl rfl dX5_copies_0 (rfl : 0 + 1 = 1) ?_
  refine z_get C (pwm_MC h.1.x9.1 h.1.x9.2.1) rfl iX5_copies_X5 1 (by decide) lX5_copies_f16 rfl rfl dX5_copies_1 (rfl : 1 + 3 = 4) ?_
  rw [h.1.x9.2.2]
  refine z_callV C 0 0 (c_list_size h.1.l1) gX5_copies_Jx4a65c_size_8abf5 rfl hd61_Jx4a65c_size_8abf5 ⟨Nat.le_of_ble_eq_true rfl, Nat.le_of_ble_eq_true rfl⟩ (pwm_AL h.1.l1.1 h.1.l1.2.1) rfl rfl (Nat.le_of_ble_eq_true rfl) dX5_copies_4 (rfl : 4 + 3 = 7) rfl rfl ⟨Nat.le_of_ble_eq_true rfl, Nat.le_of_ble_eq_true rfl⟩ (fun _ _ h => h.elim) ?_ rfl
  rintro _ _ ⟨rfl, rfl⟩
  refine z_v1 ?_
  exact z_iret C rfl dX5_copies_7 ⟨rfl, rfl⟩ (by decide) (by decide)
abbrev rmX5_letters : Room := { frames := 1, cells := 0, slots := 0, locals := 40 }
theorem c_X5_letters (h : RX de L K I F R N O T g V n m t) (hw : WFV V n m t) : MC l yX5_letters wsX5_letters rmX5_letters G base [.ref (g 6 0)] (pw G X L K I F R N O) (fun v w => v = some (.int (iI (m : Int))) ∧ w = (pw G X L K I F R N O)) (fun _ _ => False) := by
  refine MC.of (cc := cX5_letters) (by decide) rfl rfl (Nat.le_of_ble_eq_true rfl) ?_
  intro κ C hT hl hnm
  refine z_aload_n C 0 rfl rfl dX5_letters_0 (rfl : 0 + 1 = 1) ?_
  refine z_get C (pwm_MC h.1.x10.1 h.1.x10.2.1) rfl iX5_letters_X5 2 (by decide) lX5_letters_f19 rfl rfl dX5_letters_1 (rfl : 1 + 3 = 4) ?_
  rw [h.1.x10.2.2]
  refine z_callV C 0 0 (c_list_size h.1.l2) gX5_letters_Jx4a65c_size_8abf5 rfl hd61_Jx4a65c_size_8abf5 ⟨Nat.le_of_ble_eq_true rfl, Nat.le_of_ble_eq_true rfl⟩ (pwm_AL h.1.l2.1 h.1.l2.2.1) rfl rfl (Nat.le_of_ble_eq_true rfl) dX5_letters_4 (rfl : 4 + 3 = 7) rfl rfl ⟨Nat.le_of_ble_eq_true rfl, Nat.le_of_ble_eq_true rfl⟩ (fun _ _ h => h.elim) ?_ rfl
  rintro _ _ ⟨rfl, rfl⟩
  refine z_v1 ?_
  exact z_iret C rfl dX5_letters_7 ⟨rfl, rfl⟩ (by decide) (by decide)
abbrev rmX5_loans : Room := { frames := 1, cells := 0, slots := 0, locals := 40 }
theorem c_X5_loans (h : RX de L K I F R N O T g V n m t) (hw : WFV V n m t) : MC l yX5_loans wsX5_loans rmX5_loans G base [.ref (g 6 0)] (pw G X L K I F R N O) (fun v w => v = some (.int (iI (t : Int))) ∧ w = (pw G X L K I F R N O)) (fun _ _ => False) := by
  refine MC.of (cc := cX5_loans) (by decide) rfl rfl (Nat.le_of_ble_eq_true rfl) ?_
  intro κ C hT hl hnm
  refine z_aload_n C 0 rfl rfl dX5_loans_0 (rfl : 0 + 1 = 1) ?_
  refine z_get C (pwm_MC h.1.x11.1 h.1.x11.2.1) rfl iX5_loans_X5 3 (by decide) lX5_loans_f22 rfl rfl dX5_loans_1 (rfl : 1 + 3 = 4) ?_
  rw [h.1.x11.2.2]
  refine z_callV C 0 0 (c_list_size h.1.l3) gX5_loans_Jx4a65c_size_8abf5 rfl hd61_Jx4a65c_size_8abf5 ⟨Nat.le_of_ble_eq_true rfl, Nat.le_of_ble_eq_true rfl⟩ (pwm_AL h.1.l3.1 h.1.l3.2.1) rfl rfl (Nat.le_of_ble_eq_true rfl) dX5_loans_4 (rfl : 4 + 3 = 7) rfl rfl ⟨Nat.le_of_ble_eq_true rfl, Nat.le_of_ble_eq_true rfl⟩ (fun _ _ h => h.elim) ?_ rfl
  rintro _ _ ⟨rfl, rfl⟩
  refine z_v1 ?_
  exact z_iret C rfl dX5_loans_7 ⟨rfl, rfl⟩ (by decide) (by decide)
abbrev rmX5_day : Room := { frames := 0, cells := 0, slots := 0, locals := 0 }
theorem c_X5_day (h : RX de L K I F R N O T g V n m t) (hw : WFV V n m t) : MC l yX5_day wsX5_day rmX5_day G base [.ref (g 6 0)] (pw G X L K I F R N O) (fun v w => v = some (.int (iI (V 9 0))) ∧ w = (pw G X L K I F R N O)) (fun _ _ => False) := by
  refine MC.of (cc := cX5_day) (by decide) rfl rfl (Nat.le_of_ble_eq_true rfl) ?_
  intro κ C hT hl hnm
  refine z_aload_n C 0 rfl rfl dX5_day_0 (rfl : 0 + 1 = 1) ?_
  refine z_get C (pwm_MC h.1.x8.1 h.1.x8.2.1) rfl iX5_day_X5 6 (by decide) lX5_day_f36 rfl rfl dX5_day_1 (rfl : 1 + 3 = 4) ?_
  rw [show I 14 (g 6 0) = V 9 0 from h.1.2.2.2.1]
  exact z_iret C rfl dX5_day_4 ⟨rfl, rfl⟩ (by decide) (by decide)
abbrev rmX5_errors : Room := { frames := 7, cells := 1, slots := 6, locals := 140 }
theorem c_X5_errors {z : Int} (hz : -2147483648 ≤ z ∧ z < 2147483648) (h : RX de L K I F R N O T g V n m t) (hw : WFV V n m t) : MC l yX5_errors wsX5_errors rmX5_errors G base [.ref (g 6 0), .int (iI z)] (pw G X L K I F R N O) (rdP (pw G X L K I F R N O) (0 ≤ z ∧ z < n) (shV V z.toNat z.toNat)) (rdE (pw G X L K I F R N O) (0 ≤ z ∧ z < n)) := by
  refine MC.of (cc := cX5_errors) (by decide) rfl rfl (Nat.le_of_ble_eq_true rfl) ?_
  intro κ C hT hl hnm
  have hn := hw.2.1
  refine z_sub [0, 1] (lv' := [(0, .ref (g 6 0)), (1, .int (iI z))]) rfl ?_
  refine z_aload_n C 0 rfl rfl dX5_errors_0 (rfl : 0 + 1 = 1) ?_
  refine z_iload_n C 1 rfl rfl dX5_errors_1 (rfl : 1 + 1 = 2) ?_
  refine z_callV C 1 6 (c_X5_findCopy (rA := g 1) hz h.1.x9 h.1.l1 (by omega) (fun i hi => h.1.isC hi)) gX5_errors_X5_findCopy rfl hd61_X5_findCopy ⟨Nat.le_of_ble_eq_true rfl, Nat.le_of_ble_eq_true rfl⟩ (pwm_MC h.1.x8.1 h.1.x8.2.1) rfl rfl (Nat.le_of_ble_eq_true rfl) dX5_errors_2 (rfl : 2 + 3 = 5) rfl rfl ⟨Nat.le_of_ble_eq_true rfl, Nat.le_of_ble_eq_true rfl⟩ (fun E w h => z_out C hT ⟨h.1, h.2.1, h.2.2⟩ (by decide) (by decide)) ?_ rfl
  rintro _ _ ⟨rfl, i, rfl, hi, rfl⟩
  refine z_v1 ?_
  refine z_callV C 1 6 (c_X0_countErrors (h.1.isC hi) (h.1.rg9 hw hi)) gX5_errors_X0_countErrors rfl hd61_X0_countErrors ⟨Nat.le_of_ble_eq_true rfl, Nat.le_of_ble_eq_true rfl⟩ (pwm_Copy (h.1.g0 hi).1 (h.1.g0 hi).2) rfl rfl (Nat.le_of_ble_eq_true rfl) dX5_errors_5 (rfl : 5 + 3 = 8) rfl rfl ⟨Nat.le_of_ble_eq_true rfl, Nat.le_of_ble_eq_true rfl⟩ (fun _ _ h => h.elim) ?_ rfl
  rintro _ _ ⟨rfl, rfl⟩
  refine z_v1 ?_
  rw [h.1.sh hi hi]
  exact z_iret C rfl dX5_errors_8 ⟨rfl, ⟨by omega, by omega⟩, rfl⟩ (by decide) (by decide)
abbrev rmX5_houseOf : Room := { frames := 7, cells := 1, slots := 6, locals := 140 }
theorem c_X5_houseOf {z : Int} (hz : -2147483648 ≤ z ∧ z < 2147483648) (h : RX de L K I F R N O T g V n m t) (hw : WFV V n m t) : MC l yX5_houseOf wsX5_houseOf rmX5_houseOf G base [.ref (g 6 0), .int (iI z)] (pw G X L K I F R N O) (rdP (pw G X L K I F R N O) (0 ≤ z ∧ z < n) (V 4 z.toNat)) (rdE (pw G X L K I F R N O) (0 ≤ z ∧ z < n)) := by
  refine MC.of (cc := cX5_houseOf) (by decide) rfl rfl (Nat.le_of_ble_eq_true rfl) ?_
  intro κ C hT hl hnm
  have hn := hw.2.1
  refine z_sub [0, 1] (lv' := [(0, .ref (g 6 0)), (1, .int (iI z))]) rfl ?_
  refine z_aload_n C 0 rfl rfl dX5_houseOf_0 (rfl : 0 + 1 = 1) ?_
  refine z_iload_n C 1 rfl rfl dX5_houseOf_1 (rfl : 1 + 1 = 2) ?_
  refine z_callV C 1 6 (c_X5_findCopy (rA := g 1) hz h.1.x9 h.1.l1 (by omega) (fun i hi => h.1.isC hi)) gX5_houseOf_X5_findCopy rfl hd61_X5_findCopy ⟨Nat.le_of_ble_eq_true rfl, Nat.le_of_ble_eq_true rfl⟩ (pwm_MC h.1.x8.1 h.1.x8.2.1) rfl rfl (Nat.le_of_ble_eq_true rfl) dX5_houseOf_2 (rfl : 2 + 3 = 5) rfl rfl ⟨Nat.le_of_ble_eq_true rfl, Nat.le_of_ble_eq_true rfl⟩ (fun E w h => z_out C hT ⟨h.1, h.2.1, h.2.2⟩ (by decide) (by decide)) ?_ rfl
  rintro _ _ ⟨rfl, i, rfl, hi, rfl⟩
  refine z_v1 ?_
  refine z_get C (pwm_Copy (h.1.g0 hi).1 (h.1.g0 hi).2) rfl iX5_houseOf_X0 4 (by decide) lX5_houseOf_f91 rfl rfl dX5_houseOf_5 (rfl : 5 + 3 = 8) ?_
  have hh := (hw.2.2.2.2.2.1 i hi).2
  rw [h.1.house hi]
  refine z_get C (pwm_House (h.1.g2 (i := (V 4 i).toNat) (by omega)).1 (h.1.g2 (i := (V 4 i).toNat) (by omega)).2) rfl iX5_houseOf_X2 0 (by decide) lX5_houseOf_f232 rfl rfl dX5_houseOf_8 (rfl : 8 + 3 = 11) ?_
  refine z_topi (y := iI (V 4 i)) (by rw [(h.1.2.1.2.2.1 (V 4 i).toNat (by omega)).2.2]; congr 1; omega) ?_
  exact z_iret C rfl dX5_houseOf_11 ⟨rfl, ⟨by omega, by omega⟩, rfl⟩ (by decide) (by decide)
abbrev rmX5_ownerOf : Room := { frames := 7, cells := 1, slots := 6, locals := 140 }
theorem c_X5_ownerOf {z : Int} (hz : -2147483648 ≤ z ∧ z < 2147483648) (h : RX de L K I F R N O T g V n m t) (hw : WFV V n m t) : MC l yX5_ownerOf wsX5_ownerOf rmX5_ownerOf G base [.ref (g 6 0), .int (iI z)] (pw G X L K I F R N O) (rdP (pw G X L K I F R N O) (0 ≤ z ∧ z < n) (V 3 z.toNat)) (rdE (pw G X L K I F R N O) (0 ≤ z ∧ z < n)) := by
  refine MC.of (cc := cX5_ownerOf) (by decide) rfl rfl (Nat.le_of_ble_eq_true rfl) ?_
  intro κ C hT hl hnm
  have hn := hw.2.1
  refine z_sub [0, 1] (lv' := [(0, .ref (g 6 0)), (1, .int (iI z))]) rfl ?_
  refine z_aload_n C 0 rfl rfl dX5_ownerOf_0 (rfl : 0 + 1 = 1) ?_
  refine z_iload_n C 1 rfl rfl dX5_ownerOf_1 (rfl : 1 + 1 = 2) ?_
  refine z_callV C 1 6 (c_X5_findCopy (rA := g 1) hz h.1.x9 h.1.l1 (by omega) (fun i hi => h.1.isC hi)) gX5_ownerOf_X5_findCopy rfl hd61_X5_findCopy ⟨Nat.le_of_ble_eq_true rfl, Nat.le_of_ble_eq_true rfl⟩ (pwm_MC h.1.x8.1 h.1.x8.2.1) rfl rfl (Nat.le_of_ble_eq_true rfl) dX5_ownerOf_2 (rfl : 2 + 3 = 5) rfl rfl ⟨Nat.le_of_ble_eq_true rfl, Nat.le_of_ble_eq_true rfl⟩ (fun E w h => z_out C hT ⟨h.1, h.2.1, h.2.2⟩ (by decide) (by decide)) ?_ rfl
  rintro _ _ ⟨rfl, i, rfl, hi, rfl⟩
  refine z_v1 ?_
  refine z_get C (pwm_Copy (h.1.g0 hi).1 (h.1.g0 hi).2) rfl iX5_ownerOf_X0 2 (by decide) lX5_ownerOf_f174 rfl rfl dX5_ownerOf_5 (rfl : 5 + 3 = 8) ?_
  have hh := (hw.2.2.2.2.2.1 i hi).1
  rw [(h.1.2.1.2.2.2.1 i hi).2.2.2.2]
  refine z_get C (pwm_House (h.1.g2 (i := (V 3 i).toNat) (by omega)).1 (h.1.g2 (i := (V 3 i).toNat) (by omega)).2) rfl iX5_ownerOf_X2 0 (by decide) lX5_ownerOf_f232 rfl rfl dX5_ownerOf_8 (rfl : 8 + 3 = 11) ?_
  refine z_topi (y := iI (V 3 i)) (by rw [(h.1.2.1.2.2.1 (V 3 i).toNat (by omega)).2.2]; congr 1; omega) ?_
  exact z_iret C rfl dX5_ownerOf_11 ⟨rfl, ⟨by omega, by omega⟩, rfl⟩ (by decide) (by decide)
abbrev rmX5_coins : Room := { frames := 7, cells := 1, slots := 6, locals := 140 }
theorem c_X5_coins {z : Int} (hz : -2147483648 ≤ z ∧ z < 2147483648) (h : RX de L K I F R N O T g V n m t) (hw : WFV V n m t) : MC l yX5_coins wsX5_coins rmX5_coins G base [.ref (g 6 0), .int (iI z)] (pw G X L K I F R N O) (rdP (pw G X L K I F R N O) (0 ≤ z ∧ z < 5) (V 22 z.toNat)) (rdE (pw G X L K I F R N O) (0 ≤ z ∧ z < 5)) := by
  refine MC.of (cc := cX5_coins) (by decide) rfl rfl (Nat.le_of_ble_eq_true rfl) ?_
  intro κ C hT hl hnm
  have hn := hw.2.1
  refine z_sub [0, 1] (lv' := [(0, .ref (g 6 0)), (1, .int (iI z))]) rfl ?_
  refine z_aload_n C 0 rfl rfl dX5_coins_0 (rfl : 0 + 1 = 1) ?_
  refine z_iload_n C 1 rfl rfl dX5_coins_1 (rfl : 1 + 1 = 2) ?_
  refine z_callV C 1 6 (c_X5_findHouse (heA := g 3) hz h.1.x8 h.1.l0 (fun i hi => h.1.isH hi)) gX5_coins_X5_findHouse rfl hd61_X5_findHouse ⟨Nat.le_of_ble_eq_true rfl, Nat.le_of_ble_eq_true rfl⟩ (pwm_MC h.1.x8.1 h.1.x8.2.1) rfl rfl (Nat.le_of_ble_eq_true rfl) dX5_coins_2 (rfl : 2 + 3 = 5) rfl rfl ⟨Nat.le_of_ble_eq_true rfl, Nat.le_of_ble_eq_true rfl⟩ (fun E w h => z_out C hT ⟨h.1, h.2.1, h.2.2⟩ (by decide) (by decide)) ?_ rfl
  rintro _ _ ⟨rfl, i, rfl, hi, rfl⟩
  refine z_v1 ?_
  refine z_get C (pwm_House (h.1.g2 hi).1 (h.1.g2 hi).2) rfl iX5_coins_X2 2 (by decide) lX5_coins_f179 rfl rfl dX5_coins_5 (rfl : 5 + 3 = 8) ?_
  rw [(h.1.2.2.2.2.2.2.2.1 i hi).1]
  exact z_iret C rfl dX5_coins_8 ⟨rfl, ⟨by omega, by omega⟩, rfl⟩ (by decide) (by decide)
abbrev rmX5_laidDown : Room := { frames := 7, cells := 1, slots := 6, locals := 140 }
theorem c_X5_laidDown {z : Int} (hz : -2147483648 ≤ z ∧ z < 2147483648) (h : RX de L K I F R N O T g V n m t) (hw : WFV V n m t) : MC l yX5_laidDown wsX5_laidDown rmX5_laidDown G base [.ref (g 6 0), .int (iI z)] (pw G X L K I F R N O) (rdP (pw G X L K I F R N O) (0 ≤ z ∧ z < 5) (V 23 z.toNat)) (rdE (pw G X L K I F R N O) (0 ≤ z ∧ z < 5)) := by
  refine MC.of (cc := cX5_laidDown) (by decide) rfl rfl (Nat.le_of_ble_eq_true rfl) ?_
  intro κ C hT hl hnm
  have hn := hw.2.1
  refine z_sub [0, 1] (lv' := [(0, .ref (g 6 0)), (1, .int (iI z))]) rfl ?_
  refine z_aload_n C 0 rfl rfl dX5_laidDown_0 (rfl : 0 + 1 = 1) ?_
  refine z_iload_n C 1 rfl rfl dX5_laidDown_1 (rfl : 1 + 1 = 2) ?_
  refine z_callV C 1 6 (c_X5_findHouse (heA := g 3) hz h.1.x8 h.1.l0 (fun i hi => h.1.isH hi)) gX5_laidDown_X5_findHouse rfl hd61_X5_findHouse ⟨Nat.le_of_ble_eq_true rfl, Nat.le_of_ble_eq_true rfl⟩ (pwm_MC h.1.x8.1 h.1.x8.2.1) rfl rfl (Nat.le_of_ble_eq_true rfl) dX5_laidDown_2 (rfl : 2 + 3 = 5) rfl rfl ⟨Nat.le_of_ble_eq_true rfl, Nat.le_of_ble_eq_true rfl⟩ (fun E w h => z_out C hT ⟨h.1, h.2.1, h.2.2⟩ (by decide) (by decide)) ?_ rfl
  rintro _ _ ⟨rfl, i, rfl, hi, rfl⟩
  refine z_v1 ?_
  refine z_get C (pwm_House (h.1.g2 hi).1 (h.1.g2 hi).2) rfl iX5_laidDown_X2 3 (by decide) lX5_laidDown_f191 rfl rfl dX5_laidDown_5 (rfl : 5 + 3 = 8) ?_
  rw [(h.1.2.2.2.2.2.2.2.1 i hi).2]
  exact z_iret C rfl dX5_laidDown_8 ⟨rfl, ⟨by omega, by omega⟩, rfl⟩ (by decide) (by decide)
abbrev rmX5_isBack : Room := { frames := 7, cells := 1, slots := 6, locals := 140 }
theorem c_X5_isBack {z : Int} (hz : -2147483648 ≤ z ∧ z < 2147483648) (h : RX de L K I F R N O T g V n m t) (hw : WFV V n m t) : MC l yX5_isBack wsX5_isBack rmX5_isBack G base [.ref (g 6 0), .int (iI z)] (pw G X L K I F R N O) (rdP (pw G X L K I F R N O) (0 ≤ z ∧ z < t) (V 20 z.toNat)) (rdE (pw G X L K I F R N O) (0 ≤ z ∧ z < t)) := by
  refine MC.of (cc := cX5_isBack) (by decide) rfl rfl (Nat.le_of_ble_eq_true rfl) ?_
  intro κ C hT hl hnm
  have hn := hw.2.1
  refine z_sub [0, 1] (lv' := [(0, .ref (g 6 0)), (1, .int (iI z))]) rfl ?_
  refine z_aload_n C 0 rfl rfl dX5_isBack_0 (rfl : 0 + 1 = 1) ?_
  refine z_iload_n C 1 rfl rfl dX5_isBack_1 (rfl : 1 + 1 = 2) ?_
  refine z_callV C 1 6 (c_X5_findLoan hz h.1.x11 h.1.l3 (by omega) (fun j hj => h.1.g5 hj)) gX5_isBack_X5_findLoan rfl hd61_X5_findLoan ⟨Nat.le_of_ble_eq_true rfl, Nat.le_of_ble_eq_true rfl⟩ (pwm_MC h.1.x8.1 h.1.x8.2.1) rfl rfl (Nat.le_of_ble_eq_true rfl) dX5_isBack_2 (rfl : 2 + 3 = 5) rfl rfl ⟨Nat.le_of_ble_eq_true rfl, Nat.le_of_ble_eq_true rfl⟩ (fun E w h => z_out C hT ⟨h.1, h.2.1, h.2.2⟩ (by decide) (by decide)) ?_ rfl
  rintro _ _ ⟨rfl, i, rfl, hi, rfl⟩
  refine z_v1 ?_
  refine z_get C (pwm_Loan (h.1.g5 hi).1 (h.1.g5 hi).2) rfl iX5_isBack_X4 4 (by decide) lX5_isBack_f202 rfl rfl dX5_isBack_5 (rfl : 5 + 3 = 8) ?_
  rw [(h.1.2.2.2.2.2.2.2.2.2.2.2.2 i hi).1]
  exact z_zret C rfl (hw.2.2.2.2.2.2.2.2.2.2.1 i (by omega)) dX5_isBack_8 ⟨rfl, ⟨by omega, by omega⟩, rfl⟩ (by decide) (by decide)
abbrev rmX5_toldModel : Room := { frames := 7, cells := 1, slots := 6, locals := 140 }
theorem c_X5_toldModel {z : Int} (hz : -2147483648 ≤ z ∧ z < 2147483648) (h : RX de L K I F R N O T g V n m t) (hw : WFV V n m t) : MC l yX5_toldModel wsX5_toldModel rmX5_toldModel G base [.ref (g 6 0), .int (iI z)] (pw G X L K I F R N O) (rdP (pw G X L K I F R N O) (0 ≤ z ∧ z < n) (if V 2 z.toNat = 1 then V 1 z.toNat else -1)) (rdE (pw G X L K I F R N O) (0 ≤ z ∧ z < n)) := by
  refine MC.of (cc := cX5_toldModel) (by decide) rfl rfl (Nat.le_of_ble_eq_true rfl) ?_
  intro κ C hT hl hnm
  have hn := hw.2.1
  refine z_sub [0, 1] (lv' := [(0, .ref (g 6 0)), (1, .int (iI z))]) rfl ?_
  refine z_aload_n C 0 rfl rfl dX5_toldModel_0 (rfl : 0 + 1 = 1) ?_
  refine z_iload_n C 1 rfl rfl dX5_toldModel_1 (rfl : 1 + 1 = 2) ?_
  refine z_callV C 1 6 (c_X5_findCopy (rA := g 1) hz h.1.x9 h.1.l1 (by omega) (fun i hi => h.1.isC hi)) gX5_toldModel_X5_findCopy rfl hd61_X5_findCopy ⟨Nat.le_of_ble_eq_true rfl, Nat.le_of_ble_eq_true rfl⟩ (pwm_MC h.1.x8.1 h.1.x8.2.1) rfl rfl (Nat.le_of_ble_eq_true rfl) dX5_toldModel_2 (rfl : 2 + 3 = 5) rfl rfl ⟨Nat.le_of_ble_eq_true rfl, Nat.le_of_ble_eq_true rfl⟩ (fun E w h => z_out C hT ⟨h.1, h.2.1, h.2.2⟩ (by decide) (by decide)) ?_ rfl
  rintro _ _ ⟨rfl, i, rfl, hi, rfl⟩
  refine z_v1 ?_
  have h2 := hw.2.2.2.2.1.2 i (by omega)
  have h1 := hw.mo hi
  refine z_callV C 1 6 (c_X0_modelIfTold (h.1.isC hi) (h.1.cpv hw i hi).2) gX5_toldModel_X0_modelIfTold rfl hd61_X0_modelIfTold ⟨Nat.le_of_ble_eq_true rfl, Nat.le_of_ble_eq_true rfl⟩ (pwm_Copy (h.1.g0 hi).1 (h.1.g0 hi).2) rfl rfl (Nat.le_of_ble_eq_true rfl) dX5_toldModel_5 (rfl : 5 + 3 = 8) rfl rfl ⟨Nat.le_of_ble_eq_true rfl, Nat.le_of_ble_eq_true rfl⟩ (fun _ _ h => h.elim) ?_ rfl
  rintro _ _ ⟨rfl, rfl⟩
  refine z_v1 ?_
  rw [h.1.tmE hi]
  by_cases c : V 2 i = 0 ∨ V 1 i = -1
  · rw [if_pos c]
    refine z_callS C 1 6 (c_X5_numberOfN) gX5_toldModel_X5_numberOf rfl hd61_X5_numberOf ⟨Nat.le_of_ble_eq_true rfl, Nat.le_of_ble_eq_true rfl⟩ rfl (Nat.le_of_ble_eq_true rfl) dX5_toldModel_8 (rfl : 8 + 3 = 11) rfl rfl ⟨Nat.le_of_ble_eq_true rfl, Nat.le_of_ble_eq_true rfl⟩ (fun _ _ h => h.elim) ?_ rfl
    rintro _ _ ⟨rfl, rfl⟩
    refine z_v1 ?_
    refine z_topi (y := iI (if V 2 i = 1 then V 1 i else -1)) (by congr 1; split <;> omega) ?_
    exact z_iret C rfl dX5_toldModel_11 ⟨rfl, ⟨by omega, by omega⟩, rfl⟩ (by decide) (by decide)
  rw [if_neg c]
  refine z_callS C 1 6 (c_X5_numberOf (a := g 0 (V 1 i).toNat) (h.1.g0 (by omega)).1 (h.1.g0 (by omega)).2) gX5_toldModel_X5_numberOf rfl hd61_X5_numberOf ⟨Nat.le_of_ble_eq_true rfl, Nat.le_of_ble_eq_true rfl⟩ rfl (Nat.le_of_ble_eq_true rfl) dX5_toldModel_8 (rfl : 8 + 3 = 11) rfl rfl ⟨Nat.le_of_ble_eq_true rfl, Nat.le_of_ble_eq_true rfl⟩ (fun _ _ h => h.elim) ?_ rfl
  rintro _ _ ⟨rfl, rfl⟩
  refine z_v1 ?_
  rw [(h.1.2.1.2.2.2.1 (V 1 i).toNat (by omega)).2.2.1]
  refine z_topi (y := iI (if V 2 i = 1 then V 1 i else -1)) (by congr 1; split <;> omega) ?_
  exact z_iret C rfl dX5_toldModel_11 ⟨rfl, ⟨by omega, by omega⟩, rfl⟩ (by decide) (by decide)
abbrev rmX5_late : Room := { frames := 7, cells := 1, slots := 6, locals := 140 }
theorem c_X5_late {z : Int} (hz : -2147483648 ≤ z ∧ z < 2147483648) (h : RX de L K I F R N O T g V n m t) (hw : WFV V n m t) : MC l yX5_late wsX5_late rmX5_late G base [.ref (g 6 0), .int (iI z)] (pw G X L K I F R N O) (rdP (pw G X L K I F R N O) (0 ≤ z ∧ z < t) (if V 20 z.toNat = 1 then V 19 z.toNat else lateOf (V 9 0) (V 17 z.toNat))) (rdE (pw G X L K I F R N O) (0 ≤ z ∧ z < t)) := by
  refine MC.of (cc := cX5_late) (by decide) rfl rfl (Nat.le_of_ble_eq_true rfl) ?_
  intro κ C hT hl hnm
  have hn := hw.2.1
  refine z_sub [0, 1] (lv' := [(0, .ref (g 6 0)), (1, .int (iI z))]) rfl ?_
  refine z_aload_n C 0 rfl rfl dX5_late_0 (rfl : 0 + 1 = 1) ?_
  refine z_iload_n C 1 rfl rfl dX5_late_1 (rfl : 1 + 1 = 2) ?_
  refine z_callV C 1 6 (c_X5_findLoan hz h.1.x11 h.1.l3 (by omega) (fun j hj => h.1.g5 hj)) gX5_late_X5_findLoan rfl hd61_X5_findLoan ⟨Nat.le_of_ble_eq_true rfl, Nat.le_of_ble_eq_true rfl⟩ (pwm_MC h.1.x8.1 h.1.x8.2.1) rfl rfl (Nat.le_of_ble_eq_true rfl) dX5_late_2 (rfl : 2 + 3 = 5) rfl rfl ⟨Nat.le_of_ble_eq_true rfl, Nat.le_of_ble_eq_true rfl⟩ (fun E w h => z_out C hT ⟨h.1, h.2.1, h.2.2⟩ (by decide) (by decide)) ?_ rfl
  rintro _ _ ⟨rfl, i, rfl, hi, rfl⟩
  refine z_v1 ?_
  have h20 := hw.2.2.2.2.2.2.2.2.2.2.1 i (by omega)
  have h17 := (hw.2.2.2.2.2.2.2.2.2.1 i hi).2.2.1
  have h9 := hw.2.2.2.2.2.2.2.2.2.2.2
  have e20 := h.1.2.2.2.2.2.2.2.2.2.2.2.2 i hi
  have e17 := (h.1.2.1.2.2.2.2.2 i hi).2.2.1
  refine z_astore_n (lv' := [(2, _), (0, _), (1, _)]) C rfl dX5_late_5 (rfl : 5 + 1 = 6) (by decide) rfl ?_
  refine z_aload_n C 0 rfl rfl dX5_late_6 (rfl : 6 + 1 = 7) ?_
  refine z_get C (pwm_Loan (h.1.g5 hi).1 (h.1.g5 hi).2) rfl iX5_late_X4 4 (by decide) lX5_late_f202 rfl rfl dX5_late_7 (rfl : 7 + 3 = 10) ?_
  rw [e20.1]
  refine z_if_eq (pt := 20) C dX5_late_10 (by decide) (rfl : 10 + 3 = 13) (iI_eq0 (by omega)).1 (fun q => mt (iI_eq0 (by omega)).2 q) (fun c => ?_) (fun c => ?_)
  rotate_left
  · refine z_aload_n C 0 rfl rfl dX5_late_13 (rfl : 13 + 1 = 14) ?_
    refine z_get C (pwm_Loan (h.1.g5 hi).1 (h.1.g5 hi).2) rfl iX5_late_X4 5 (by decide) lX5_late_f220 rfl rfl dX5_late_14 (rfl : 14 + 3 = 17) ?_
    rw [e20.2 (by omega)]
    refine z_goto (pc' := 28) C dX5_late_17 (by decide) ?_
    exact z_iret C rfl dX5_late_28 ⟨rfl, ⟨by omega, by omega⟩, by rw [if_pos (show V 20 (i : Int).toNat = 1 from (by omega : V 20 i = 1))]; rfl⟩ (by decide) (by decide)
  refine z_aload_n C 0 rfl rfl dX5_late_20 (rfl : 20 + 1 = 21) ?_
  refine z_aload_n C 1 rfl rfl dX5_late_21 (rfl : 21 + 1 = 22) ?_
  refine z_get C (pwm_MC h.1.x8.1 h.1.x8.2.1) rfl iX5_late_X5 6 (by decide) lX5_late_f36 rfl rfl dX5_late_22 (rfl : 22 + 3 = 25) ?_
  rw [show I 14 (g 6 0) = V 9 0 from h.1.2.2.2.1]
  refine z_callV C 1 6 (c_X4_daysLateOn (h.1.g5 hi).1 (h.1.g5 hi).2 ⟨by omega, by omega⟩ (by rw [e17]; omega)) gX5_late_X4_daysLateOn rfl hd61_X4_daysLateOn ⟨Nat.le_of_ble_eq_true rfl, Nat.le_of_ble_eq_true rfl⟩ (pwm_Loan (h.1.g5 hi).1 (h.1.g5 hi).2) rfl rfl (Nat.le_of_ble_eq_true rfl) dX5_late_25 (rfl : 25 + 3 = 28) rfl rfl ⟨Nat.le_of_ble_eq_true rfl, Nat.le_of_ble_eq_true rfl⟩ (fun _ _ h => h.elim) ?_ rfl
  rintro _ _ ⟨rfl, rfl⟩
  refine z_v1 ?_
  rw [e17]
  refine z_topi (y := iI (if V 20 i = 1 then V 19 i else lateOf (V 9 0) (V 17 i))) (by rw [if_neg (by omega)]) ?_
  exact z_iret C rfl dX5_late_28 ⟨rfl, ⟨by omega, by omega⟩, rfl⟩ (by decide) (by decide)
abbrev rmX5_slips : Room := { frames := 7, cells := 1, slots := 6, locals := 140 }
theorem c_X5_slips {z : Int} (hz : -2147483648 ≤ z ∧ z < 2147483648) (h : RX de L K I F R N O T g V n m t) (hw : WFV V n m t) : MC l yX5_slips wsX5_slips rmX5_slips G base [.ref (g 6 0), .int (iI z)] (pw G X L K I F R N O) (rdP (pw G X L K I F R N O) (0 ≤ z ∧ z < 6) (V 8 z.toNat)) (rdE (pw G X L K I F R N O) (0 ≤ z ∧ z < 6)) := by
  refine MC.of (cc := cX5_slips) (by decide) rfl rfl (Nat.le_of_ble_eq_true rfl) ?_
  intro κ C hT hl hnm
  refine z_sub [0, 1] (lv' := [(0, .ref (g 6 0)), (1, .int (iI z))]) rfl ?_
  refine z_iload_n C 1 rfl rfl dX5_slips_0 (rfl : 0 + 1 = 1) ?_
  refine z_callS C 1 6 (c_X5_requireScribe hz) gX5_slips_X5_requireScribe rfl hd61_X5_requireScribe ⟨Nat.le_of_ble_eq_true rfl, Nat.le_of_ble_eq_true rfl⟩ rfl (Nat.le_of_ble_eq_true rfl) dX5_slips_1 (rfl : 1 + 3 = 4) rfl rfl ⟨Nat.le_of_ble_eq_true rfl, Nat.le_of_ble_eq_true rfl⟩ (fun E w h => z_out C hT ⟨h.1, h.2.1, h.2.2⟩ (by decide) (by decide)) ?_ rfl
  rintro _ _ ⟨rfl, rfl, h0, h6⟩
  refine z_v0 ?_
  refine z_aload_n C 0 rfl rfl dX5_slips_4 (rfl : 4 + 1 = 5) ?_
  refine z_get C (pwm_MC h.1.x12.1 h.1.x12.2.1) rfl iX5_slips_X5 4 (by decide) lX5_slips_f25 rfl rfl dX5_slips_5 (rfl : 5 + 3 = 8) ?_
  rw [h.1.x12.2.2]
  refine z_iload_n C 1 rfl rfl dX5_slips_8 (rfl : 8 + 1 = 9) ?_
  refine z_iald C (x := iI (V 8 z.toNat)) (pwm_I (h.1.g6 (i := 1) (by decide)).1 (h.1.g6 (i := 1) (by decide)).2) ⟨by omega, by rw [h.1.2.1.2.1.1]; omega⟩ (by omega) (by rw [h.1.2.2.2.2.1 z.toNat (by omega)]) dX5_slips_9 (rfl : 9 + 1 = 10) ?_
  exact z_iret C rfl dX5_slips_10 ⟨rfl, ⟨h0, h6⟩, rfl⟩ (by decide) (by decide)
abbrev rmX5_reading : Room := { frames := 7, cells := 2, slots := 12, locals := 140 }
theorem c_X5_reading {z p : Int} (hz : -2147483648 ≤ z ∧ z < 2147483648) (hp : -2147483648 ≤ p ∧ p < 2147483648) (h : RX de L K I F R N O T g V n m t) (hw : WFV V n m t) : MC l yX5_reading wsX5_reading rmX5_reading G base [.ref (g 6 0), .int (iI z), .int (iI p)] (pw G X L K I F R N O) (rdP (pw G X L K I F R N O) ((0 ≤ z ∧ z < n) ∧ 0 ≤ p ∧ p < 24) (V 0 (24 * z.toNat + p.toNat))) (rdE (pw G X L K I F R N O) ((0 ≤ z ∧ z < n) ∧ 0 ≤ p ∧ p < 24)) := by
  refine MC.of (cc := cX5_reading) (by decide) rfl rfl (Nat.le_of_ble_eq_true rfl) ?_
  intro κ C hT hl hnm
  have hn := hw.2.1
  refine z_sub [0, 1, 2] (lv' := [(0, .ref (g 6 0)), (1, .int (iI z)), (2, .int (iI p))]) rfl ?_
  refine z_aload_n C 0 rfl rfl dX5_reading_0 (rfl : 0 + 1 = 1) ?_
  refine z_iload_n C 1 rfl rfl dX5_reading_1 (rfl : 1 + 1 = 2) ?_
  refine z_callV C 1 6 (c_X5_findCopy (rA := g 1) hz h.1.x9 h.1.l1 (by omega) (fun i hi => h.1.isC hi)) gX5_reading_X5_findCopy rfl hd61_X5_findCopy ⟨Nat.le_of_ble_eq_true rfl, Nat.le_of_ble_eq_true rfl⟩ (pwm_MC h.1.x8.1 h.1.x8.2.1) rfl rfl (Nat.le_of_ble_eq_true rfl) dX5_reading_2 (rfl : 2 + 3 = 5) rfl rfl ⟨Nat.le_of_ble_eq_true rfl, Nat.le_of_ble_eq_true rfl⟩ (fun E w h => z_out C hT ⟨h.1, h.2.1, fun c => h.2.2 c.1⟩ (by decide) (by decide)) ?_ rfl
  rintro _ _ ⟨rfl, i, rfl, hi, rfl⟩
  refine z_v1 ?_
  refine z_astore_n (lv' := [(3, _), (0, _), (1, _), (2, _)]) C rfl dX5_reading_5 (rfl : 5 + 1 = 6) (by decide) rfl ?_
  refine z_iload_n C 3 rfl rfl dX5_reading_6 (rfl : 6 + 1 = 7) ?_
  refine z_callS C 2 12 (c_X5_requirePlace hp) gX5_reading_X5_requirePlace rfl hd61_X5_requirePlace ⟨Nat.le_of_ble_eq_true rfl, Nat.le_of_ble_eq_true rfl⟩ rfl (Nat.le_of_ble_eq_true rfl) dX5_reading_7 (rfl : 7 + 3 = 10) rfl rfl ⟨Nat.le_of_ble_eq_true rfl, Nat.le_of_ble_eq_true rfl⟩ (fun E w h => z_out C hT ⟨h.1, h.2.1, fun c => h.2.2 c.2⟩ (by decide) (by decide)) ?_ rfl
  rintro _ _ ⟨rfl, rfl, p0, p1⟩
  refine z_v0 ?_
  refine z_aload_n C 0 rfl rfl dX5_reading_10 (rfl : 10 + 1 = 11) ?_
  refine z_get C (pwm_Copy (h.1.g0 hi).1 (h.1.g0 hi).2) rfl iX5_reading_X0 3 (by decide) lX5_reading_f139 rfl rfl dX5_reading_11 (rfl : 11 + 3 = 14) ?_
  rw [(h.1.isC hi).2.2.1]
  refine z_iload_n C 3 rfl rfl dX5_reading_14 (rfl : 14 + 1 = 15) ?_
  refine z_iald C (x := iI (V 0 (24 * i + p.toNat))) (pwm_I (h.1.g1 hi).1 (h.1.g1 hi).2) ⟨by omega, by rw [(h.1.isC hi).2.2.2.2.2]; omega⟩ (by omega) (by rw [h.1.rd hi (by omega)]) dX5_reading_15 (rfl : 15 + 1 = 16) ?_
  exact z_iret C rfl dX5_reading_16 ⟨rfl, ⟨⟨by omega, by omega⟩, p0, p1⟩, rfl⟩ (by decide) (by decide)
abbrev rmX5_shared : Room := { frames := 7, cells := 2, slots := 12, locals := 140 }
theorem c_X5_shared {z p : Int} (hz : -2147483648 ≤ z ∧ z < 2147483648) (hp : -2147483648 ≤ p ∧ p < 2147483648) (h : RX de L K I F R N O T g V n m t) (hw : WFV V n m t) : MC l yX5_shared wsX5_shared rmX5_shared G base [.ref (g 6 0), .int (iI z), .int (iI p)] (pw G X L K I F R N O) (rdP (pw G X L K I F R N O) ((0 ≤ z ∧ z < n) ∧ 0 ≤ p ∧ p < n) (shV V z.toNat p.toNat)) (rdE (pw G X L K I F R N O) ((0 ≤ z ∧ z < n) ∧ 0 ≤ p ∧ p < n)) := by
  refine MC.of (cc := cX5_shared) (by decide) rfl rfl (Nat.le_of_ble_eq_true rfl) ?_
  intro κ C hT hl hnm
  have hn := hw.2.1
  refine z_sub [0, 1, 2] (lv' := [(0, .ref (g 6 0)), (1, .int (iI z)), (2, .int (iI p))]) rfl ?_
  refine z_aload_n C 0 rfl rfl dX5_shared_0 (rfl : 0 + 1 = 1) ?_
  refine z_iload_n C 1 rfl rfl dX5_shared_1 (rfl : 1 + 1 = 2) ?_
  refine z_callV C 1 6 (c_X5_findCopy (rA := g 1) hz h.1.x9 h.1.l1 (by omega) (fun i hi => h.1.isC hi)) gX5_shared_X5_findCopy rfl hd61_X5_findCopy ⟨Nat.le_of_ble_eq_true rfl, Nat.le_of_ble_eq_true rfl⟩ (pwm_MC h.1.x8.1 h.1.x8.2.1) rfl rfl (Nat.le_of_ble_eq_true rfl) dX5_shared_2 (rfl : 2 + 3 = 5) rfl rfl ⟨Nat.le_of_ble_eq_true rfl, Nat.le_of_ble_eq_true rfl⟩ (fun E w h => z_out C hT ⟨h.1, h.2.1, fun c => h.2.2 c.1⟩ (by decide) (by decide)) ?_ rfl
  rintro _ _ ⟨rfl, i, rfl, hi, rfl⟩
  refine z_v1 ?_
  refine z_astore_n (lv' := [(3, _), (0, _), (1, _), (2, _)]) C rfl dX5_shared_5 (rfl : 5 + 1 = 6) (by decide) rfl ?_
  refine z_aload_n C 0 rfl rfl dX5_shared_6 (rfl : 6 + 1 = 7) ?_
  refine z_aload_n C 1 rfl rfl dX5_shared_7 (rfl : 7 + 1 = 8) ?_
  refine z_iload_n C 3 rfl rfl dX5_shared_8 (rfl : 8 + 1 = 9) ?_
  refine z_callV C 2 12 (c_X5_findCopy (rA := g 1) hp h.1.x9 h.1.l1 (by omega) (fun i hi => h.1.isC hi)) gX5_shared_X5_findCopy rfl hd61_X5_findCopy ⟨Nat.le_of_ble_eq_true rfl, Nat.le_of_ble_eq_true rfl⟩ (pwm_MC h.1.x8.1 h.1.x8.2.1) rfl rfl (Nat.le_of_ble_eq_true rfl) dX5_shared_9 (rfl : 9 + 3 = 12) rfl rfl ⟨Nat.le_of_ble_eq_true rfl, Nat.le_of_ble_eq_true rfl⟩ (fun E w h => z_out C hT ⟨h.1, h.2.1, fun c => h.2.2 c.2⟩ (by decide) (by decide)) ?_ rfl
  rintro _ _ ⟨rfl, j, rfl, hj, rfl⟩
  refine z_v1 ?_
  refine z_callV C 2 12 (c_X0_countSharedWith (h.1.isC hi) (h.1.isC hj) (h.1.rg9 hw hi) (h.1.rg9 hw hj)) gX5_shared_X0_countSharedWith rfl hd61_X0_countSharedWith ⟨Nat.le_of_ble_eq_true rfl, Nat.le_of_ble_eq_true rfl⟩ (pwm_Copy (h.1.g0 hi).1 (h.1.g0 hi).2) rfl rfl (Nat.le_of_ble_eq_true rfl) dX5_shared_12 (rfl : 12 + 3 = 15) rfl rfl ⟨Nat.le_of_ble_eq_true rfl, Nat.le_of_ble_eq_true rfl⟩ (fun _ _ h => h.elim) ?_ rfl
  rintro _ _ ⟨rfl, rfl⟩
  refine z_v1 ?_
  rw [h.1.sh hi hj]
  exact z_iret C rfl dX5_shared_15 ⟨rfl, ⟨⟨by omega, by omega⟩, by omega, by omega⟩, rfl⟩ (by decide) (by decide)
abbrev rmX5_hasLetter : Room := { frames := 7, cells := 2, slots := 12, locals := 140 }
theorem c_X5_hasLetter {z p : Int} (hz : -2147483648 ≤ z ∧ z < 2147483648) (hp : -2147483648 ≤ p ∧ p < 2147483648) (h : RX de L K I F R N O T g V n m t) (hw : WFV V n m t) : MC l yX5_hasLetter wsX5_hasLetter rmX5_hasLetter G base [.ref (g 6 0), .int (iI z), .int (iI p)] (pw G X L K I F R N O) (rdP (pw G X L K I F R N O) ((0 ≤ z ∧ z < 5) ∧ 0 ≤ p ∧ p < m) (V 13 (60 * z.toNat + p.toNat))) (rdE (pw G X L K I F R N O) ((0 ≤ z ∧ z < 5) ∧ 0 ≤ p ∧ p < m)) := by
  refine MC.of (cc := cX5_hasLetter) (by decide) rfl rfl (Nat.le_of_ble_eq_true rfl) ?_
  intro κ C hT hl hnm
  have hn := hw.2.1
  refine z_sub [0, 1, 2] (lv' := [(0, .ref (g 6 0)), (1, .int (iI z)), (2, .int (iI p))]) rfl ?_
  refine z_aload_n C 0 rfl rfl dX5_hasLetter_0 (rfl : 0 + 1 = 1) ?_
  refine z_iload_n C 1 rfl rfl dX5_hasLetter_1 (rfl : 1 + 1 = 2) ?_
  refine z_callV C 1 6 (c_X5_findHouse (heA := g 3) hz h.1.x8 h.1.l0 (fun i hi => h.1.isH hi)) gX5_hasLetter_X5_findHouse rfl hd61_X5_findHouse ⟨Nat.le_of_ble_eq_true rfl, Nat.le_of_ble_eq_true rfl⟩ (pwm_MC h.1.x8.1 h.1.x8.2.1) rfl rfl (Nat.le_of_ble_eq_true rfl) dX5_hasLetter_2 (rfl : 2 + 3 = 5) rfl rfl ⟨Nat.le_of_ble_eq_true rfl, Nat.le_of_ble_eq_true rfl⟩ (fun E w h => z_out C hT ⟨h.1, h.2.1, fun c => h.2.2 c.1⟩ (by decide) (by decide)) ?_ rfl
  rintro _ _ ⟨rfl, i, rfl, hi, rfl⟩
  refine z_v1 ?_
  refine z_astore_n (lv' := [(3, _), (0, _), (1, _), (2, _)]) C rfl dX5_hasLetter_5 (rfl : 5 + 1 = 6) (by decide) rfl ?_
  refine z_aload_n C 1 rfl rfl dX5_hasLetter_6 (rfl : 6 + 1 = 7) ?_
  refine z_iload_n C 3 rfl rfl dX5_hasLetter_7 (rfl : 7 + 1 = 8) ?_
  refine z_callV C 2 12 (c_X5_requireLetter hp h.1.x10 h.1.l2 (by omega)) gX5_hasLetter_X5_requireLetter rfl hd61_X5_requireLetter ⟨Nat.le_of_ble_eq_true rfl, Nat.le_of_ble_eq_true rfl⟩ (pwm_MC h.1.x8.1 h.1.x8.2.1) rfl rfl (Nat.le_of_ble_eq_true rfl) dX5_hasLetter_8 (rfl : 8 + 3 = 11) rfl rfl ⟨Nat.le_of_ble_eq_true rfl, Nat.le_of_ble_eq_true rfl⟩ (fun E w h => z_out C hT ⟨h.1, h.2.1, fun c => h.2.2 c.2⟩ (by decide) (by decide)) ?_ rfl
  rintro _ _ ⟨rfl, rfl, p0, p1⟩
  refine z_v0 ?_
  obtain ⟨j, rfl⟩ : ∃ j : Nat, p = (j : Int) := ⟨p.toNat, by omega⟩
  have hR := h.1.2.2.2.2.2.2.2.2.1 i hi
  have hB : rgB (R (g 3 i)) 60 := fun k hk => by
    rw [hR k hk]
    exact hw.2.2.2.2.2.2.2.2.1.1 _ (by omega)
  refine z_aload_n C 0 rfl rfl dX5_hasLetter_11 (rfl : 11 + 1 = 12) ?_
  refine z_iload_n C 3 rfl rfl dX5_hasLetter_12 (rfl : 12 + 1 = 13) ?_
  refine z_callV C 2 12 (c_X2_holds (i := j) (h.1.isH hi) hB (by omega)) gX5_hasLetter_X2_holds rfl hd61_X2_holds ⟨Nat.le_of_ble_eq_true rfl, Nat.le_of_ble_eq_true rfl⟩ (pwm_House (h.1.g2 hi).1 (h.1.g2 hi).2) rfl rfl (Nat.le_of_ble_eq_true rfl) dX5_hasLetter_13 (rfl : 13 + 3 = 16) rfl rfl ⟨Nat.le_of_ble_eq_true rfl, Nat.le_of_ble_eq_true rfl⟩ (fun _ _ h => h.elim) ?_ rfl
  rintro _ _ ⟨rfl, rfl⟩
  refine z_v1 ?_
  rw [hR j (by omega)]
  exact z_zret C rfl (hw.2.2.2.2.2.2.2.2.1.1 _ (by omega)) dX5_hasLetter_16 ⟨rfl, ⟨⟨by omega, by omega⟩, p0, p1⟩, rfl⟩ (by decide) (by decide)
abbrev rmX5_letter : Room := { frames := 7, cells := 1, slots := 6, locals := 140 }
theorem c_X5_letter {z : Int} (hz : -2147483648 ≤ z ∧ z < 2147483648) (h : RX de L K I F R N O T g V n m t) (hw : WFV V n m t) : MC l yX5_letter wsX5_letter rmX5_letter G base [.ref (g 6 0), .int (iI z)] (pw G X L K I F R N O) (rdP (pw G X L K I F R N O) (0 ≤ z ∧ z < m) (100 * V 10 z.toNat + 10 * V 11 z.toNat + V 12 z.toNat)) (rdE (pw G X L K I F R N O) (0 ≤ z ∧ z < m)) := by
  refine MC.of (cc := cX5_letter) (by decide) rfl rfl (Nat.le_of_ble_eq_true rfl) ?_
  intro κ C hT hl hnm
  have hn := hw.2.1
  refine z_sub [0, 1] (lv' := [(0, .ref (g 6 0)), (1, .int (iI z))]) rfl ?_
  refine z_aload_n C 0 rfl rfl dX5_letter_0 (rfl : 0 + 1 = 1) ?_
  refine z_iload_n C 1 rfl rfl dX5_letter_1 (rfl : 1 + 1 = 2) ?_
  refine z_callV C 1 6 (c_X5_requireLetter hz h.1.x10 h.1.l2 (by omega)) gX5_letter_X5_requireLetter rfl hd61_X5_requireLetter ⟨Nat.le_of_ble_eq_true rfl, Nat.le_of_ble_eq_true rfl⟩ (pwm_MC h.1.x8.1 h.1.x8.2.1) rfl rfl (Nat.le_of_ble_eq_true rfl) dX5_letter_2 (rfl : 2 + 3 = 5) rfl rfl ⟨Nat.le_of_ble_eq_true rfl, Nat.le_of_ble_eq_true rfl⟩ (fun E w h => z_out C hT ⟨h.1, h.2.1, h.2.2⟩ (by decide) (by decide)) ?_ rfl
  rintro _ _ ⟨rfl, rfl, p0, p1⟩
  refine z_v0 ?_
  obtain ⟨j, rfl⟩ : ∃ j : Nat, z = (j : Int) := ⟨z.toNat, by omega⟩
  have hj : j < m := by omega
  refine z_aload_n C 0 rfl rfl dX5_letter_5 (rfl : 5 + 1 = 6) ?_
  refine z_get C (pwm_MC h.1.x10.1 h.1.x10.2.1) rfl iX5_letter_X5 2 (by decide) lX5_letter_f19 rfl rfl dX5_letter_6 (rfl : 6 + 3 = 9) ?_
  rw [h.1.x10.2.2]
  refine z_iload_n C 1 rfl rfl dX5_letter_9 (rfl : 9 + 1 = 10) ?_
  refine z_callV C 1 6 (c_list_get (i := j) h.1.l2 hj) gX5_letter_Jx4a65c_get_915e3 rfl hd61_Jx4a65c_get_915e3 ⟨Nat.le_of_ble_eq_true rfl, Nat.le_of_ble_eq_true rfl⟩ (pwm_AL h.1.l2.1 h.1.l2.2.1) rfl rfl (Nat.le_of_ble_eq_true rfl) dX5_letter_10 (rfl : 10 + 3 = 13) rfl rfl ⟨Nat.le_of_ble_eq_true rfl, Nat.le_of_ble_eq_true rfl⟩ (fun _ _ h => h.elim) ?_ rfl
  rintro _ _ ⟨rfl, rfl⟩
  refine z_v1 ?_
  refine z_cast C (pwm_Letter (h.1.g4 hj).1 (h.1.g4 hj).2) rfl lX5_letter_c146 dX5_letter_13 (rfl : 13 + 3 = 16) ?_
  obtain ⟨e1, e2, e3⟩ := h.1.2.1.2.2.2.2.1 j hj
  refine z_astore_n (lv' := [(2, _), (0, _), (1, _)]) C rfl dX5_letter_16 (rfl : 16 + 1 = 17) (by decide) rfl ?_
  refine z_bipush (c := 100) C (by decide) dX5_letter_17 (rfl : 17 + 2 = 19) ?_
  refine z_aload_n C 0 rfl rfl dX5_letter_19 (rfl : 19 + 1 = 20) ?_
  refine z_get C (pwm_Letter (h.1.g4 hj).1 (h.1.g4 hj).2) rfl iX5_letter_X3 0 (by decide) lX5_letter_f275 rfl rfl dX5_letter_20 (rfl : 20 + 3 = 23) ?_
  rw [e1]
  refine z_imul C dX5_letter_23 (rfl : 23 + 1 = 24) rfl ?_
  refine z_bipush (c := 10) C (by decide) dX5_letter_24 (rfl : 24 + 2 = 26) ?_
  refine z_aload_n C 0 rfl rfl dX5_letter_26 (rfl : 26 + 1 = 27) ?_
  refine z_get C (pwm_Letter (h.1.g4 hj).1 (h.1.g4 hj).2) rfl iX5_letter_X3 1 (by decide) lX5_letter_f278 rfl rfl dX5_letter_27 (rfl : 27 + 3 = 30) ?_
  rw [e2]
  refine z_imul C dX5_letter_30 (rfl : 30 + 1 = 31) rfl ?_
  refine z_iadd C dX5_letter_31 (rfl : 31 + 1 = 32) rfl ?_
  refine z_aload_n C 0 rfl rfl dX5_letter_32 (rfl : 32 + 1 = 33) ?_
  refine z_get C (pwm_Letter (h.1.g4 hj).1 (h.1.g4 hj).2) rfl iX5_letter_X3 2 (by decide) lX5_letter_f281 rfl rfl dX5_letter_33 (rfl : 33 + 3 = 36) ?_
  rw [e3]
  refine z_iadd C dX5_letter_36 (rfl : 36 + 1 = 37) rfl ?_
  exact z_iret C rfl dX5_letter_37 ⟨rfl, ⟨p0, p1⟩, rfl⟩ (by decide) (by decide)
abbrev rmX5_family : Room := { frames := 7, cells := 1, slots := 6, locals := 140 }
theorem c_X5_family {z : Int} (hz : -2147483648 ≤ z ∧ z < 2147483648) (h : RX de L K I F R N O T g V n m t) (hw : WFV V n m t) : MC l yX5_family wsX5_family rmX5_family G base [.ref (g 6 0), .int (iI z)] (pw G X L K I F R N O) (fun v w => w = (pw G X L K I F R N O) ∧ (0 ≤ z ∧ z < n) ∧ ∃ f : Nat → Int, IsFam V n f ∧ v = some (.int (iI (f z.toNat)))) (rdE (pw G X L K I F R N O) (0 ≤ z ∧ z < n)) := by
  refine MC.of (cc := cX5_family) (by decide) rfl rfl (Nat.le_of_ble_eq_true rfl) ?_
  intro κ C hT hl hnm
  have hn := hw.2.1
  refine z_sub [0, 1] (lv' := [(0, .ref (g 6 0)), (1, .int (iI z))]) rfl ?_
  refine z_aload_n C 0 rfl rfl dX5_family_0 (rfl : 0 + 1 = 1) ?_
  refine z_iload_n C 1 rfl rfl dX5_family_1 (rfl : 1 + 1 = 2) ?_
  refine z_callV C 1 6 (c_X5_findCopy (rA := g 1) hz h.1.x9 h.1.l1 (by omega) (fun i hi => h.1.isC hi)) gX5_family_X5_findCopy rfl hd61_X5_findCopy ⟨Nat.le_of_ble_eq_true rfl, Nat.le_of_ble_eq_true rfl⟩ (pwm_MC h.1.x8.1 h.1.x8.2.1) rfl rfl (Nat.le_of_ble_eq_true rfl) dX5_family_2 (rfl : 2 + 3 = 5) rfl rfl ⟨Nat.le_of_ble_eq_true rfl, Nat.le_of_ble_eq_true rfl⟩ (fun E w h => z_out C hT ⟨h.1, h.2.1, h.2.2⟩ (by decide) (by decide)) ?_ rfl
  rintro _ _ ⟨rfl, i, rfl, hi, rfl⟩
  refine z_v1 ?_
  refine z_get C (pwm_Copy (h.1.g0 hi).1 (h.1.g0 hi).2) rfl iX5_family_X0 6 (by decide) lX5_family_f127 rfl rfl dX5_family_5 (rfl : 5 + 3 = 8) ?_
  exact z_iret C rfl dX5_family_8 ⟨rfl, ⟨by omega, by omega⟩, _, h.2, rfl⟩ (by decide) (by decide)
end
