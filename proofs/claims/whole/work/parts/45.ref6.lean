theorem hd45_X6_isHouse : yX6_isHouse.cls ≠ "java/lang/invoke/MethodHandle" ∧ yX6_isHouse.cls ≠ "java/lang/invoke/VarHandle" ∧ (parseMethodDescriptor yX6_isHouse.desc).map (fun d => d.parameters.length) = some 1 := by decide +kernel
theorem hd45_X6_goes : yX6_goes.cls = RX6 ∧ yX6_goes.cls ≠ "java/lang/invoke/MethodHandle" ∧ yX6_goes.cls ≠ "java/lang/invoke/VarHandle" ∧ (parseMethodDescriptor yX6_goes.desc).map (fun d => d.parameters.length) = some 3 := by decide +kernel
theorem hd45_X6_isCopy : yX6_isCopy.cls = RX6 ∧ yX6_isCopy.cls ≠ "java/lang/invoke/MethodHandle" ∧ yX6_isCopy.cls ≠ "java/lang/invoke/VarHandle" ∧ (parseMethodDescriptor yX6_isCopy.desc).map (fun d => d.parameters.length) = some 1 := by decide +kernel
theorem hd45_X6_isPlace : yX6_isPlace.cls ≠ "java/lang/invoke/MethodHandle" ∧ yX6_isPlace.cls ≠ "java/lang/invoke/VarHandle" ∧ (parseMethodDescriptor yX6_isPlace.desc).map (fun d => d.parameters.length) = some 1 := by decide +kernel
theorem lX6_correct_f23 : Cond.fieldLink RX6 23 "ModelCopiesModel" "houses" "[I" ∈ wsX6_correct := by decide +kernel
theorem iX6_correct_X6 : ∀ w ∈ wsX60, w ∈ wsX6_correct := by decide +kernel
theorem lX6_correct_f7 : Cond.fieldLink RX6 7 "ModelCopiesModel" "readings" "[I" ∈ wsX6_correct := by decide +kernel
theorem lX6_correct_f82 : Cond.fieldLink RX6 82 "ModelCopiesModel" "letters" "I" ∈ wsX6_correct := by decide +kernel
theorem lX6_correct_f36 : Cond.fieldLink RX6 36 "ModelCopiesModel" "spots" "[I" ∈ wsX6_correct := by decide +kernel
theorem lX6_correct_f39 : Cond.fieldLink RX6 39 "ModelCopiesModel" "olds" "[I" ∈ wsX6_correct := by decide +kernel
theorem lX6_correct_f42 : Cond.fieldLink RX6 42 "ModelCopiesModel" "news" "[I" ∈ wsX6_correct := by decide +kernel
theorem lX6_correct_f45 : Cond.fieldLink RX6 45 "ModelCopiesModel" "has" "[Z" ∈ wsX6_correct := by decide +kernel
theorem lX6_lend_f48 : Cond.fieldLink RX6 48 "ModelCopiesModel" "lent" "[I" ∈ wsX6_lend := by decide +kernel
theorem iX6_lend_X6 : ∀ w ∈ wsX60, w ∈ wsX6_lend := by decide +kernel
theorem lX6_lend_f85 : Cond.fieldLink RX6 85 "ModelCopiesModel" "loans" "I" ∈ wsX6_lend := by decide +kernel
theorem lX6_lend_f51 : Cond.fieldLink RX6 51 "ModelCopiesModel" "borrowers" "[I" ∈ wsX6_lend := by decide +kernel
theorem lX6_lend_f54 : Cond.fieldLink RX6 54 "ModelCopiesModel" "lasts" "[I" ∈ wsX6_lend := by decide +kernel
theorem lX6_lend_f111 : Cond.fieldLink RX6 111 "ModelCopiesModel" "day" "I" ∈ wsX6_lend := by decide +kernel
theorem lX6_lend_f57 : Cond.fieldLink RX6 57 "ModelCopiesModel" "pledges" "[I" ∈ wsX6_lend := by decide +kernel
theorem lX6_lend_f66 : Cond.fieldLink RX6 66 "ModelCopiesModel" "coins" "[I" ∈ wsX6_lend := by decide +kernel
theorem lX6_lend_f69 : Cond.fieldLink RX6 69 "ModelCopiesModel" "laid" "[I" ∈ wsX6_lend := by decide +kernel
theorem lX6_lend_f23 : Cond.fieldLink RX6 23 "ModelCopiesModel" "houses" "[I" ∈ wsX6_lend := by decide +kernel
theorem lX6_lend_f20 : Cond.fieldLink RX6 20 "ModelCopiesModel" "owners" "[I" ∈ wsX6_lend := by decide +kernel
theorem hd45_X6_gets : yX6_gets.cls = RX6 ∧ yX6_gets.cls ≠ "java/lang/invoke/MethodHandle" ∧ yX6_gets.cls ≠ "java/lang/invoke/VarHandle" ∧ (parseMethodDescriptor yX6_gets.desc).map (fun d => d.parameters.length) = some 2 := by decide +kernel
theorem hd45_X6_in : yX6_in.cls ≠ "java/lang/invoke/MethodHandle" ∧ yX6_in.cls ≠ "java/lang/invoke/VarHandle" ∧ (parseMethodDescriptor yX6_in.desc).map (fun d => d.parameters.length) = some 3 := by decide +kernel
section
variable {κ : KxT} {G : GG} {base mc ms : Nat} {post : Option Value → va_W → Prop} {exc : String → va_W → Prop} {q : Nat → Nat} {V : Nat → Nat → Int} {Y : va_W} {l : Launch}
variable {n m t : Nat}
abbrev rmX6_correct : Room := { frames := 3, cells := 0, slots := 0, locals := 80 }
theorem c_X6_correct {h c o p : Int} (hh : -2147483648 ≤ h ∧ h < 2147483648) (hc : -2147483648 ≤ c ∧ c < 2147483648) (ho : -2147483648 ≤ o ∧ o < 2147483648) (hp : -2147483648 ≤ p ∧ p < 2147483648) (hw : WFV V n m t) : MC l yX6_correct wsX6_correct rmX6_correct G base [.ref (q 30), .int (iI h), .int (iI c), .int (iI o), .int (iI p)] (xm G q V ++ Y) (fun v w => (((0 ≤ h ∧ h < 5) ∧ (0 ≤ c ∧ c < n) ∧ (0 ≤ o ∧ o < n) ∧ 0 ≤ p ∧ p < 24) ∧ okCorrect V m h c o p ∧ v = some (.int (iI (m : Int))) ∧ w = xm G q (nsCorrect (up2 V 25 0 0) m h.toNat c.toNat o.toNat p.toNat) ++ Y) ∨ (¬ ((0 ≤ h ∧ h < 5) ∧ (0 ≤ c ∧ c < n) ∧ (0 ≤ o ∧ o < n) ∧ 0 ≤ p ∧ p < 24) ∧ flQ G q V Y 1 v w) ∨ (((0 ≤ h ∧ h < 5) ∧ (0 ≤ c ∧ c < n) ∧ (0 ≤ o ∧ o < n) ∧ 0 ≤ p ∧ p < 24) ∧ ¬ okCorrect V m h c o p ∧ flQ G q V Y 2 v w)) (fun _ _ => False) := by
  refine MC.of (cc := cX6_correct) (by decide) rfl rfl (Nat.le_of_ble_eq_true rfl) ?_
  intro κ C hT hl hnm
  have hb : n ≤ 40 ∧ m ≤ 60 ∧ t ≤ 40 ∧ 1 ≤ n := by have := hw.2.1; omega
  refine z_sub [0, 1, 2, 3, 4] (lv' := [(0, .ref (q 30)), (1, .int (iI h)), (2, .int (iI c)), (3, .int (iI o)), (4, .int (iI p))]) rfl ?_
  refine z_iload_n C 1 rfl rfl dX6_correct_0 (rfl : 0 + 1 = 1) ?_
  refine z_callS C 0 0 (c_X6_isHouse hh) gX6_correct_X6_isHouse rfl hd45_X6_isHouse ⟨Nat.le_of_ble_eq_true rfl, Nat.le_of_ble_eq_true rfl⟩ rfl (Nat.le_of_ble_eq_true rfl) dX6_correct_1 (rfl : 1 + 3 = 4) rfl rfl ⟨Nat.le_of_ble_eq_true rfl, Nat.le_of_ble_eq_true rfl⟩ (fun _ _ h => h.elim) ?_ rfl
  rintro _ _ ⟨rfl, rfl⟩
  refine z_v1 ?_
  by_cases k1 : 0 ≤ h ∧ h < 5
  rotate_left
  · rw [b01_f k1]
    refine z_if_eq (pt := 35) C dX6_correct_4 (by decide) (rfl : 4 + 3 = 7) (iI_eq0 (by omega)).1 (fun q => mt (iI_eq0 (by omega)).2 q) (fun c1 => ?_) (fun c1 => ?_)
    rotate_left
    · exact absurd rfl c1
    refine z_iconst C dX6_correct_35 (rfl : 35 + 1 = 36) ?_
    refine z_istore (lv' := [(5, _), (0, _), (1, _), (2, _), (3, _), (4, _)]) C dX6_correct_36 (rfl : 36 + 2 = 38) (by decide) rfl ?_
    refine z_iload C 0 rfl dX6_correct_38 (rfl : 38 + 2 = 40) ?_
    refine z_if_eq (pt := 103) C dX6_correct_40 (by decide) (rfl : 40 + 3 = 43) (iI_eq0 (by omega)).1 (fun q => mt (iI_eq0 (by omega)).2 q) (fun c9 => ?_) (fun c9 => ?_)
    rotate_left
    · exact absurd rfl c9
    refine z_iconst C dX6_correct_103 (rfl : 103 + 1 = 104) ?_
    refine z_istore (lv' := [(6, _), (5, _), (0, _), (1, _), (2, _), (3, _), (4, _)]) C dX6_correct_104 (rfl : 104 + 2 = 106) (by decide) rfl ?_
    refine z_aload_n C 2 rfl rfl dX6_correct_106 (rfl : 106 + 1 = 107) ?_
    refine z_iload C 1 rfl dX6_correct_107 (rfl : 107 + 2 = 109) ?_
    refine z_iload C 0 rfl dX6_correct_109 (rfl : 109 + 2 = 111) ?_
    refine z_iconst C dX6_correct_111 (rfl : 111 + 1 = 112) ?_
    refine z_callV C 0 0 (c_goes_1 (.inl rfl) (.inr rfl)) gX6_correct_X6_goes rfl hd45_X6_goes ⟨Nat.le_of_ble_eq_true rfl, Nat.le_of_ble_eq_true rfl⟩ xmm rfl rfl (Nat.le_of_ble_eq_true rfl) dX6_correct_112 (rfl : 112 + 3 = 115) rfl rfl ⟨Nat.le_of_ble_eq_true rfl, Nat.le_of_ble_eq_true rfl⟩ (fun _ _ h => h.elim) ?_ rfl
    rintro _ _ ⟨rfl, rfl⟩
    refine z_v1 ?_
    refine z_if_ne (pt := 120) C dX6_correct_115 (by decide) (rfl : 115 + 3 = 118) (fun q => mt (iI_eq0 (by omega)).2 q) (iI_eq0 (by omega)).1 (fun c8 => ?_) (fun c8 => ?_)
    · exact absurd rfl c8
    refine z_iconst C dX6_correct_118 (rfl : 118 + 1 = 119) ?_
    exact z_iret C rfl dX6_correct_119 (.inr (.inl ⟨fun h => k1 (by omega), rfl, rfl⟩)) (by decide) (by decide)
  rw [b01_t k1]
  refine z_if_eq (pt := 35) C dX6_correct_4 (by decide) (rfl : 4 + 3 = 7) (iI_eq0 (by omega)).1 (fun q => mt (iI_eq0 (by omega)).2 q) (fun c1 => ?_) (fun c1 => ?_)
  · exact absurd c1 (by omega)
  refine z_aload_n C 0 rfl rfl dX6_correct_7 (rfl : 7 + 1 = 8) ?_
  refine z_iload_n C 2 rfl rfl dX6_correct_8 (rfl : 8 + 1 = 9) ?_
  refine z_callV C 0 0 (c_X6_isCopy hc hw.1.1 (by omega)) gX6_correct_X6_isCopy rfl hd45_X6_isCopy ⟨Nat.le_of_ble_eq_true rfl, Nat.le_of_ble_eq_true rfl⟩ xmm rfl rfl (Nat.le_of_ble_eq_true rfl) dX6_correct_9 (rfl : 9 + 3 = 12) rfl rfl ⟨Nat.le_of_ble_eq_true rfl, Nat.le_of_ble_eq_true rfl⟩ (fun _ _ h => h.elim) ?_ rfl
  rintro _ _ ⟨rfl, rfl⟩
  refine z_v1 ?_
  by_cases k2 : 0 ≤ c ∧ c < n
  rotate_left
  · rw [b01_f k2]
    refine z_if_eq (pt := 35) C dX6_correct_12 (by decide) (rfl : 12 + 3 = 15) (iI_eq0 (by omega)).1 (fun q => mt (iI_eq0 (by omega)).2 q) (fun c1 => ?_) (fun c1 => ?_)
    rotate_left
    · exact absurd rfl c1
    refine z_iconst C dX6_correct_35 (rfl : 35 + 1 = 36) ?_
    refine z_istore (lv' := [(5, _), (0, _), (1, _), (2, _), (3, _), (4, _)]) C dX6_correct_36 (rfl : 36 + 2 = 38) (by decide) rfl ?_
    refine z_iload C 0 rfl dX6_correct_38 (rfl : 38 + 2 = 40) ?_
    refine z_if_eq (pt := 103) C dX6_correct_40 (by decide) (rfl : 40 + 3 = 43) (iI_eq0 (by omega)).1 (fun q => mt (iI_eq0 (by omega)).2 q) (fun c9 => ?_) (fun c9 => ?_)
    rotate_left
    · exact absurd rfl c9
    refine z_iconst C dX6_correct_103 (rfl : 103 + 1 = 104) ?_
    refine z_istore (lv' := [(6, _), (5, _), (0, _), (1, _), (2, _), (3, _), (4, _)]) C dX6_correct_104 (rfl : 104 + 2 = 106) (by decide) rfl ?_
    refine z_aload_n C 2 rfl rfl dX6_correct_106 (rfl : 106 + 1 = 107) ?_
    refine z_iload C 1 rfl dX6_correct_107 (rfl : 107 + 2 = 109) ?_
    refine z_iload C 0 rfl dX6_correct_109 (rfl : 109 + 2 = 111) ?_
    refine z_iconst C dX6_correct_111 (rfl : 111 + 1 = 112) ?_
    refine z_callV C 0 0 (c_goes_1 (.inl rfl) (.inr rfl)) gX6_correct_X6_goes rfl hd45_X6_goes ⟨Nat.le_of_ble_eq_true rfl, Nat.le_of_ble_eq_true rfl⟩ xmm rfl rfl (Nat.le_of_ble_eq_true rfl) dX6_correct_112 (rfl : 112 + 3 = 115) rfl rfl ⟨Nat.le_of_ble_eq_true rfl, Nat.le_of_ble_eq_true rfl⟩ (fun _ _ h => h.elim) ?_ rfl
    rintro _ _ ⟨rfl, rfl⟩
    refine z_v1 ?_
    refine z_if_ne (pt := 120) C dX6_correct_115 (by decide) (rfl : 115 + 3 = 118) (fun q => mt (iI_eq0 (by omega)).2 q) (iI_eq0 (by omega)).1 (fun c8 => ?_) (fun c8 => ?_)
    · exact absurd rfl c8
    refine z_iconst C dX6_correct_118 (rfl : 118 + 1 = 119) ?_
    exact z_iret C rfl dX6_correct_119 (.inr (.inl ⟨fun h => k2 (by omega), rfl, rfl⟩)) (by decide) (by decide)
  rw [b01_t k2]
  refine z_if_eq (pt := 35) C dX6_correct_12 (by decide) (rfl : 12 + 3 = 15) (iI_eq0 (by omega)).1 (fun q => mt (iI_eq0 (by omega)).2 q) (fun c1 => ?_) (fun c1 => ?_)
  · exact absurd c1 (by omega)
  refine z_aload_n C 0 rfl rfl dX6_correct_15 (rfl : 15 + 1 = 16) ?_
  refine z_iload_n C 3 rfl rfl dX6_correct_16 (rfl : 16 + 1 = 17) ?_
  refine z_callV C 0 0 (c_X6_isCopy ho hw.1.1 (by omega)) gX6_correct_X6_isCopy rfl hd45_X6_isCopy ⟨Nat.le_of_ble_eq_true rfl, Nat.le_of_ble_eq_true rfl⟩ xmm rfl rfl (Nat.le_of_ble_eq_true rfl) dX6_correct_17 (rfl : 17 + 3 = 20) rfl rfl ⟨Nat.le_of_ble_eq_true rfl, Nat.le_of_ble_eq_true rfl⟩ (fun _ _ h => h.elim) ?_ rfl
  rintro _ _ ⟨rfl, rfl⟩
  refine z_v1 ?_
  by_cases k3 : 0 ≤ o ∧ o < n
  rotate_left
  · rw [b01_f k3]
    refine z_if_eq (pt := 35) C dX6_correct_20 (by decide) (rfl : 20 + 3 = 23) (iI_eq0 (by omega)).1 (fun q => mt (iI_eq0 (by omega)).2 q) (fun c1 => ?_) (fun c1 => ?_)
    rotate_left
    · exact absurd rfl c1
    refine z_iconst C dX6_correct_35 (rfl : 35 + 1 = 36) ?_
    refine z_istore (lv' := [(5, _), (0, _), (1, _), (2, _), (3, _), (4, _)]) C dX6_correct_36 (rfl : 36 + 2 = 38) (by decide) rfl ?_
    refine z_iload C 0 rfl dX6_correct_38 (rfl : 38 + 2 = 40) ?_
    refine z_if_eq (pt := 103) C dX6_correct_40 (by decide) (rfl : 40 + 3 = 43) (iI_eq0 (by omega)).1 (fun q => mt (iI_eq0 (by omega)).2 q) (fun c9 => ?_) (fun c9 => ?_)
    rotate_left
    · exact absurd rfl c9
    refine z_iconst C dX6_correct_103 (rfl : 103 + 1 = 104) ?_
    refine z_istore (lv' := [(6, _), (5, _), (0, _), (1, _), (2, _), (3, _), (4, _)]) C dX6_correct_104 (rfl : 104 + 2 = 106) (by decide) rfl ?_
    refine z_aload_n C 2 rfl rfl dX6_correct_106 (rfl : 106 + 1 = 107) ?_
    refine z_iload C 1 rfl dX6_correct_107 (rfl : 107 + 2 = 109) ?_
    refine z_iload C 0 rfl dX6_correct_109 (rfl : 109 + 2 = 111) ?_
    refine z_iconst C dX6_correct_111 (rfl : 111 + 1 = 112) ?_
    refine z_callV C 0 0 (c_goes_1 (.inl rfl) (.inr rfl)) gX6_correct_X6_goes rfl hd45_X6_goes ⟨Nat.le_of_ble_eq_true rfl, Nat.le_of_ble_eq_true rfl⟩ xmm rfl rfl (Nat.le_of_ble_eq_true rfl) dX6_correct_112 (rfl : 112 + 3 = 115) rfl rfl ⟨Nat.le_of_ble_eq_true rfl, Nat.le_of_ble_eq_true rfl⟩ (fun _ _ h => h.elim) ?_ rfl
    rintro _ _ ⟨rfl, rfl⟩
    refine z_v1 ?_
    refine z_if_ne (pt := 120) C dX6_correct_115 (by decide) (rfl : 115 + 3 = 118) (fun q => mt (iI_eq0 (by omega)).2 q) (iI_eq0 (by omega)).1 (fun c8 => ?_) (fun c8 => ?_)
    · exact absurd rfl c8
    refine z_iconst C dX6_correct_118 (rfl : 118 + 1 = 119) ?_
    exact z_iret C rfl dX6_correct_119 (.inr (.inl ⟨fun h => k3 (by omega), rfl, rfl⟩)) (by decide) (by decide)
  rw [b01_t k3]
  refine z_if_eq (pt := 35) C dX6_correct_20 (by decide) (rfl : 20 + 3 = 23) (iI_eq0 (by omega)).1 (fun q => mt (iI_eq0 (by omega)).2 q) (fun c1 => ?_) (fun c1 => ?_)
  · exact absurd c1 (by omega)
  refine z_iload C 4 rfl dX6_correct_23 (rfl : 23 + 2 = 25) ?_
  refine z_callS C 0 0 (c_X6_isPlace hp) gX6_correct_X6_isPlace rfl hd45_X6_isPlace ⟨Nat.le_of_ble_eq_true rfl, Nat.le_of_ble_eq_true rfl⟩ rfl (Nat.le_of_ble_eq_true rfl) dX6_correct_25 (rfl : 25 + 3 = 28) rfl rfl ⟨Nat.le_of_ble_eq_true rfl, Nat.le_of_ble_eq_true rfl⟩ (fun _ _ h => h.elim) ?_ rfl
  rintro _ _ ⟨rfl, rfl⟩
  refine z_v1 ?_
  by_cases k4 : 0 ≤ p ∧ p < 24
  rotate_left
  · rw [b01_f k4]
    refine z_if_eq (pt := 35) C dX6_correct_28 (by decide) (rfl : 28 + 3 = 31) (iI_eq0 (by omega)).1 (fun q => mt (iI_eq0 (by omega)).2 q) (fun c1 => ?_) (fun c1 => ?_)
    rotate_left
    · exact absurd rfl c1
    refine z_iconst C dX6_correct_35 (rfl : 35 + 1 = 36) ?_
    refine z_istore (lv' := [(5, _), (0, _), (1, _), (2, _), (3, _), (4, _)]) C dX6_correct_36 (rfl : 36 + 2 = 38) (by decide) rfl ?_
    refine z_iload C 0 rfl dX6_correct_38 (rfl : 38 + 2 = 40) ?_
    refine z_if_eq (pt := 103) C dX6_correct_40 (by decide) (rfl : 40 + 3 = 43) (iI_eq0 (by omega)).1 (fun q => mt (iI_eq0 (by omega)).2 q) (fun c9 => ?_) (fun c9 => ?_)
    rotate_left
    · exact absurd rfl c9
    refine z_iconst C dX6_correct_103 (rfl : 103 + 1 = 104) ?_
    refine z_istore (lv' := [(6, _), (5, _), (0, _), (1, _), (2, _), (3, _), (4, _)]) C dX6_correct_104 (rfl : 104 + 2 = 106) (by decide) rfl ?_
    refine z_aload_n C 2 rfl rfl dX6_correct_106 (rfl : 106 + 1 = 107) ?_
    refine z_iload C 1 rfl dX6_correct_107 (rfl : 107 + 2 = 109) ?_
    refine z_iload C 0 rfl dX6_correct_109 (rfl : 109 + 2 = 111) ?_
    refine z_iconst C dX6_correct_111 (rfl : 111 + 1 = 112) ?_
    refine z_callV C 0 0 (c_goes_1 (.inl rfl) (.inr rfl)) gX6_correct_X6_goes rfl hd45_X6_goes ⟨Nat.le_of_ble_eq_true rfl, Nat.le_of_ble_eq_true rfl⟩ xmm rfl rfl (Nat.le_of_ble_eq_true rfl) dX6_correct_112 (rfl : 112 + 3 = 115) rfl rfl ⟨Nat.le_of_ble_eq_true rfl, Nat.le_of_ble_eq_true rfl⟩ (fun _ _ h => h.elim) ?_ rfl
    rintro _ _ ⟨rfl, rfl⟩
    refine z_v1 ?_
    refine z_if_ne (pt := 120) C dX6_correct_115 (by decide) (rfl : 115 + 3 = 118) (fun q => mt (iI_eq0 (by omega)).2 q) (iI_eq0 (by omega)).1 (fun c8 => ?_) (fun c8 => ?_)
    · exact absurd rfl c8
    refine z_iconst C dX6_correct_118 (rfl : 118 + 1 = 119) ?_
    exact z_iret C rfl dX6_correct_119 (.inr (.inl ⟨fun h => k4 (by omega), rfl, rfl⟩)) (by decide) (by decide)
  rw [b01_t k4]
  refine z_if_eq (pt := 35) C dX6_correct_28 (by decide) (rfl : 28 + 3 = 31) (iI_eq0 (by omega)).1 (fun q => mt (iI_eq0 (by omega)).2 q) (fun c1 => ?_) (fun c1 => ?_)
  · exact absurd c1 (by omega)
  obtain ⟨h, rfl⟩ : ∃ i : Nat, h = (i : Int) := ⟨h.toNat, by omega⟩
  obtain ⟨c, rfl⟩ : ∃ i : Nat, c = (i : Int) := ⟨c.toNat, by omega⟩
  obtain ⟨o, rfl⟩ : ∃ i : Nat, o = (i : Int) := ⟨o.toNat, by omega⟩
  obtain ⟨p, rfl⟩ : ∃ i : Nat, p = (i : Int) := ⟨p.toNat, by omega⟩
  have r1 := hw.2.2.2.2.2.1 c (by omega)
  have r2 := hw.2.2.2.2.2.1 o (by omega)
  have r3 := hw.2.2.1 (24 * c + p) (by omega)
  have r4 := hw.2.2.1 (24 * o + p) (by omega)
  refine z_iconst C dX6_correct_31 (rfl : 31 + 1 = 32) ?_
  refine z_goto (pc' := 36) C dX6_correct_32 (by decide) ?_
  refine z_istore (lv' := [(5, _), (0, _), (1, _), (2, _), (3, _), (4, _)]) C dX6_correct_36 (rfl : 36 + 2 = 38) (by decide) rfl ?_
  refine z_iload C 0 rfl dX6_correct_38 (rfl : 38 + 2 = 40) ?_
  refine z_if_eq (pt := 103) C dX6_correct_40 (by decide) (rfl : 40 + 3 = 43) (iI_eq0 (by omega)).1 (fun q => mt (iI_eq0 (by omega)).2 q) (fun c2 => ?_) (fun c2 => ?_)
  · exact absurd c2 (by omega)
  refine z_aload_n C 1 rfl rfl dX6_correct_43 (rfl : 43 + 1 = 44) ?_
  refine z_get C xmm rfl iX6_correct_X6 4 (by decide) lX6_correct_f23 rfl rfl dX6_correct_44 (rfl : 44 + 3 = 47) ?_
  refine z_iload_n C 3 rfl rfl dX6_correct_47 (rfl : 47 + 1 = 48) ?_
  refine z_iald (x := iI (V 4 (c))) C xmm_4 ⟨by omega, by omega⟩ (by omega) rfl dX6_correct_48 (rfl : 48 + 1 = 49) ?_
  refine z_iload_n C 2 rfl rfl dX6_correct_49 (rfl : 49 + 1 = 50) ?_
  refine z_icmp_ne (pt := 103) C dX6_correct_50 (by decide) (rfl : 50 + 3 = 53) (fun q => mt (iI_eq (by omega) (by omega)).2 q) (iI_eq (by omega) (by omega)).1 (fun c2 => ?_) (fun c2 => ?_)
  · refine z_iconst C dX6_correct_103 (rfl : 103 + 1 = 104) ?_
    refine z_istore (lv' := [(6, _), (5, _), (0, _), (1, _), (2, _), (3, _), (4, _)]) C dX6_correct_104 (rfl : 104 + 2 = 106) (by decide) rfl ?_
    refine z_aload_n C 2 rfl rfl dX6_correct_106 (rfl : 106 + 1 = 107) ?_
    refine z_iload C 1 rfl dX6_correct_107 (rfl : 107 + 2 = 109) ?_
    refine z_iload C 0 rfl dX6_correct_109 (rfl : 109 + 2 = 111) ?_
    refine z_iconst C dX6_correct_111 (rfl : 111 + 1 = 112) ?_
    refine z_callV C 0 0 (c_goes_2 (.inr rfl)) gX6_correct_X6_goes rfl hd45_X6_goes ⟨Nat.le_of_ble_eq_true rfl, Nat.le_of_ble_eq_true rfl⟩ xmm rfl rfl (Nat.le_of_ble_eq_true rfl) dX6_correct_112 (rfl : 112 + 3 = 115) rfl rfl ⟨Nat.le_of_ble_eq_true rfl, Nat.le_of_ble_eq_true rfl⟩ (fun _ _ h => h.elim) ?_ rfl
    rintro _ _ ⟨rfl, rfl⟩
    refine z_v1 ?_
    refine z_if_ne (pt := 120) C dX6_correct_115 (by decide) (rfl : 115 + 3 = 118) (fun q => mt (iI_eq0 (by omega)).2 q) (iI_eq0 (by omega)).1 (fun c8 => ?_) (fun c8 => ?_)
    · exact absurd rfl c8
    refine z_iconst C dX6_correct_118 (rfl : 118 + 1 = 119) ?_
    exact z_iret C rfl dX6_correct_119 (.inr (.inr ⟨⟨k1, k2, k3, k4⟩, fun h => c2 h.1, rfl, rfl⟩)) (by decide) (by decide)
  refine z_aload_n C 1 rfl rfl dX6_correct_53 (rfl : 53 + 1 = 54) ?_
  refine z_get C xmm rfl iX6_correct_X6 4 (by decide) lX6_correct_f23 rfl rfl dX6_correct_54 (rfl : 54 + 3 = 57) ?_
  refine z_iload_n C 4 rfl rfl dX6_correct_57 (rfl : 57 + 1 = 58) ?_
  refine z_iald (x := iI (V 4 (o))) C xmm_4 ⟨by omega, by omega⟩ (by omega) rfl dX6_correct_58 (rfl : 58 + 1 = 59) ?_
  refine z_iload_n C 2 rfl rfl dX6_correct_59 (rfl : 59 + 1 = 60) ?_
  refine z_icmp_ne (pt := 103) C dX6_correct_60 (by decide) (rfl : 60 + 3 = 63) (fun q => mt (iI_eq (by omega) (by omega)).2 q) (iI_eq (by omega) (by omega)).1 (fun c3 => ?_) (fun c3 => ?_)
  · refine z_iconst C dX6_correct_103 (rfl : 103 + 1 = 104) ?_
    refine z_istore (lv' := [(6, _), (5, _), (0, _), (1, _), (2, _), (3, _), (4, _)]) C dX6_correct_104 (rfl : 104 + 2 = 106) (by decide) rfl ?_
    refine z_aload_n C 2 rfl rfl dX6_correct_106 (rfl : 106 + 1 = 107) ?_
    refine z_iload C 1 rfl dX6_correct_107 (rfl : 107 + 2 = 109) ?_
    refine z_iload C 0 rfl dX6_correct_109 (rfl : 109 + 2 = 111) ?_
    refine z_iconst C dX6_correct_111 (rfl : 111 + 1 = 112) ?_
    refine z_callV C 0 0 (c_goes_2 (.inr rfl)) gX6_correct_X6_goes rfl hd45_X6_goes ⟨Nat.le_of_ble_eq_true rfl, Nat.le_of_ble_eq_true rfl⟩ xmm rfl rfl (Nat.le_of_ble_eq_true rfl) dX6_correct_112 (rfl : 112 + 3 = 115) rfl rfl ⟨Nat.le_of_ble_eq_true rfl, Nat.le_of_ble_eq_true rfl⟩ (fun _ _ h => h.elim) ?_ rfl
    rintro _ _ ⟨rfl, rfl⟩
    refine z_v1 ?_
    refine z_if_ne (pt := 120) C dX6_correct_115 (by decide) (rfl : 115 + 3 = 118) (fun q => mt (iI_eq0 (by omega)).2 q) (iI_eq0 (by omega)).1 (fun c8 => ?_) (fun c8 => ?_)
    · exact absurd rfl c8
    refine z_iconst C dX6_correct_118 (rfl : 118 + 1 = 119) ?_
    exact z_iret C rfl dX6_correct_119 (.inr (.inr ⟨⟨k1, k2, k3, k4⟩, fun h => c3 h.2.1, rfl, rfl⟩)) (by decide) (by decide)
  refine z_aload_n C 1 rfl rfl dX6_correct_63 (rfl : 63 + 1 = 64) ?_
  refine z_get C xmm rfl iX6_correct_X6 0 (by decide) lX6_correct_f7 rfl rfl dX6_correct_64 (rfl : 64 + 3 = 67) ?_
  refine z_bipush (c := 24) C (by decide) dX6_correct_67 (rfl : 67 + 2 = 69) ?_
  refine z_iload_n C 3 rfl rfl dX6_correct_69 (rfl : 69 + 1 = 70) ?_
  refine z_imul C dX6_correct_70 (rfl : 70 + 1 = 71) rfl ?_
  refine z_iload C 5 rfl dX6_correct_71 (rfl : 71 + 2 = 73) ?_
  refine z_iadd C dX6_correct_73 (rfl : 73 + 1 = 74) rfl ?_
  refine z_iald (x := iI (V 0 (24 * c + p))) C xmm_0 ⟨by omega, by omega⟩ (by omega) rfl dX6_correct_74 (rfl : 74 + 1 = 75) ?_
  refine z_aload_n C 1 rfl rfl dX6_correct_75 (rfl : 75 + 1 = 76) ?_
  refine z_get C xmm rfl iX6_correct_X6 0 (by decide) lX6_correct_f7 rfl rfl dX6_correct_76 (rfl : 76 + 3 = 79) ?_
  refine z_bipush (c := 24) C (by decide) dX6_correct_79 (rfl : 79 + 2 = 81) ?_
  refine z_iload_n C 4 rfl rfl dX6_correct_81 (rfl : 81 + 1 = 82) ?_
  refine z_imul C dX6_correct_82 (rfl : 82 + 1 = 83) rfl ?_
  refine z_iload C 5 rfl dX6_correct_83 (rfl : 83 + 2 = 85) ?_
  refine z_iadd C dX6_correct_85 (rfl : 85 + 1 = 86) rfl ?_
  refine z_iald (x := iI (V 0 (24 * o + p))) C xmm_0 ⟨by omega, by omega⟩ (by omega) rfl dX6_correct_86 (rfl : 86 + 1 = 87) ?_
  refine z_icmp_eq (pt := 103) C dX6_correct_87 (by decide) (rfl : 87 + 3 = 90) (iI_eq (by omega) (by omega)).1 (fun q => mt (iI_eq (by omega) (by omega)).2 q) (fun c4 => ?_) (fun c4 => ?_)
  · refine z_iconst C dX6_correct_103 (rfl : 103 + 1 = 104) ?_
    refine z_istore (lv' := [(6, _), (5, _), (0, _), (1, _), (2, _), (3, _), (4, _)]) C dX6_correct_104 (rfl : 104 + 2 = 106) (by decide) rfl ?_
    refine z_aload_n C 2 rfl rfl dX6_correct_106 (rfl : 106 + 1 = 107) ?_
    refine z_iload C 1 rfl dX6_correct_107 (rfl : 107 + 2 = 109) ?_
    refine z_iload C 0 rfl dX6_correct_109 (rfl : 109 + 2 = 111) ?_
    refine z_iconst C dX6_correct_111 (rfl : 111 + 1 = 112) ?_
    refine z_callV C 0 0 (c_goes_2 (.inr rfl)) gX6_correct_X6_goes rfl hd45_X6_goes ⟨Nat.le_of_ble_eq_true rfl, Nat.le_of_ble_eq_true rfl⟩ xmm rfl rfl (Nat.le_of_ble_eq_true rfl) dX6_correct_112 (rfl : 112 + 3 = 115) rfl rfl ⟨Nat.le_of_ble_eq_true rfl, Nat.le_of_ble_eq_true rfl⟩ (fun _ _ h => h.elim) ?_ rfl
    rintro _ _ ⟨rfl, rfl⟩
    refine z_v1 ?_
    refine z_if_ne (pt := 120) C dX6_correct_115 (by decide) (rfl : 115 + 3 = 118) (fun q => mt (iI_eq0 (by omega)).2 q) (iI_eq0 (by omega)).1 (fun c8 => ?_) (fun c8 => ?_)
    · exact absurd rfl c8
    refine z_iconst C dX6_correct_118 (rfl : 118 + 1 = 119) ?_
    exact z_iret C rfl dX6_correct_119 (.inr (.inr ⟨⟨k1, k2, k3, k4⟩, fun h => h.2.2.1 c4, rfl, rfl⟩)) (by decide) (by decide)
  refine z_aload_n C 1 rfl rfl dX6_correct_90 (rfl : 90 + 1 = 91) ?_
  refine z_get C xmm rfl iX6_correct_X6 14 (by decide) lX6_correct_f82 rfl rfl dX6_correct_91 (rfl : 91 + 3 = 94) ?_
  refine z_topi (y := iI ((m : Int))) (congrArg iI hw.1.2.1) ?_
  refine z_bipush (c := 60) C (by decide) dX6_correct_94 (rfl : 94 + 2 = 96) ?_
  refine z_icmp_ge (pt := 103) C dX6_correct_96 (by decide) (rfl : 96 + 3 = 99) (iI_le (by omega) (by omega)).1 (fun q => mt (iI_le (by omega) (by omega)).2 q) (fun c5 => ?_) (fun c5 => ?_)
  · refine z_iconst C dX6_correct_103 (rfl : 103 + 1 = 104) ?_
    refine z_istore (lv' := [(6, _), (5, _), (0, _), (1, _), (2, _), (3, _), (4, _)]) C dX6_correct_104 (rfl : 104 + 2 = 106) (by decide) rfl ?_
    refine z_aload_n C 2 rfl rfl dX6_correct_106 (rfl : 106 + 1 = 107) ?_
    refine z_iload C 1 rfl dX6_correct_107 (rfl : 107 + 2 = 109) ?_
    refine z_iload C 0 rfl dX6_correct_109 (rfl : 109 + 2 = 111) ?_
    refine z_iconst C dX6_correct_111 (rfl : 111 + 1 = 112) ?_
    refine z_callV C 0 0 (c_goes_2 (.inr rfl)) gX6_correct_X6_goes rfl hd45_X6_goes ⟨Nat.le_of_ble_eq_true rfl, Nat.le_of_ble_eq_true rfl⟩ xmm rfl rfl (Nat.le_of_ble_eq_true rfl) dX6_correct_112 (rfl : 112 + 3 = 115) rfl rfl ⟨Nat.le_of_ble_eq_true rfl, Nat.le_of_ble_eq_true rfl⟩ (fun _ _ h => h.elim) ?_ rfl
    rintro _ _ ⟨rfl, rfl⟩
    refine z_v1 ?_
    refine z_if_ne (pt := 120) C dX6_correct_115 (by decide) (rfl : 115 + 3 = 118) (fun q => mt (iI_eq0 (by omega)).2 q) (iI_eq0 (by omega)).1 (fun c8 => ?_) (fun c8 => ?_)
    · exact absurd rfl c8
    refine z_iconst C dX6_correct_118 (rfl : 118 + 1 = 119) ?_
    exact z_iret C rfl dX6_correct_119 (.inr (.inr ⟨⟨k1, k2, k3, k4⟩, fun h => absurd h.2.2.2 (by omega), rfl, rfl⟩)) (by decide) (by decide)
  have ok : okCorrect V m h c o p := ⟨c2, c3, c4, by omega⟩
  refine z_iconst C dX6_correct_99 (rfl : 99 + 1 = 100) ?_
  refine z_goto (pc' := 104) C dX6_correct_100 (by decide) ?_
  refine z_istore (lv' := [(6, _), (5, _), (0, _), (1, _), (2, _), (3, _), (4, _)]) C dX6_correct_104 (rfl : 104 + 2 = 106) (by decide) rfl ?_
  refine z_aload_n C 2 rfl rfl dX6_correct_106 (rfl : 106 + 1 = 107) ?_
  refine z_iload C 1 rfl dX6_correct_107 (rfl : 107 + 2 = 109) ?_
  refine z_iload C 0 rfl dX6_correct_109 (rfl : 109 + 2 = 111) ?_
  refine z_iconst C dX6_correct_111 (rfl : 111 + 1 = 112) ?_
  refine z_callV C 0 0 c_goes_ok gX6_correct_X6_goes rfl hd45_X6_goes ⟨Nat.le_of_ble_eq_true rfl, Nat.le_of_ble_eq_true rfl⟩ xmm rfl rfl (Nat.le_of_ble_eq_true rfl) dX6_correct_112 (rfl : 112 + 3 = 115) rfl rfl ⟨Nat.le_of_ble_eq_true rfl, Nat.le_of_ble_eq_true rfl⟩ (fun _ _ h => h.elim) ?_ rfl
  rintro _ _ ⟨rfl, rfl⟩
  refine z_v1 ?_
  refine z_if_ne (pt := 120) C dX6_correct_115 (by decide) (rfl : 115 + 3 = 118) (fun q => mt (iI_eq0 (by omega)).2 q) (iI_eq0 (by omega)).1 (fun c6 => ?_) (fun c6 => ?_)
  rotate_left
  · exact absurd c6 (by omega)
  refine z_aload_n C 2 rfl rfl dX6_correct_120 (rfl : 120 + 1 = 121) ?_
  refine z_get C xmm rfl iX6_correct_X6 10 (by decide) lX6_correct_f36 rfl rfl dX6_correct_121 (rfl : 121 + 3 = 124) ?_
  refine z_aload_n C 2 rfl rfl dX6_correct_124 (rfl : 124 + 1 = 125) ?_
  refine z_get C xmm rfl iX6_correct_X6 14 (by decide) lX6_correct_f82 rfl rfl dX6_correct_125 (rfl : 125 + 3 = 128) ?_
  refine z_topi (y := iI ((m : Int))) (congrArg iI hw.1.2.1) ?_
  refine z_iload C 6 rfl dX6_correct_128 (rfl : 128 + 2 = 130) ?_
  refine z_iast C xmm_10 ⟨by omega, by omega⟩ (by omega) dX6_correct_130 (rfl : 130 + 1 = 131) (xms_10 (i := m)) ?_
  refine z_aload_n C 2 rfl rfl dX6_correct_131 (rfl : 131 + 1 = 132) ?_
  refine z_get C xmm rfl iX6_correct_X6 11 (by decide) lX6_correct_f39 rfl rfl dX6_correct_132 (rfl : 132 + 3 = 135) ?_
  refine z_aload_n C 2 rfl rfl dX6_correct_135 (rfl : 135 + 1 = 136) ?_
  refine z_get C xmm rfl iX6_correct_X6 14 (by decide) lX6_correct_f82 rfl rfl dX6_correct_136 (rfl : 136 + 3 = 139) ?_
  refine z_topi (y := iI ((m : Int))) (congrArg iI hw.1.2.1) ?_
  refine z_aload_n C 2 rfl rfl dX6_correct_139 (rfl : 139 + 1 = 140) ?_
  refine z_get C xmm rfl iX6_correct_X6 0 (by decide) lX6_correct_f7 rfl rfl dX6_correct_140 (rfl : 140 + 3 = 143) ?_
  refine z_bipush (c := 24) C (by decide) dX6_correct_143 (rfl : 143 + 2 = 145) ?_
  refine z_iload_n C 4 rfl rfl dX6_correct_145 (rfl : 145 + 1 = 146) ?_
  refine z_imul C dX6_correct_146 (rfl : 146 + 1 = 147) rfl ?_
  refine z_iload C 6 rfl dX6_correct_147 (rfl : 147 + 2 = 149) ?_
  refine z_iadd C dX6_correct_149 (rfl : 149 + 1 = 150) rfl ?_
  refine z_iald (x := iI (V 0 (24 * c + p))) C xmm_0 ⟨by omega, by omega⟩ (by omega) rfl dX6_correct_150 (rfl : 150 + 1 = 151) ?_
  refine z_iast C xmm_11 ⟨by omega, by omega⟩ (by omega) dX6_correct_151 (rfl : 151 + 1 = 152) (xms_11 (i := m)) ?_
  refine z_aload_n C 2 rfl rfl dX6_correct_152 (rfl : 152 + 1 = 153) ?_
  refine z_get C xmm rfl iX6_correct_X6 12 (by decide) lX6_correct_f42 rfl rfl dX6_correct_153 (rfl : 153 + 3 = 156) ?_
  refine z_aload_n C 2 rfl rfl dX6_correct_156 (rfl : 156 + 1 = 157) ?_
  refine z_get C xmm rfl iX6_correct_X6 14 (by decide) lX6_correct_f82 rfl rfl dX6_correct_157 (rfl : 157 + 3 = 160) ?_
  refine z_topi (y := iI ((m : Int))) (congrArg iI hw.1.2.1) ?_
  refine z_aload_n C 2 rfl rfl dX6_correct_160 (rfl : 160 + 1 = 161) ?_
  refine z_get C xmm rfl iX6_correct_X6 0 (by decide) lX6_correct_f7 rfl rfl dX6_correct_161 (rfl : 161 + 3 = 164) ?_
  refine z_bipush (c := 24) C (by decide) dX6_correct_164 (rfl : 164 + 2 = 166) ?_
  refine z_iload_n C 5 rfl rfl dX6_correct_166 (rfl : 166 + 1 = 167) ?_
  refine z_imul C dX6_correct_167 (rfl : 167 + 1 = 168) rfl ?_
  refine z_iload C 6 rfl dX6_correct_168 (rfl : 168 + 2 = 170) ?_
  refine z_iadd C dX6_correct_170 (rfl : 170 + 1 = 171) rfl ?_
  refine z_iald (x := iI (V 0 (24 * o + p))) C xmm_0 ⟨by omega, by omega⟩ (by omega) rfl dX6_correct_171 (rfl : 171 + 1 = 172) ?_
  refine z_iast C xmm_12 ⟨by omega, by omega⟩ (by omega) dX6_correct_172 (rfl : 172 + 1 = 173) (xms_12 (i := m)) ?_
  refine z_aload_n C 2 rfl rfl dX6_correct_173 (rfl : 173 + 1 = 174) ?_
  refine z_get C xmm rfl iX6_correct_X6 13 (by decide) lX6_correct_f45 rfl rfl dX6_correct_174 (rfl : 174 + 3 = 177) ?_
  refine z_bipush (c := 60) C (by decide) dX6_correct_177 (rfl : 177 + 2 = 179) ?_
  refine z_iload_n C 3 rfl rfl dX6_correct_179 (rfl : 179 + 1 = 180) ?_
  refine z_imul C dX6_correct_180 (rfl : 180 + 1 = 181) rfl ?_
  refine z_aload_n C 2 rfl rfl dX6_correct_181 (rfl : 181 + 1 = 182) ?_
  refine z_get C xmm rfl iX6_correct_X6 14 (by decide) lX6_correct_f82 rfl rfl dX6_correct_182 (rfl : 182 + 3 = 185) ?_
  refine z_topi (y := iI ((m : Int))) (congrArg iI hw.1.2.1) ?_
  refine z_iadd C dX6_correct_185 (rfl : 185 + 1 = 186) rfl ?_
  refine z_iconst C dX6_correct_186 (rfl : 186 + 1 = 187) ?_
  refine z_zast C xmm_13 ⟨by omega, by omega⟩ (by omega) (by omega) dX6_correct_187 (rfl : 187 + 1 = 188) (xms_13 (i := 60 * h + m)) ?_
  refine z_aload_n C 2 rfl rfl dX6_correct_188 (rfl : 188 + 1 = 189) ?_
  refine z_get C xmm rfl iX6_correct_X6 0 (by decide) lX6_correct_f7 rfl rfl dX6_correct_189 (rfl : 189 + 3 = 192) ?_
  refine z_bipush (c := 24) C (by decide) dX6_correct_192 (rfl : 192 + 2 = 194) ?_
  refine z_iload_n C 4 rfl rfl dX6_correct_194 (rfl : 194 + 1 = 195) ?_
  refine z_imul C dX6_correct_195 (rfl : 195 + 1 = 196) rfl ?_
  refine z_iload C 6 rfl dX6_correct_196 (rfl : 196 + 2 = 198) ?_
  refine z_iadd C dX6_correct_198 (rfl : 198 + 1 = 199) rfl ?_
  refine z_aload_n C 2 rfl rfl dX6_correct_199 (rfl : 199 + 1 = 200) ?_
  refine z_get C xmm rfl iX6_correct_X6 12 (by decide) lX6_correct_f42 rfl rfl dX6_correct_200 (rfl : 200 + 3 = 203) ?_
  refine z_aload_n C 2 rfl rfl dX6_correct_203 (rfl : 203 + 1 = 204) ?_
  refine z_get C xmm rfl iX6_correct_X6 14 (by decide) lX6_correct_f82 rfl rfl dX6_correct_204 (rfl : 204 + 3 = 207) ?_
  refine z_topi (y := iI ((m : Int))) (congrArg iI hw.1.2.1) ?_
  refine z_iald C (x := iI (V 0 (24 * o + p))) xmm_12 ⟨by omega, by omega⟩ (by omega) (by simp [up2, va_up]) dX6_correct_207 (rfl : 207 + 1 = 208) ?_
  refine z_iast C xmm_0 ⟨by omega, by omega⟩ (by omega) dX6_correct_208 (rfl : 208 + 1 = 209) (xms_0 (i := 24 * c + p)) ?_
  refine z_aload_n C 2 rfl rfl dX6_correct_209 (rfl : 209 + 1 = 210) ?_
  refine z_dup C rfl dX6_correct_210 (rfl : 210 + 1 = 211) ?_
  refine z_get C xmm rfl iX6_correct_X6 14 (by decide) lX6_correct_f82 rfl rfl dX6_correct_211 (rfl : 211 + 3 = 214) ?_
  refine z_topi (y := iI ((m : Int))) (congrArg iI hw.1.2.1) ?_
  refine z_iconst C dX6_correct_214 (rfl : 214 + 1 = 215) ?_
  refine z_iadd C dX6_correct_215 (rfl : 215 + 1 = 216) rfl ?_
  refine z_put C tyX6 tyX6_ok nmX6 xmm rfl iX6_correct_X6 14 (by decide) lX6_correct_f82 rfl rfl rfl rfl rfl (Nat.le_of_ble_eq_true rfl) dX6_correct_216 (rfl : 216 + 3 = 219) xms_14 ?_
  refine z_aload_n C 2 rfl rfl dX6_correct_219 (rfl : 219 + 1 = 220) ?_
  refine z_get C xmm rfl iX6_correct_X6 14 (by decide) lX6_correct_f82 rfl rfl dX6_correct_220 (rfl : 220 + 3 = 223) ?_
  refine z_iconst C dX6_correct_223 (rfl : 223 + 1 = 224) ?_
  refine z_isub C dX6_correct_224 (rfl : 224 + 1 = 225) rfl ?_
  refine z_topi (y := iI (m : Int)) (congrArg iI (by simp only [up2, va_up, if_true]; omega)) ?_
  exact z_iret C rfl dX6_correct_225 (.inl ⟨⟨k1, k2, k3, k4⟩, ok, rfl, rfl⟩) (by decide) (by decide)
abbrev rmX6_lend : Room := { frames := 3, cells := 0, slots := 0, locals := 80 }
theorem tl2_X6_lend (C : Cx κ cX6_lend 8 wsX6_lend RX6 (some .int) rmX6_lend G base) {c h : Nat} {d pl b6 b7 : Int} (hw : WFV V n m t) (hc : c < n) (hh : h < 5) (h6 : b6 = 0 ∧ ¬ ((1 ≤ d ∧ d ≤ 100) ∧ 0 ≤ pl ∧ pl ≤ 50) ∨ b6 = 1 ∧ ((1 ≤ d ∧ d ≤ 100) ∧ 0 ≤ pl ∧ pl ≤ 50)) (h7 : b7 = 0 ∧ ¬ okLend V t c h pl ∨ b7 = 1 ∧ okLend V t c h pl) (hm : mc = 0 ∧ ms = 0)
    (hp : ∀ v w, ((((1 ≤ d ∧ d ≤ 100) ∧ 0 ≤ pl ∧ pl ≤ 50) ∧ okLend V t c h pl ∧ v = some (.int (iI (t : Int))) ∧ ∃ f : Nat → Int, gtL V m h (V 3 c).toNat f ∧ w = xm G q (up2 (va_up (nsLend (up2 V 25 0 0) t c h d pl) 13 f) 21 0 (t + 1)) ++ Y) ∨ (¬ ((1 ≤ d ∧ d ≤ 100) ∧ 0 ≤ pl ∧ pl ≤ 50) ∧ flQ G q V Y 2 v w) ∨ (((1 ≤ d ∧ d ≤ 100) ∧ 0 ≤ pl ∧ pl ≤ 50) ∧ ¬ okLend V t c h pl ∧ flQ G q V Y 3 v w)) → post v w) : Z κ 8 G base mc ms post exc 0 0 105 [(6, .int (iI b6)), (5, .int (iI 1)), (0, .ref (q 30)), (1, .int (iI (c : Int))), (2, .int (iI (h : Int))), (3, .int (iI d)), (4, .int (iI pl))] [.int (iI b7)] (xm G q V ++ Y) := by
  obtain ⟨rfl, rfl⟩ := hm
  have hb : n ≤ 40 ∧ m ≤ 60 ∧ t ≤ 40 ∧ 1 ≤ n := by have := hw.2.1; omega
  have r1 := hw.2.2.2.2.2.1 c hc
  refine z_istore (lv' := [(7, _), (6, _), (5, _), (0, _), (1, _), (2, _), (3, _), (4, _)]) C dX6_lend_105 (rfl : 105 + 2 = 107) (by decide) rfl ?_
  refine z_aload_n C 3 rfl rfl dX6_lend_107 (rfl : 107 + 1 = 108) ?_
  refine z_iload C 2 rfl dX6_lend_108 (rfl : 108 + 2 = 110) ?_
  refine z_iload C 1 rfl dX6_lend_110 (rfl : 110 + 2 = 112) ?_
  refine z_iload C 0 rfl dX6_lend_112 (rfl : 112 + 2 = 114) ?_
  rcases h6 with ⟨rfl, k2⟩ | ⟨rfl, k2⟩
  · refine z_callV C 0 0 (c_goes_2 (by omega)) gX6_lend_X6_goes rfl hd45_X6_goes ⟨Nat.le_of_ble_eq_true rfl, Nat.le_of_ble_eq_true rfl⟩ xmm rfl rfl (Nat.le_of_ble_eq_true rfl) dX6_lend_114 (rfl : 114 + 3 = 117) rfl rfl ⟨Nat.le_of_ble_eq_true rfl, Nat.le_of_ble_eq_true rfl⟩ (fun _ _ h => h.elim) ?_ rfl
    rintro _ _ ⟨rfl, rfl⟩
    refine z_v1 ?_
    refine z_if_ne (pt := 122) C dX6_lend_117 (by decide) (rfl : 117 + 3 = 120) (fun q => mt (iI_eq0 (by omega)).2 q) (iI_eq0 (by omega)).1 (fun c8 => ?_) (fun c8 => ?_)
    · exact absurd rfl c8
    refine z_iconst C dX6_lend_120 (rfl : 120 + 1 = 121) ?_
    exact z_iret C rfl dX6_lend_121 (hp _ _ (.inr (.inl ⟨k2, rfl, rfl⟩))) (by decide) (by decide)
  rcases h7 with ⟨rfl, k3⟩ | ⟨rfl, k3⟩
  · refine z_callV C 0 0 c_goes_3 gX6_lend_X6_goes rfl hd45_X6_goes ⟨Nat.le_of_ble_eq_true rfl, Nat.le_of_ble_eq_true rfl⟩ xmm rfl rfl (Nat.le_of_ble_eq_true rfl) dX6_lend_114 (rfl : 114 + 3 = 117) rfl rfl ⟨Nat.le_of_ble_eq_true rfl, Nat.le_of_ble_eq_true rfl⟩ (fun _ _ h => h.elim) ?_ rfl
    rintro _ _ ⟨rfl, rfl⟩
    refine z_v1 ?_
    refine z_if_ne (pt := 122) C dX6_lend_117 (by decide) (rfl : 117 + 3 = 120) (fun q => mt (iI_eq0 (by omega)).2 q) (iI_eq0 (by omega)).1 (fun c8 => ?_) (fun c8 => ?_)
    · exact absurd rfl c8
    refine z_iconst C dX6_lend_120 (rfl : 120 + 1 = 121) ?_
    exact z_iret C rfl dX6_lend_121 (hp _ _ (.inr (.inr ⟨k2, k3, rfl, rfl⟩))) (by decide) (by decide)
  refine z_callV C 0 0 c_goes_ok gX6_lend_X6_goes rfl hd45_X6_goes ⟨Nat.le_of_ble_eq_true rfl, Nat.le_of_ble_eq_true rfl⟩ xmm rfl rfl (Nat.le_of_ble_eq_true rfl) dX6_lend_114 (rfl : 114 + 3 = 117) rfl rfl ⟨Nat.le_of_ble_eq_true rfl, Nat.le_of_ble_eq_true rfl⟩ (fun _ _ h => h.elim) ?_ rfl
  rintro _ _ ⟨rfl, rfl⟩
  refine z_v1 ?_
  refine z_if_ne (pt := 122) C dX6_lend_117 (by decide) (rfl : 117 + 3 = 120) (fun q => mt (iI_eq0 (by omega)).2 q) (iI_eq0 (by omega)).1 (fun c8 => ?_) (fun c8 => ?_)
  rotate_left
  · exact absurd c8 (by omega)
  have ht40 : t < 40 := k3.2.2.2
  obtain ⟨o, ho⟩ : ∃ o : Nat, V 3 c = (o : Int) := ⟨(V 3 c).toNat, by omega⟩
  refine z_aload_n C 3 rfl rfl dX6_lend_122 (rfl : 122 + 1 = 123) ?_
  refine z_get C xmm rfl iX6_lend_X6 15 (by decide) lX6_lend_f48 rfl rfl dX6_lend_123 (rfl : 123 + 3 = 126) ?_
  refine z_aload_n C 3 rfl rfl dX6_lend_126 (rfl : 126 + 1 = 127) ?_
  refine z_get C xmm rfl iX6_lend_X6 21 (by decide) lX6_lend_f85 rfl rfl dX6_lend_127 (rfl : 127 + 3 = 130) ?_
  refine z_topi (y := iI ((t : Int))) (congrArg iI hw.1.2.2) ?_
  refine z_iload_n C 4 rfl rfl dX6_lend_130 (rfl : 130 + 1 = 131) ?_
  refine z_iast C xmm_15 ⟨by omega, by omega⟩ (by omega) dX6_lend_131 (rfl : 131 + 1 = 132) (xms_15 (i := t)) ?_
  refine z_aload_n C 3 rfl rfl dX6_lend_132 (rfl : 132 + 1 = 133) ?_
  refine z_get C xmm rfl iX6_lend_X6 16 (by decide) lX6_lend_f51 rfl rfl dX6_lend_133 (rfl : 133 + 3 = 136) ?_
  refine z_aload_n C 3 rfl rfl dX6_lend_136 (rfl : 136 + 1 = 137) ?_
  refine z_get C xmm rfl iX6_lend_X6 21 (by decide) lX6_lend_f85 rfl rfl dX6_lend_137 (rfl : 137 + 3 = 140) ?_
  refine z_topi (y := iI ((t : Int))) (congrArg iI hw.1.2.2) ?_
  refine z_iload_n C 5 rfl rfl dX6_lend_140 (rfl : 140 + 1 = 141) ?_
  refine z_iast C xmm_16 ⟨by omega, by omega⟩ (by omega) dX6_lend_141 (rfl : 141 + 1 = 142) (xms_16 (i := t)) ?_
  refine z_aload_n C 3 rfl rfl dX6_lend_142 (rfl : 142 + 1 = 143) ?_
  refine z_get C xmm rfl iX6_lend_X6 17 (by decide) lX6_lend_f54 rfl rfl dX6_lend_143 (rfl : 143 + 3 = 146) ?_
  refine z_aload_n C 3 rfl rfl dX6_lend_146 (rfl : 146 + 1 = 147) ?_
  refine z_get C xmm rfl iX6_lend_X6 21 (by decide) lX6_lend_f85 rfl rfl dX6_lend_147 (rfl : 147 + 3 = 150) ?_
  refine z_topi (y := iI ((t : Int))) (congrArg iI hw.1.2.2) ?_
  refine z_aload_n C 3 rfl rfl dX6_lend_150 (rfl : 150 + 1 = 151) ?_
  refine z_get C xmm rfl iX6_lend_X6 9 (by decide) lX6_lend_f111 rfl rfl dX6_lend_151 (rfl : 151 + 3 = 154) ?_
  refine z_topi (y := iI ((V 9 0))) (congrArg iI rfl) ?_
  refine z_iload_n C 6 rfl rfl dX6_lend_154 (rfl : 154 + 1 = 155) ?_
  refine z_iadd C dX6_lend_155 (rfl : 155 + 1 = 156) rfl ?_
  refine z_iast C xmm_17 ⟨by omega, by omega⟩ (by omega) dX6_lend_156 (rfl : 156 + 1 = 157) (xms_17 (i := t)) ?_
  refine z_aload_n C 3 rfl rfl dX6_lend_157 (rfl : 157 + 1 = 158) ?_
  refine z_get C xmm rfl iX6_lend_X6 18 (by decide) lX6_lend_f57 rfl rfl dX6_lend_158 (rfl : 158 + 3 = 161) ?_
  refine z_aload_n C 3 rfl rfl dX6_lend_161 (rfl : 161 + 1 = 162) ?_
  refine z_get C xmm rfl iX6_lend_X6 21 (by decide) lX6_lend_f85 rfl rfl dX6_lend_162 (rfl : 162 + 3 = 165) ?_
  refine z_topi (y := iI ((t : Int))) (congrArg iI hw.1.2.2) ?_
  refine z_iload C 7 rfl dX6_lend_165 (rfl : 165 + 2 = 167) ?_
  refine z_iast C xmm_18 ⟨by omega, by omega⟩ (by omega) dX6_lend_167 (rfl : 167 + 1 = 168) (xms_18 (i := t)) ?_
  refine z_aload_n C 3 rfl rfl dX6_lend_168 (rfl : 168 + 1 = 169) ?_
  refine z_get C xmm rfl iX6_lend_X6 22 (by decide) lX6_lend_f66 rfl rfl dX6_lend_169 (rfl : 169 + 3 = 172) ?_
  refine z_iload_n C 5 rfl rfl dX6_lend_172 (rfl : 172 + 1 = 173) ?_
  refine z_dup2 C rfl rfl dX6_lend_173 (rfl : 173 + 1 = 174) ?_
  refine z_iald (x := iI (V 22 (h))) C xmm_22 ⟨by omega, by omega⟩ (by omega) rfl dX6_lend_174 (rfl : 174 + 1 = 175) ?_
  refine z_iload C 7 rfl dX6_lend_175 (rfl : 175 + 2 = 177) ?_
  refine z_isub C dX6_lend_177 (rfl : 177 + 1 = 178) rfl ?_
  refine z_iast C xmm_22 ⟨by omega, by omega⟩ (by omega) dX6_lend_178 (rfl : 178 + 1 = 179) (xms_22 (i := h)) ?_
  refine z_aload_n C 3 rfl rfl dX6_lend_179 (rfl : 179 + 1 = 180) ?_
  refine z_get C xmm rfl iX6_lend_X6 23 (by decide) lX6_lend_f69 rfl rfl dX6_lend_180 (rfl : 180 + 3 = 183) ?_
  refine z_iload_n C 5 rfl rfl dX6_lend_183 (rfl : 183 + 1 = 184) ?_
  refine z_dup2 C rfl rfl dX6_lend_184 (rfl : 184 + 1 = 185) ?_
  refine z_iald (x := iI (V 23 (h))) C xmm_23 ⟨by omega, by omega⟩ (by omega) rfl dX6_lend_185 (rfl : 185 + 1 = 186) ?_
  refine z_iload C 7 rfl dX6_lend_186 (rfl : 186 + 2 = 188) ?_
  refine z_iadd C dX6_lend_188 (rfl : 188 + 1 = 189) rfl ?_
  refine z_iast C xmm_23 ⟨by omega, by omega⟩ (by omega) dX6_lend_189 (rfl : 189 + 1 = 190) (xms_23 (i := h)) ?_
  refine z_aload_n C 3 rfl rfl dX6_lend_190 (rfl : 190 + 1 = 191) ?_
  refine z_get C xmm rfl iX6_lend_X6 4 (by decide) lX6_lend_f23 rfl rfl dX6_lend_191 (rfl : 191 + 3 = 194) ?_
  refine z_iload_n C 4 rfl rfl dX6_lend_194 (rfl : 194 + 1 = 195) ?_
  refine z_iload_n C 5 rfl rfl dX6_lend_195 (rfl : 195 + 1 = 196) ?_
  refine z_iast C xmm_4 ⟨by omega, by omega⟩ (by omega) dX6_lend_196 (rfl : 196 + 1 = 197) (xms_4 (i := c)) ?_
  refine z_aload_n C 3 rfl rfl dX6_lend_197 (rfl : 197 + 1 = 198) ?_
  refine z_iload_n C 5 rfl rfl dX6_lend_198 (rfl : 198 + 1 = 199) ?_
  refine z_aload_n C 3 rfl rfl dX6_lend_199 (rfl : 199 + 1 = 200) ?_
  refine z_get C xmm rfl iX6_lend_X6 3 (by decide) lX6_lend_f20 rfl rfl dX6_lend_200 (rfl : 200 + 3 = 203) ?_
  refine z_iload_n C 4 rfl rfl dX6_lend_203 (rfl : 203 + 1 = 204) ?_
  refine z_iald (x := iI (V 3 (c))) C xmm_3 ⟨by omega, by omega⟩ (by omega) rfl dX6_lend_204 (rfl : 204 + 1 = 205) ?_
  rw [ho]
  refine z_callV C 0 0 (c_X6_gets (V := nsLend (up2 V 25 0 0) t c h d pl) (m := m) (h := h) (o := o) hw.1.2.1 (by omega) hh (by omega) hw.2.2.2.2.2.2.2.2.1.1) gX6_lend_X6_gets rfl hd45_X6_gets ⟨Nat.le_of_ble_eq_true rfl, Nat.le_of_ble_eq_true rfl⟩ xmm rfl rfl (Nat.le_of_ble_eq_true rfl) dX6_lend_205 (rfl : 205 + 3 = 208) rfl rfl ⟨Nat.le_of_ble_eq_true rfl, Nat.le_of_ble_eq_true rfl⟩ (fun _ _ h => h.elim) ?_ rfl
  rintro _ _ ⟨rfl, f, hf, rfl⟩
  refine z_v0 ?_
  refine z_aload_n C 3 rfl rfl dX6_lend_208 (rfl : 208 + 1 = 209) ?_
  refine z_dup C rfl dX6_lend_209 (rfl : 209 + 1 = 210) ?_
  refine z_get C xmm rfl iX6_lend_X6 21 (by decide) lX6_lend_f85 rfl rfl dX6_lend_210 (rfl : 210 + 3 = 213) ?_
  refine z_topi (y := iI ((t : Int))) (congrArg iI hw.1.2.2) ?_
  refine z_iconst C dX6_lend_213 (rfl : 213 + 1 = 214) ?_
  refine z_iadd C dX6_lend_214 (rfl : 214 + 1 = 215) rfl ?_
  refine z_put C tyX6 tyX6_ok nmX6 xmm rfl iX6_lend_X6 21 (by decide) lX6_lend_f85 rfl rfl rfl rfl rfl (Nat.le_of_ble_eq_true rfl) dX6_lend_215 (rfl : 215 + 3 = 218) xms_21 ?_
  refine z_aload_n C 3 rfl rfl dX6_lend_218 (rfl : 218 + 1 = 219) ?_
  refine z_get C xmm rfl iX6_lend_X6 21 (by decide) lX6_lend_f85 rfl rfl dX6_lend_219 (rfl : 219 + 3 = 222) ?_
  refine z_iconst C dX6_lend_222 (rfl : 222 + 1 = 223) ?_
  refine z_isub C dX6_lend_223 (rfl : 223 + 1 = 224) rfl ?_
  refine z_topi (y := iI (t : Int)) (congrArg iI (by simp only [up2, va_up, if_true]; omega)) ?_
  refine z_iret C rfl dX6_lend_224 (hp _ _ (.inl ⟨k2, k3, rfl, f, ?_, rfl⟩)) (by decide) (by decide)
  rw [ho]
  exact hf
theorem tl_X6_lend (C : Cx κ cX6_lend 8 wsX6_lend RX6 (some .int) rmX6_lend G base) {c h : Nat} {d pl b6 : Int} (hw : WFV V n m t) (hc : c < n) (hh : h < 5) (h6 : b6 = 0 ∧ ¬ ((1 ≤ d ∧ d ≤ 100) ∧ 0 ≤ pl ∧ pl ≤ 50) ∨ b6 = 1 ∧ ((1 ≤ d ∧ d ≤ 100) ∧ 0 ≤ pl ∧ pl ≤ 50)) (hm : mc = 0 ∧ ms = 0)
    (hp : ∀ v w, ((((1 ≤ d ∧ d ≤ 100) ∧ 0 ≤ pl ∧ pl ≤ 50) ∧ okLend V t c h pl ∧ v = some (.int (iI (t : Int))) ∧ ∃ f : Nat → Int, gtL V m h (V 3 c).toNat f ∧ w = xm G q (up2 (va_up (nsLend (up2 V 25 0 0) t c h d pl) 13 f) 21 0 (t + 1)) ++ Y) ∨ (¬ ((1 ≤ d ∧ d ≤ 100) ∧ 0 ≤ pl ∧ pl ≤ 50) ∧ flQ G q V Y 2 v w) ∨ (((1 ≤ d ∧ d ≤ 100) ∧ 0 ≤ pl ∧ pl ≤ 50) ∧ ¬ okLend V t c h pl ∧ flQ G q V Y 3 v w)) → post v w) : Z κ 8 G base mc ms post exc 0 0 50 [(6, .int (iI b6)), (5, .int (iI 1)), (0, .ref (q 30)), (1, .int (iI (c : Int))), (2, .int (iI (h : Int))), (3, .int (iI d)), (4, .int (iI pl))] [] (xm G q V ++ Y) := by
  have hb : n ≤ 40 ∧ m ≤ 60 ∧ t ≤ 40 ∧ 1 ≤ n := by have := hw.2.1; omega
  have r1 := hw.2.2.2.2.2.1 c hc
  refine z_iload C 1 rfl dX6_lend_50 (rfl : 50 + 2 = 52) ?_
  refine z_if_eq (pt := 104) C dX6_lend_52 (by decide) (rfl : 52 + 3 = 55) (iI_eq0 (by omega)).1 (fun q => mt (iI_eq0 (by omega)).2 q) (fun c1 => ?_) (fun c1 => ?_)
  · exact absurd c1 (by omega)
  refine z_aload_n C 2 rfl rfl dX6_lend_55 (rfl : 55 + 1 = 56) ?_
  refine z_get C xmm rfl iX6_lend_X6 3 (by decide) lX6_lend_f20 rfl rfl dX6_lend_56 (rfl : 56 + 3 = 59) ?_
  refine z_iload_n C 3 rfl rfl dX6_lend_59 (rfl : 59 + 1 = 60) ?_
  refine z_iald (x := iI (V 3 (c))) C xmm_3 ⟨by omega, by omega⟩ (by omega) rfl dX6_lend_60 (rfl : 60 + 1 = 61) ?_
  refine z_iload_n C 4 rfl rfl dX6_lend_61 (rfl : 61 + 1 = 62) ?_
  refine z_icmp_eq (pt := 104) C dX6_lend_62 (by decide) (rfl : 62 + 3 = 65) (iI_eq (by omega) (by omega)).1 (fun q => mt (iI_eq (by omega) (by omega)).2 q) (fun c2 => ?_) (fun c2 => ?_)
  · refine z_iconst C dX6_lend_104 (rfl : 104 + 1 = 105) ?_
    exact tl2_X6_lend C hw hc hh h6 (.inl ⟨rfl, fun h => h.1 c2⟩) hm hp
  refine z_aload_n C 2 rfl rfl dX6_lend_65 (rfl : 65 + 1 = 66) ?_
  refine z_get C xmm rfl iX6_lend_X6 4 (by decide) lX6_lend_f23 rfl rfl dX6_lend_66 (rfl : 66 + 3 = 69) ?_
  refine z_iload_n C 3 rfl rfl dX6_lend_69 (rfl : 69 + 1 = 70) ?_
  refine z_iald (x := iI (V 4 (c))) C xmm_4 ⟨by omega, by omega⟩ (by omega) rfl dX6_lend_70 (rfl : 70 + 1 = 71) ?_
  refine z_aload_n C 2 rfl rfl dX6_lend_71 (rfl : 71 + 1 = 72) ?_
  refine z_get C xmm rfl iX6_lend_X6 3 (by decide) lX6_lend_f20 rfl rfl dX6_lend_72 (rfl : 72 + 3 = 75) ?_
  refine z_iload_n C 3 rfl rfl dX6_lend_75 (rfl : 75 + 1 = 76) ?_
  refine z_iald (x := iI (V 3 (c))) C xmm_3 ⟨by omega, by omega⟩ (by omega) rfl dX6_lend_76 (rfl : 76 + 1 = 77) ?_
  refine z_icmp_ne (pt := 104) C dX6_lend_77 (by decide) (rfl : 77 + 3 = 80) (fun q => mt (iI_eq (by omega) (by omega)).2 q) (iI_eq (by omega) (by omega)).1 (fun c3 => ?_) (fun c3 => ?_)
  · refine z_iconst C dX6_lend_104 (rfl : 104 + 1 = 105) ?_
    exact tl2_X6_lend C hw hc hh h6 (.inl ⟨rfl, fun h => c3 h.2.1⟩) hm hp
  refine z_aload_n C 2 rfl rfl dX6_lend_80 (rfl : 80 + 1 = 81) ?_
  refine z_get C xmm rfl iX6_lend_X6 22 (by decide) lX6_lend_f66 rfl rfl dX6_lend_81 (rfl : 81 + 3 = 84) ?_
  refine z_iload_n C 4 rfl rfl dX6_lend_84 (rfl : 84 + 1 = 85) ?_
  refine z_iald (x := iI (V 22 (h))) C xmm_22 ⟨by omega, by omega⟩ (by omega) rfl dX6_lend_85 (rfl : 85 + 1 = 86) ?_
  refine z_iload C 6 rfl dX6_lend_86 (rfl : 86 + 2 = 88) ?_
  refine z_icmp_lt (pt := 104) C dX6_lend_88 (by decide) (rfl : 88 + 3 = 91) (Iff.rfl).1 (fun q => mt (Iff.rfl).2 q) (fun c4 => ?_) (fun c4 => ?_)
  · refine z_iconst C dX6_lend_104 (rfl : 104 + 1 = 105) ?_
    exact tl2_X6_lend C hw hc hh h6 (.inl ⟨rfl, fun h => h.2.2.1 c4⟩) hm hp
  refine z_aload_n C 2 rfl rfl dX6_lend_91 (rfl : 91 + 1 = 92) ?_
  refine z_get C xmm rfl iX6_lend_X6 21 (by decide) lX6_lend_f85 rfl rfl dX6_lend_92 (rfl : 92 + 3 = 95) ?_
  refine z_topi (y := iI ((t : Int))) (congrArg iI hw.1.2.2) ?_
  refine z_bipush (c := 40) C (by decide) dX6_lend_95 (rfl : 95 + 2 = 97) ?_
  refine z_icmp_ge (pt := 104) C dX6_lend_97 (by decide) (rfl : 97 + 3 = 100) (iI_le (by omega) (by omega)).1 (fun q => mt (iI_le (by omega) (by omega)).2 q) (fun c5 => ?_) (fun c5 => ?_)
  · refine z_iconst C dX6_lend_104 (rfl : 104 + 1 = 105) ?_
    exact tl2_X6_lend C hw hc hh h6 (.inl ⟨rfl, fun h => absurd h.2.2.2 (by omega)⟩) hm hp
  refine z_iconst C dX6_lend_100 (rfl : 100 + 1 = 101) ?_
  refine z_goto (pc' := 105) C dX6_lend_101 (by decide) ?_
  exact tl2_X6_lend C hw hc hh h6 (.inr ⟨rfl, c2, c3, c4, by omega⟩) hm hp
theorem c_X6_lend {c h d pl : Int} (hc : -2147483648 ≤ c ∧ c < 2147483648) (hh : -2147483648 ≤ h ∧ h < 2147483648) (hd : -2147483648 ≤ d ∧ d < 2147483648) (hpl : -2147483648 ≤ pl ∧ pl < 2147483648) (hw : WFV V n m t) : MC l yX6_lend wsX6_lend rmX6_lend G base [.ref (q 30), .int (iI c), .int (iI h), .int (iI d), .int (iI pl)] (xm G q V ++ Y) (fun v w => (((0 ≤ c ∧ c < n) ∧ 0 ≤ h ∧ h < 5) ∧ ((1 ≤ d ∧ d ≤ 100) ∧ 0 ≤ pl ∧ pl ≤ 50) ∧ okLend V t c h pl ∧ v = some (.int (iI (t : Int))) ∧ ∃ f : Nat → Int, gtL V m h.toNat (V 3 c.toNat).toNat f ∧ w = xm G q (up2 (va_up (nsLend (up2 V 25 0 0) t c.toNat h.toNat d pl) 13 f) 21 0 (t + 1)) ++ Y) ∨ (¬ ((0 ≤ c ∧ c < n) ∧ 0 ≤ h ∧ h < 5) ∧ flQ G q V Y 1 v w) ∨ (((0 ≤ c ∧ c < n) ∧ 0 ≤ h ∧ h < 5) ∧ ¬ ((1 ≤ d ∧ d ≤ 100) ∧ 0 ≤ pl ∧ pl ≤ 50) ∧ flQ G q V Y 2 v w) ∨ (((0 ≤ c ∧ c < n) ∧ 0 ≤ h ∧ h < 5) ∧ ((1 ≤ d ∧ d ≤ 100) ∧ 0 ≤ pl ∧ pl ≤ 50) ∧ ¬ okLend V t c h pl ∧ flQ G q V Y 3 v w)) (fun _ _ => False) := by
  refine MC.of (cc := cX6_lend) (by decide) rfl rfl (Nat.le_of_ble_eq_true rfl) ?_
  intro κ C hT hl hnm
  have hb : n ≤ 40 ∧ m ≤ 60 ∧ t ≤ 40 ∧ 1 ≤ n := by have := hw.2.1; omega
  refine z_sub [0, 1, 2, 3, 4] (lv' := [(0, .ref (q 30)), (1, .int (iI c)), (2, .int (iI h)), (3, .int (iI d)), (4, .int (iI pl))]) rfl ?_
  refine z_aload_n C 0 rfl rfl dX6_lend_0 (rfl : 0 + 1 = 1) ?_
  refine z_iload_n C 1 rfl rfl dX6_lend_1 (rfl : 1 + 1 = 2) ?_
  refine z_callV C 0 0 (c_X6_isCopy hc hw.1.1 (by omega)) gX6_lend_X6_isCopy rfl hd45_X6_isCopy ⟨Nat.le_of_ble_eq_true rfl, Nat.le_of_ble_eq_true rfl⟩ xmm rfl rfl (Nat.le_of_ble_eq_true rfl) dX6_lend_2 (rfl : 2 + 3 = 5) rfl rfl ⟨Nat.le_of_ble_eq_true rfl, Nat.le_of_ble_eq_true rfl⟩ (fun _ _ h => h.elim) ?_ rfl
  rintro _ _ ⟨rfl, rfl⟩
  refine z_v1 ?_
  by_cases k1 : 0 ≤ c ∧ c < n
  rotate_left
  · rw [b01_f k1]
    refine z_if_eq (pt := 19) C dX6_lend_5 (by decide) (rfl : 5 + 3 = 8) (iI_eq0 (by omega)).1 (fun q => mt (iI_eq0 (by omega)).2 q) (fun c1 => ?_) (fun c1 => ?_)
    rotate_left
    · exact absurd rfl c1
    refine z_iconst C dX6_lend_19 (rfl : 19 + 1 = 20) ?_
    refine z_istore (lv' := [(5, _), (0, _), (1, _), (2, _), (3, _), (4, _)]) C dX6_lend_20 (rfl : 20 + 2 = 22) (by decide) rfl ?_
    refine z_iload_n C 4 rfl rfl dX6_lend_22 (rfl : 22 + 1 = 23) ?_
    refine z_iconst C dX6_lend_23 (rfl : 23 + 1 = 24) ?_
    refine z_bipush (c := 100) C (by decide) dX6_lend_24 (rfl : 24 + 2 = 26) ?_
    refine z_callS C 0 0 (c_X6_in hd (by omega) (by omega)) gX6_lend_X6_in rfl hd45_X6_in ⟨Nat.le_of_ble_eq_true rfl, Nat.le_of_ble_eq_true rfl⟩ rfl (Nat.le_of_ble_eq_true rfl) dX6_lend_26 (rfl : 26 + 3 = 29) rfl rfl ⟨Nat.le_of_ble_eq_true rfl, Nat.le_of_ble_eq_true rfl⟩ (fun _ _ h => h.elim) ?_ rfl
    rintro _ _ ⟨rfl, rfl⟩
    refine z_v1 ?_
    have b1 := b01_01 (1 ≤ d ∧ d ≤ 100)
    refine z_if_eq (pt := 47) C dX6_lend_29 (by decide) (rfl : 29 + 3 = 32) (iI_eq0 (by omega)).1 (fun q => mt (iI_eq0 (by omega)).2 q) (fun c7 => ?_) (fun c7 => ?_)
    · refine z_iconst C dX6_lend_47 (rfl : 47 + 1 = 48) ?_
      refine z_istore (lv' := [(6, _), (5, _), (0, _), (1, _), (2, _), (3, _), (4, _)]) C dX6_lend_48 (rfl : 48 + 2 = 50) (by decide) rfl ?_
      refine z_iload C 1 rfl dX6_lend_50 (rfl : 50 + 2 = 52) ?_
      refine z_if_eq (pt := 104) C dX6_lend_52 (by decide) (rfl : 52 + 3 = 55) (iI_eq0 (by omega)).1 (fun q => mt (iI_eq0 (by omega)).2 q) (fun c6 => ?_) (fun c6 => ?_)
      rotate_left
      · exact absurd rfl c6
      refine z_iconst C dX6_lend_104 (rfl : 104 + 1 = 105) ?_
      refine z_istore (lv' := [(7, _), (6, _), (5, _), (0, _), (1, _), (2, _), (3, _), (4, _)]) C dX6_lend_105 (rfl : 105 + 2 = 107) (by decide) rfl ?_
      refine z_aload_n C 3 rfl rfl dX6_lend_107 (rfl : 107 + 1 = 108) ?_
      refine z_iload C 2 rfl dX6_lend_108 (rfl : 108 + 2 = 110) ?_
      refine z_iload C 1 rfl dX6_lend_110 (rfl : 110 + 2 = 112) ?_
      refine z_iload C 0 rfl dX6_lend_112 (rfl : 112 + 2 = 114) ?_
      refine z_callV C 0 0 (c_goes_1 (.inl rfl) (.inl rfl)) gX6_lend_X6_goes rfl hd45_X6_goes ⟨Nat.le_of_ble_eq_true rfl, Nat.le_of_ble_eq_true rfl⟩ xmm rfl rfl (Nat.le_of_ble_eq_true rfl) dX6_lend_114 (rfl : 114 + 3 = 117) rfl rfl ⟨Nat.le_of_ble_eq_true rfl, Nat.le_of_ble_eq_true rfl⟩ (fun _ _ h => h.elim) ?_ rfl
      rintro _ _ ⟨rfl, rfl⟩
      refine z_v1 ?_
      refine z_if_ne (pt := 122) C dX6_lend_117 (by decide) (rfl : 117 + 3 = 120) (fun q => mt (iI_eq0 (by omega)).2 q) (iI_eq0 (by omega)).1 (fun c8 => ?_) (fun c8 => ?_)
      · exact absurd rfl c8
      refine z_iconst C dX6_lend_120 (rfl : 120 + 1 = 121) ?_
      exact z_iret C rfl dX6_lend_121 (.inr (.inl ⟨fun h => k1 (by omega), rfl, rfl⟩)) (by decide) (by decide)
    refine z_iload C 5 rfl dX6_lend_32 (rfl : 32 + 2 = 34) ?_
    refine z_iconst C dX6_lend_34 (rfl : 34 + 1 = 35) ?_
    refine z_bipush (c := 50) C (by decide) dX6_lend_35 (rfl : 35 + 2 = 37) ?_
    refine z_callS C 0 0 (c_X6_in hpl (by omega) (by omega)) gX6_lend_X6_in rfl hd45_X6_in ⟨Nat.le_of_ble_eq_true rfl, Nat.le_of_ble_eq_true rfl⟩ rfl (Nat.le_of_ble_eq_true rfl) dX6_lend_37 (rfl : 37 + 3 = 40) rfl rfl ⟨Nat.le_of_ble_eq_true rfl, Nat.le_of_ble_eq_true rfl⟩ (fun _ _ h => h.elim) ?_ rfl
    rintro _ _ ⟨rfl, rfl⟩
    refine z_v1 ?_
    have b2 := b01_01 (0 ≤ pl ∧ pl ≤ 50)
    refine z_if_eq (pt := 47) C dX6_lend_40 (by decide) (rfl : 40 + 3 = 43) (iI_eq0 (by omega)).1 (fun q => mt (iI_eq0 (by omega)).2 q) (fun c7 => ?_) (fun c7 => ?_)
    · refine z_iconst C dX6_lend_47 (rfl : 47 + 1 = 48) ?_
      refine z_istore (lv' := [(6, _), (5, _), (0, _), (1, _), (2, _), (3, _), (4, _)]) C dX6_lend_48 (rfl : 48 + 2 = 50) (by decide) rfl ?_
      refine z_iload C 1 rfl dX6_lend_50 (rfl : 50 + 2 = 52) ?_
      refine z_if_eq (pt := 104) C dX6_lend_52 (by decide) (rfl : 52 + 3 = 55) (iI_eq0 (by omega)).1 (fun q => mt (iI_eq0 (by omega)).2 q) (fun c6 => ?_) (fun c6 => ?_)
      rotate_left
      · exact absurd rfl c6
      refine z_iconst C dX6_lend_104 (rfl : 104 + 1 = 105) ?_
      refine z_istore (lv' := [(7, _), (6, _), (5, _), (0, _), (1, _), (2, _), (3, _), (4, _)]) C dX6_lend_105 (rfl : 105 + 2 = 107) (by decide) rfl ?_
      refine z_aload_n C 3 rfl rfl dX6_lend_107 (rfl : 107 + 1 = 108) ?_
      refine z_iload C 2 rfl dX6_lend_108 (rfl : 108 + 2 = 110) ?_
      refine z_iload C 1 rfl dX6_lend_110 (rfl : 110 + 2 = 112) ?_
      refine z_iload C 0 rfl dX6_lend_112 (rfl : 112 + 2 = 114) ?_
      refine z_callV C 0 0 (c_goes_1 (.inl rfl) (.inl rfl)) gX6_lend_X6_goes rfl hd45_X6_goes ⟨Nat.le_of_ble_eq_true rfl, Nat.le_of_ble_eq_true rfl⟩ xmm rfl rfl (Nat.le_of_ble_eq_true rfl) dX6_lend_114 (rfl : 114 + 3 = 117) rfl rfl ⟨Nat.le_of_ble_eq_true rfl, Nat.le_of_ble_eq_true rfl⟩ (fun _ _ h => h.elim) ?_ rfl
      rintro _ _ ⟨rfl, rfl⟩
      refine z_v1 ?_
      refine z_if_ne (pt := 122) C dX6_lend_117 (by decide) (rfl : 117 + 3 = 120) (fun q => mt (iI_eq0 (by omega)).2 q) (iI_eq0 (by omega)).1 (fun c8 => ?_) (fun c8 => ?_)
      · exact absurd rfl c8
      refine z_iconst C dX6_lend_120 (rfl : 120 + 1 = 121) ?_
      exact z_iret C rfl dX6_lend_121 (.inr (.inl ⟨fun h => k1 (by omega), rfl, rfl⟩)) (by decide) (by decide)
    refine z_iconst C dX6_lend_43 (rfl : 43 + 1 = 44) ?_
    refine z_goto (pc' := 48) C dX6_lend_44 (by decide) ?_
    refine z_istore (lv' := [(6, _), (5, _), (0, _), (1, _), (2, _), (3, _), (4, _)]) C dX6_lend_48 (rfl : 48 + 2 = 50) (by decide) rfl ?_
    refine z_iload C 1 rfl dX6_lend_50 (rfl : 50 + 2 = 52) ?_
    refine z_if_eq (pt := 104) C dX6_lend_52 (by decide) (rfl : 52 + 3 = 55) (iI_eq0 (by omega)).1 (fun q => mt (iI_eq0 (by omega)).2 q) (fun c6 => ?_) (fun c6 => ?_)
    rotate_left
    · exact absurd rfl c6
    refine z_iconst C dX6_lend_104 (rfl : 104 + 1 = 105) ?_
    refine z_istore (lv' := [(7, _), (6, _), (5, _), (0, _), (1, _), (2, _), (3, _), (4, _)]) C dX6_lend_105 (rfl : 105 + 2 = 107) (by decide) rfl ?_
    refine z_aload_n C 3 rfl rfl dX6_lend_107 (rfl : 107 + 1 = 108) ?_
    refine z_iload C 2 rfl dX6_lend_108 (rfl : 108 + 2 = 110) ?_
    refine z_iload C 1 rfl dX6_lend_110 (rfl : 110 + 2 = 112) ?_
    refine z_iload C 0 rfl dX6_lend_112 (rfl : 112 + 2 = 114) ?_
    refine z_callV C 0 0 (c_goes_1 (.inr rfl) (.inl rfl)) gX6_lend_X6_goes rfl hd45_X6_goes ⟨Nat.le_of_ble_eq_true rfl, Nat.le_of_ble_eq_true rfl⟩ xmm rfl rfl (Nat.le_of_ble_eq_true rfl) dX6_lend_114 (rfl : 114 + 3 = 117) rfl rfl ⟨Nat.le_of_ble_eq_true rfl, Nat.le_of_ble_eq_true rfl⟩ (fun _ _ h => h.elim) ?_ rfl
    rintro _ _ ⟨rfl, rfl⟩
    refine z_v1 ?_
    refine z_if_ne (pt := 122) C dX6_lend_117 (by decide) (rfl : 117 + 3 = 120) (fun q => mt (iI_eq0 (by omega)).2 q) (iI_eq0 (by omega)).1 (fun c8 => ?_) (fun c8 => ?_)
    · exact absurd rfl c8
    refine z_iconst C dX6_lend_120 (rfl : 120 + 1 = 121) ?_
    exact z_iret C rfl dX6_lend_121 (.inr (.inl ⟨fun h => k1 (by omega), rfl, rfl⟩)) (by decide) (by decide)
  rw [b01_t k1]
  refine z_if_eq (pt := 19) C dX6_lend_5 (by decide) (rfl : 5 + 3 = 8) (iI_eq0 (by omega)).1 (fun q => mt (iI_eq0 (by omega)).2 q) (fun c1 => ?_) (fun c1 => ?_)
  · exact absurd c1 (by omega)
  refine z_iload_n C 2 rfl rfl dX6_lend_8 (rfl : 8 + 1 = 9) ?_
  refine z_callS C 0 0 (c_X6_isHouse hh) gX6_lend_X6_isHouse rfl hd45_X6_isHouse ⟨Nat.le_of_ble_eq_true rfl, Nat.le_of_ble_eq_true rfl⟩ rfl (Nat.le_of_ble_eq_true rfl) dX6_lend_9 (rfl : 9 + 3 = 12) rfl rfl ⟨Nat.le_of_ble_eq_true rfl, Nat.le_of_ble_eq_true rfl⟩ (fun _ _ h => h.elim) ?_ rfl
  rintro _ _ ⟨rfl, rfl⟩
  refine z_v1 ?_
  by_cases k2 : 0 ≤ h ∧ h < 5
  rotate_left
  · rw [b01_f k2]
    refine z_if_eq (pt := 19) C dX6_lend_12 (by decide) (rfl : 12 + 3 = 15) (iI_eq0 (by omega)).1 (fun q => mt (iI_eq0 (by omega)).2 q) (fun c1 => ?_) (fun c1 => ?_)
    rotate_left
    · exact absurd rfl c1
    refine z_iconst C dX6_lend_19 (rfl : 19 + 1 = 20) ?_
    refine z_istore (lv' := [(5, _), (0, _), (1, _), (2, _), (3, _), (4, _)]) C dX6_lend_20 (rfl : 20 + 2 = 22) (by decide) rfl ?_
    refine z_iload_n C 4 rfl rfl dX6_lend_22 (rfl : 22 + 1 = 23) ?_
    refine z_iconst C dX6_lend_23 (rfl : 23 + 1 = 24) ?_
    refine z_bipush (c := 100) C (by decide) dX6_lend_24 (rfl : 24 + 2 = 26) ?_
    refine z_callS C 0 0 (c_X6_in hd (by omega) (by omega)) gX6_lend_X6_in rfl hd45_X6_in ⟨Nat.le_of_ble_eq_true rfl, Nat.le_of_ble_eq_true rfl⟩ rfl (Nat.le_of_ble_eq_true rfl) dX6_lend_26 (rfl : 26 + 3 = 29) rfl rfl ⟨Nat.le_of_ble_eq_true rfl, Nat.le_of_ble_eq_true rfl⟩ (fun _ _ h => h.elim) ?_ rfl
    rintro _ _ ⟨rfl, rfl⟩
    refine z_v1 ?_
    have b1 := b01_01 (1 ≤ d ∧ d ≤ 100)
    refine z_if_eq (pt := 47) C dX6_lend_29 (by decide) (rfl : 29 + 3 = 32) (iI_eq0 (by omega)).1 (fun q => mt (iI_eq0 (by omega)).2 q) (fun c7 => ?_) (fun c7 => ?_)
    · refine z_iconst C dX6_lend_47 (rfl : 47 + 1 = 48) ?_
      refine z_istore (lv' := [(6, _), (5, _), (0, _), (1, _), (2, _), (3, _), (4, _)]) C dX6_lend_48 (rfl : 48 + 2 = 50) (by decide) rfl ?_
      refine z_iload C 1 rfl dX6_lend_50 (rfl : 50 + 2 = 52) ?_
      refine z_if_eq (pt := 104) C dX6_lend_52 (by decide) (rfl : 52 + 3 = 55) (iI_eq0 (by omega)).1 (fun q => mt (iI_eq0 (by omega)).2 q) (fun c6 => ?_) (fun c6 => ?_)
      rotate_left
      · exact absurd rfl c6
      refine z_iconst C dX6_lend_104 (rfl : 104 + 1 = 105) ?_
      refine z_istore (lv' := [(7, _), (6, _), (5, _), (0, _), (1, _), (2, _), (3, _), (4, _)]) C dX6_lend_105 (rfl : 105 + 2 = 107) (by decide) rfl ?_
      refine z_aload_n C 3 rfl rfl dX6_lend_107 (rfl : 107 + 1 = 108) ?_
      refine z_iload C 2 rfl dX6_lend_108 (rfl : 108 + 2 = 110) ?_
      refine z_iload C 1 rfl dX6_lend_110 (rfl : 110 + 2 = 112) ?_
      refine z_iload C 0 rfl dX6_lend_112 (rfl : 112 + 2 = 114) ?_
      refine z_callV C 0 0 (c_goes_1 (.inl rfl) (.inl rfl)) gX6_lend_X6_goes rfl hd45_X6_goes ⟨Nat.le_of_ble_eq_true rfl, Nat.le_of_ble_eq_true rfl⟩ xmm rfl rfl (Nat.le_of_ble_eq_true rfl) dX6_lend_114 (rfl : 114 + 3 = 117) rfl rfl ⟨Nat.le_of_ble_eq_true rfl, Nat.le_of_ble_eq_true rfl⟩ (fun _ _ h => h.elim) ?_ rfl
      rintro _ _ ⟨rfl, rfl⟩
      refine z_v1 ?_
      refine z_if_ne (pt := 122) C dX6_lend_117 (by decide) (rfl : 117 + 3 = 120) (fun q => mt (iI_eq0 (by omega)).2 q) (iI_eq0 (by omega)).1 (fun c8 => ?_) (fun c8 => ?_)
      · exact absurd rfl c8
      refine z_iconst C dX6_lend_120 (rfl : 120 + 1 = 121) ?_
      exact z_iret C rfl dX6_lend_121 (.inr (.inl ⟨fun h => k2 (by omega), rfl, rfl⟩)) (by decide) (by decide)
    refine z_iload C 5 rfl dX6_lend_32 (rfl : 32 + 2 = 34) ?_
    refine z_iconst C dX6_lend_34 (rfl : 34 + 1 = 35) ?_
    refine z_bipush (c := 50) C (by decide) dX6_lend_35 (rfl : 35 + 2 = 37) ?_
    refine z_callS C 0 0 (c_X6_in hpl (by omega) (by omega)) gX6_lend_X6_in rfl hd45_X6_in ⟨Nat.le_of_ble_eq_true rfl, Nat.le_of_ble_eq_true rfl⟩ rfl (Nat.le_of_ble_eq_true rfl) dX6_lend_37 (rfl : 37 + 3 = 40) rfl rfl ⟨Nat.le_of_ble_eq_true rfl, Nat.le_of_ble_eq_true rfl⟩ (fun _ _ h => h.elim) ?_ rfl
    rintro _ _ ⟨rfl, rfl⟩
    refine z_v1 ?_
    have b2 := b01_01 (0 ≤ pl ∧ pl ≤ 50)
    refine z_if_eq (pt := 47) C dX6_lend_40 (by decide) (rfl : 40 + 3 = 43) (iI_eq0 (by omega)).1 (fun q => mt (iI_eq0 (by omega)).2 q) (fun c7 => ?_) (fun c7 => ?_)
    · refine z_iconst C dX6_lend_47 (rfl : 47 + 1 = 48) ?_
      refine z_istore (lv' := [(6, _), (5, _), (0, _), (1, _), (2, _), (3, _), (4, _)]) C dX6_lend_48 (rfl : 48 + 2 = 50) (by decide) rfl ?_
      refine z_iload C 1 rfl dX6_lend_50 (rfl : 50 + 2 = 52) ?_
      refine z_if_eq (pt := 104) C dX6_lend_52 (by decide) (rfl : 52 + 3 = 55) (iI_eq0 (by omega)).1 (fun q => mt (iI_eq0 (by omega)).2 q) (fun c6 => ?_) (fun c6 => ?_)
      rotate_left
      · exact absurd rfl c6
      refine z_iconst C dX6_lend_104 (rfl : 104 + 1 = 105) ?_
      refine z_istore (lv' := [(7, _), (6, _), (5, _), (0, _), (1, _), (2, _), (3, _), (4, _)]) C dX6_lend_105 (rfl : 105 + 2 = 107) (by decide) rfl ?_
      refine z_aload_n C 3 rfl rfl dX6_lend_107 (rfl : 107 + 1 = 108) ?_
      refine z_iload C 2 rfl dX6_lend_108 (rfl : 108 + 2 = 110) ?_
      refine z_iload C 1 rfl dX6_lend_110 (rfl : 110 + 2 = 112) ?_
      refine z_iload C 0 rfl dX6_lend_112 (rfl : 112 + 2 = 114) ?_
      refine z_callV C 0 0 (c_goes_1 (.inl rfl) (.inl rfl)) gX6_lend_X6_goes rfl hd45_X6_goes ⟨Nat.le_of_ble_eq_true rfl, Nat.le_of_ble_eq_true rfl⟩ xmm rfl rfl (Nat.le_of_ble_eq_true rfl) dX6_lend_114 (rfl : 114 + 3 = 117) rfl rfl ⟨Nat.le_of_ble_eq_true rfl, Nat.le_of_ble_eq_true rfl⟩ (fun _ _ h => h.elim) ?_ rfl
      rintro _ _ ⟨rfl, rfl⟩
      refine z_v1 ?_
      refine z_if_ne (pt := 122) C dX6_lend_117 (by decide) (rfl : 117 + 3 = 120) (fun q => mt (iI_eq0 (by omega)).2 q) (iI_eq0 (by omega)).1 (fun c8 => ?_) (fun c8 => ?_)
      · exact absurd rfl c8
      refine z_iconst C dX6_lend_120 (rfl : 120 + 1 = 121) ?_
      exact z_iret C rfl dX6_lend_121 (.inr (.inl ⟨fun h => k2 (by omega), rfl, rfl⟩)) (by decide) (by decide)
    refine z_iconst C dX6_lend_43 (rfl : 43 + 1 = 44) ?_
    refine z_goto (pc' := 48) C dX6_lend_44 (by decide) ?_
    refine z_istore (lv' := [(6, _), (5, _), (0, _), (1, _), (2, _), (3, _), (4, _)]) C dX6_lend_48 (rfl : 48 + 2 = 50) (by decide) rfl ?_
    refine z_iload C 1 rfl dX6_lend_50 (rfl : 50 + 2 = 52) ?_
    refine z_if_eq (pt := 104) C dX6_lend_52 (by decide) (rfl : 52 + 3 = 55) (iI_eq0 (by omega)).1 (fun q => mt (iI_eq0 (by omega)).2 q) (fun c6 => ?_) (fun c6 => ?_)
    rotate_left
    · exact absurd rfl c6
    refine z_iconst C dX6_lend_104 (rfl : 104 + 1 = 105) ?_
    refine z_istore (lv' := [(7, _), (6, _), (5, _), (0, _), (1, _), (2, _), (3, _), (4, _)]) C dX6_lend_105 (rfl : 105 + 2 = 107) (by decide) rfl ?_
    refine z_aload_n C 3 rfl rfl dX6_lend_107 (rfl : 107 + 1 = 108) ?_
    refine z_iload C 2 rfl dX6_lend_108 (rfl : 108 + 2 = 110) ?_
    refine z_iload C 1 rfl dX6_lend_110 (rfl : 110 + 2 = 112) ?_
    refine z_iload C 0 rfl dX6_lend_112 (rfl : 112 + 2 = 114) ?_
    refine z_callV C 0 0 (c_goes_1 (.inr rfl) (.inl rfl)) gX6_lend_X6_goes rfl hd45_X6_goes ⟨Nat.le_of_ble_eq_true rfl, Nat.le_of_ble_eq_true rfl⟩ xmm rfl rfl (Nat.le_of_ble_eq_true rfl) dX6_lend_114 (rfl : 114 + 3 = 117) rfl rfl ⟨Nat.le_of_ble_eq_true rfl, Nat.le_of_ble_eq_true rfl⟩ (fun _ _ h => h.elim) ?_ rfl
    rintro _ _ ⟨rfl, rfl⟩
    refine z_v1 ?_
    refine z_if_ne (pt := 122) C dX6_lend_117 (by decide) (rfl : 117 + 3 = 120) (fun q => mt (iI_eq0 (by omega)).2 q) (iI_eq0 (by omega)).1 (fun c8 => ?_) (fun c8 => ?_)
    · exact absurd rfl c8
    refine z_iconst C dX6_lend_120 (rfl : 120 + 1 = 121) ?_
    exact z_iret C rfl dX6_lend_121 (.inr (.inl ⟨fun h => k2 (by omega), rfl, rfl⟩)) (by decide) (by decide)
  rw [b01_t k2]
  refine z_if_eq (pt := 19) C dX6_lend_12 (by decide) (rfl : 12 + 3 = 15) (iI_eq0 (by omega)).1 (fun q => mt (iI_eq0 (by omega)).2 q) (fun c1 => ?_) (fun c1 => ?_)
  · exact absurd c1 (by omega)
  obtain ⟨c, rfl⟩ : ∃ i : Nat, c = (i : Int) := ⟨c.toNat, by omega⟩
  obtain ⟨h, rfl⟩ : ∃ i : Nat, h = (i : Int) := ⟨h.toNat, by omega⟩
  have r1 := hw.2.2.2.2.2.1 c (by omega)
  have fin : ∀ v w, ((((1 ≤ d ∧ d ≤ 100) ∧ 0 ≤ pl ∧ pl ≤ 50) ∧ okLend V t c h pl ∧ v = some (.int (iI (t : Int))) ∧ ∃ f : Nat → Int, gtL V m h (V 3 c).toNat f ∧ w = xm G q (up2 (va_up (nsLend (up2 V 25 0 0) t c h d pl) 13 f) 21 0 (t + 1)) ++ Y) ∨ (¬ ((1 ≤ d ∧ d ≤ 100) ∧ 0 ≤ pl ∧ pl ≤ 50) ∧ flQ G q V Y 2 v w) ∨ (((1 ≤ d ∧ d ≤ 100) ∧ 0 ≤ pl ∧ pl ≤ 50) ∧ ¬ okLend V t c h pl ∧ flQ G q V Y 3 v w)) → (((0 ≤ (c : Int) ∧ (c : Int) < n) ∧ 0 ≤ (h : Int) ∧ (h : Int) < 5) ∧ ((1 ≤ d ∧ d ≤ 100) ∧ 0 ≤ pl ∧ pl ≤ 50) ∧ okLend V t c h pl ∧ v = some (.int (iI (t : Int))) ∧ ∃ f : Nat → Int, gtL V m (h : Int).toNat (V 3 (c : Int).toNat).toNat f ∧ w = xm G q (up2 (va_up (nsLend (up2 V 25 0 0) t (c : Int).toNat (h : Int).toNat d pl) 13 f) 21 0 (t + 1)) ++ Y) ∨ (¬ ((0 ≤ (c : Int) ∧ (c : Int) < n) ∧ 0 ≤ (h : Int) ∧ (h : Int) < 5) ∧ flQ G q V Y 1 v w) ∨ (((0 ≤ (c : Int) ∧ (c : Int) < n) ∧ 0 ≤ (h : Int) ∧ (h : Int) < 5) ∧ ¬ ((1 ≤ d ∧ d ≤ 100) ∧ 0 ≤ pl ∧ pl ≤ 50) ∧ flQ G q V Y 2 v w) ∨ (((0 ≤ (c : Int) ∧ (c : Int) < n) ∧ 0 ≤ (h : Int) ∧ (h : Int) < 5) ∧ ((1 ≤ d ∧ d ≤ 100) ∧ 0 ≤ pl ∧ pl ≤ 50) ∧ ¬ okLend V t c h pl ∧ flQ G q V Y 3 v w) := fun v w hv => by
    rcases hv with hv | hv | hv
    · exact .inl ⟨⟨k1, k2⟩, hv⟩
    · exact .inr (.inr (.inl ⟨⟨k1, k2⟩, hv⟩))
    · exact .inr (.inr (.inr ⟨⟨k1, k2⟩, hv⟩))
  refine z_iconst C dX6_lend_15 (rfl : 15 + 1 = 16) ?_
  refine z_goto (pc' := 20) C dX6_lend_16 (by decide) ?_
  refine z_istore (lv' := [(5, _), (0, _), (1, _), (2, _), (3, _), (4, _)]) C dX6_lend_20 (rfl : 20 + 2 = 22) (by decide) rfl ?_
  refine z_iload_n C 4 rfl rfl dX6_lend_22 (rfl : 22 + 1 = 23) ?_
  refine z_iconst C dX6_lend_23 (rfl : 23 + 1 = 24) ?_
  refine z_bipush (c := 100) C (by decide) dX6_lend_24 (rfl : 24 + 2 = 26) ?_
  refine z_callS C 0 0 (c_X6_in hd (by omega) (by omega)) gX6_lend_X6_in rfl hd45_X6_in ⟨Nat.le_of_ble_eq_true rfl, Nat.le_of_ble_eq_true rfl⟩ rfl (Nat.le_of_ble_eq_true rfl) dX6_lend_26 (rfl : 26 + 3 = 29) rfl rfl ⟨Nat.le_of_ble_eq_true rfl, Nat.le_of_ble_eq_true rfl⟩ (fun _ _ h => h.elim) ?_ rfl
  rintro _ _ ⟨rfl, rfl⟩
  refine z_v1 ?_
  by_cases k3 : 1 ≤ d ∧ d ≤ 100
  rotate_left
  · rw [b01_f k3]
    refine z_if_eq (pt := 47) C dX6_lend_29 (by decide) (rfl : 29 + 3 = 32) (iI_eq0 (by omega)).1 (fun q => mt (iI_eq0 (by omega)).2 q) (fun c7 => ?_) (fun c7 => ?_)
    rotate_left
    · exact absurd rfl c7
    refine z_iconst C dX6_lend_47 (rfl : 47 + 1 = 48) ?_
    refine z_istore (lv' := [(6, _), (5, _), (0, _), (1, _), (2, _), (3, _), (4, _)]) C dX6_lend_48 (rfl : 48 + 2 = 50) (by decide) rfl ?_
    exact tl_X6_lend C hw (by omega) (by omega) (.inl ⟨rfl, fun h => k3 h.1⟩) ⟨rfl, rfl⟩ fin
  rw [b01_t k3]
  refine z_if_eq (pt := 47) C dX6_lend_29 (by decide) (rfl : 29 + 3 = 32) (iI_eq0 (by omega)).1 (fun q => mt (iI_eq0 (by omega)).2 q) (fun c7 => ?_) (fun c7 => ?_)
  · exact absurd c7 (by omega)
  refine z_iload C 5 rfl dX6_lend_32 (rfl : 32 + 2 = 34) ?_
  refine z_iconst C dX6_lend_34 (rfl : 34 + 1 = 35) ?_
  refine z_bipush (c := 50) C (by decide) dX6_lend_35 (rfl : 35 + 2 = 37) ?_
  refine z_callS C 0 0 (c_X6_in hpl (by omega) (by omega)) gX6_lend_X6_in rfl hd45_X6_in ⟨Nat.le_of_ble_eq_true rfl, Nat.le_of_ble_eq_true rfl⟩ rfl (Nat.le_of_ble_eq_true rfl) dX6_lend_37 (rfl : 37 + 3 = 40) rfl rfl ⟨Nat.le_of_ble_eq_true rfl, Nat.le_of_ble_eq_true rfl⟩ (fun _ _ h => h.elim) ?_ rfl
  rintro _ _ ⟨rfl, rfl⟩
  refine z_v1 ?_
  by_cases k4 : 0 ≤ pl ∧ pl ≤ 50
  rotate_left
  · rw [b01_f k4]
    refine z_if_eq (pt := 47) C dX6_lend_40 (by decide) (rfl : 40 + 3 = 43) (iI_eq0 (by omega)).1 (fun q => mt (iI_eq0 (by omega)).2 q) (fun c6 => ?_) (fun c6 => ?_)
    rotate_left
    · exact absurd rfl c6
    refine z_iconst C dX6_lend_47 (rfl : 47 + 1 = 48) ?_
    refine z_istore (lv' := [(6, _), (5, _), (0, _), (1, _), (2, _), (3, _), (4, _)]) C dX6_lend_48 (rfl : 48 + 2 = 50) (by decide) rfl ?_
    exact tl_X6_lend C hw (by omega) (by omega) (.inl ⟨rfl, fun h => k4 h.2⟩) ⟨rfl, rfl⟩ fin
  rw [b01_t k4]
  refine z_if_eq (pt := 47) C dX6_lend_40 (by decide) (rfl : 40 + 3 = 43) (iI_eq0 (by omega)).1 (fun q => mt (iI_eq0 (by omega)).2 q) (fun c6 => ?_) (fun c6 => ?_)
  · exact absurd c6 (by omega)
  refine z_iconst C dX6_lend_43 (rfl : 43 + 1 = 44) ?_
  refine z_goto (pc' := 48) C dX6_lend_44 (by decide) ?_
  refine z_istore (lv' := [(6, _), (5, _), (0, _), (1, _), (2, _), (3, _), (4, _)]) C dX6_lend_48 (rfl : 48 + 2 = 50) (by decide) rfl ?_
  exact tl_X6_lend C hw (by omega) (by omega) (.inr ⟨rfl, k3, k4⟩) ⟨rfl, rfl⟩ fin
end
