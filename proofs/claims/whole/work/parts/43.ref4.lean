theorem hd43_X6_isCopy : yX6_isCopy.cls = RX6 ∧ yX6_isCopy.cls ≠ "java/lang/invoke/MethodHandle" ∧ yX6_isCopy.cls ≠ "java/lang/invoke/VarHandle" ∧ (parseMethodDescriptor yX6_isCopy.desc).map (fun d => d.parameters.length) = some 1 := by decide +kernel
theorem hd43_X6_goes : yX6_goes.cls = RX6 ∧ yX6_goes.cls ≠ "java/lang/invoke/MethodHandle" ∧ yX6_goes.cls ≠ "java/lang/invoke/VarHandle" ∧ (parseMethodDescriptor yX6_goes.desc).map (fun d => d.parameters.length) = some 3 := by decide +kernel
theorem hd43_X6_isPlace : yX6_isPlace.cls ≠ "java/lang/invoke/MethodHandle" ∧ yX6_isPlace.cls ≠ "java/lang/invoke/VarHandle" ∧ (parseMethodDescriptor yX6_isPlace.desc).map (fun d => d.parameters.length) = some 1 := by decide +kernel
theorem lX6_reading_f7 : Cond.fieldLink RX6 7 "ModelCopiesModel" "readings" "[I" ∈ wsX6_reading := by decide +kernel
theorem iX6_reading_X6 : ∀ w ∈ wsX60, w ∈ wsX6_reading := by decide +kernel
theorem hd43_X6_share : yX6_share.cls = RX6 ∧ yX6_share.cls ≠ "java/lang/invoke/MethodHandle" ∧ yX6_share.cls ≠ "java/lang/invoke/VarHandle" ∧ (parseMethodDescriptor yX6_share.desc).map (fun d => d.parameters.length) = some 2 := by decide +kernel
theorem hd43_X6_isHouse : yX6_isHouse.cls ≠ "java/lang/invoke/MethodHandle" ∧ yX6_isHouse.cls ≠ "java/lang/invoke/VarHandle" ∧ (parseMethodDescriptor yX6_isHouse.desc).map (fun d => d.parameters.length) = some 1 := by decide +kernel
theorem hd43_X6_isLetter : yX6_isLetter.cls = RX6 ∧ yX6_isLetter.cls ≠ "java/lang/invoke/MethodHandle" ∧ yX6_isLetter.cls ≠ "java/lang/invoke/VarHandle" ∧ (parseMethodDescriptor yX6_isLetter.desc).map (fun d => d.parameters.length) = some 1 := by decide +kernel
theorem lX6_hasLetter_f45 : Cond.fieldLink RX6 45 "ModelCopiesModel" "has" "[Z" ∈ wsX6_hasLetter := by decide +kernel
theorem iX6_hasLetter_X6 : ∀ w ∈ wsX60, w ∈ wsX6_hasLetter := by decide +kernel
theorem hd43_X6_in : yX6_in.cls ≠ "java/lang/invoke/MethodHandle" ∧ yX6_in.cls ≠ "java/lang/invoke/VarHandle" ∧ (parseMethodDescriptor yX6_in.desc).map (fun d => d.parameters.length) = some 3 := by decide +kernel
theorem lX6_spread_f26 : Cond.fieldLink RX6 26 "ModelCopiesModel" "copies" "I" ∈ wsX6_spread := by decide +kernel
theorem iX6_spread_X6 : ∀ w ∈ wsX60, w ∈ wsX6_spread := by decide +kernel
theorem lX6_spread_f7 : Cond.fieldLink RX6 7 "ModelCopiesModel" "readings" "[I" ∈ wsX6_spread := by decide +kernel
theorem hd43_X6_isError : yX6_isError.cls = RX6 ∧ yX6_isError.cls ≠ "java/lang/invoke/MethodHandle" ∧ yX6_isError.cls ≠ "java/lang/invoke/VarHandle" ∧ (parseMethodDescriptor yX6_isError.desc).map (fun d => d.parameters.length) = some 2 := by decide +kernel
theorem lX6_sources_f26 : Cond.fieldLink RX6 26 "ModelCopiesModel" "copies" "I" ∈ wsX6_sources := by decide +kernel
theorem iX6_sources_X6 : ∀ w ∈ wsX60, w ∈ wsX6_sources := by decide +kernel
theorem lX6_sources_f7 : Cond.fieldLink RX6 7 "ModelCopiesModel" "readings" "[I" ∈ wsX6_sources := by decide +kernel
theorem hd43_X6_guesses : yX6_guesses.cls = RX6 ∧ yX6_guesses.cls ≠ "java/lang/invoke/MethodHandle" ∧ yX6_guesses.cls ≠ "java/lang/invoke/VarHandle" ∧ (parseMethodDescriptor yX6_guesses.desc).map (fun d => d.parameters.length) = some 1 := by decide +kernel
theorem hd43_X6_sorts : yX6_sorts.cls = RX6 ∧ yX6_sorts.cls ≠ "java/lang/invoke/MethodHandle" ∧ yX6_sorts.cls ≠ "java/lang/invoke/VarHandle" ∧ (parseMethodDescriptor yX6_sorts.desc).map (fun d => d.parameters.length) = some 0 := by decide +kernel
theorem lX6_family_f72 : Cond.fieldLink RX6 72 "ModelCopiesModel" "families" "[I" ∈ wsX6_family := by decide +kernel
theorem iX6_family_X6 : ∀ w ∈ wsX60, w ∈ wsX6_family := by decide +kernel
theorem hd43_X6_family : yX6_family.cls = RX6 ∧ yX6_family.cls ≠ "java/lang/invoke/MethodHandle" ∧ yX6_family.cls ≠ "java/lang/invoke/VarHandle" ∧ (parseMethodDescriptor yX6_family.desc).map (fun d => d.parameters.length) = some 1 := by decide +kernel
theorem lX6_families_f26 : Cond.fieldLink RX6 26 "ModelCopiesModel" "copies" "I" ∈ wsX6_families := by decide +kernel
theorem iX6_families_X6 : ∀ w ∈ wsX60, w ∈ wsX6_families := by decide +kernel
theorem lX6_families_f72 : Cond.fieldLink RX6 72 "ModelCopiesModel" "families" "[I" ∈ wsX6_families := by decide +kernel
theorem lX6_families_f75 : Cond.fieldLink RX6 75 "ModelCopiesModel" "last" "I" ∈ wsX6_families := by decide +kernel
theorem lX6_rightGuesses_f26 : Cond.fieldLink RX6 26 "ModelCopiesModel" "copies" "I" ∈ wsX6_rightGuesses := by decide +kernel
theorem iX6_rightGuesses_X6 : ∀ w ∈ wsX60, w ∈ wsX6_rightGuesses := by decide +kernel
theorem lX6_rightGuesses_f13 : Cond.fieldLink RX6 13 "ModelCopiesModel" "models" "[I" ∈ wsX6_rightGuesses := by decide +kernel
theorem lX6_rightGuesses_f75 : Cond.fieldLink RX6 75 "ModelCopiesModel" "last" "I" ∈ wsX6_rightGuesses := by decide +kernel
section
variable {κ : KxT} {G : GG} {base mc ms : Nat} {post : Option Value → va_W → Prop} {exc : String → va_W → Prop} {q : Nat → Nat} {V : Nat → Nat → Int} {Y : va_W} {l : Launch}
variable {n m t : Nat}
abbrev rmX6_reading : Room := { frames := 3, cells := 0, slots := 0, locals := 80 }
theorem c_X6_reading {z p : Int} (hz : -2147483648 ≤ z ∧ z < 2147483648) (hp : -2147483648 ≤ p ∧ p < 2147483648) (hw : WFV V n m t) : MC l yX6_reading wsX6_reading rmX6_reading G base [.ref (q 30), .int (iI z), .int (iI p)] (xm G q V ++ Y) (rdQ G q V Y ((0 ≤ z ∧ z < n) ∧ 0 ≤ p ∧ p < 24) (V 0 (24 * z.toNat + p.toNat))) (fun _ _ => False) := by
  refine MC.of (cc := cX6_reading) (by decide) rfl rfl (Nat.le_of_ble_eq_true rfl) ?_
  intro κ C hT hl hnm
  have hb : n ≤ 40 ∧ m ≤ 60 ∧ t ≤ 40 ∧ 1 ≤ n := by have := hw.2.1; omega
  refine z_sub [0, 1, 2] (lv' := [(0, .ref (q 30)), (1, .int (iI z)), (2, .int (iI p))]) rfl ?_
  refine z_aload_n C 0 rfl rfl dX6_reading_0 (rfl : 0 + 1 = 1) ?_
  refine z_aload_n C 0 rfl rfl dX6_reading_1 (rfl : 1 + 1 = 2) ?_
  refine z_iload_n C 1 rfl rfl dX6_reading_2 (rfl : 2 + 1 = 3) ?_
  refine z_callV C 0 0 (c_X6_isCopy hz hw.1.1 (by omega)) gX6_reading_X6_isCopy rfl hd43_X6_isCopy ⟨Nat.le_of_ble_eq_true rfl, Nat.le_of_ble_eq_true rfl⟩ xmm rfl rfl (Nat.le_of_ble_eq_true rfl) dX6_reading_3 (rfl : 3 + 3 = 6) rfl rfl ⟨Nat.le_of_ble_eq_true rfl, Nat.le_of_ble_eq_true rfl⟩ (fun _ _ h => h.elim) ?_ rfl
  rintro _ _ ⟨rfl, rfl⟩
  refine z_v1 ?_
  by_cases k1 : 0 ≤ z ∧ z < n
  rotate_left
  · rw [b01_f k1]
    refine z_if_eq (pt := 20) C dX6_reading_6 (by decide) (rfl : 6 + 3 = 9) (iI_eq0 (by omega)).1 (fun q => mt (iI_eq0 (by omega)).2 q) (fun c1 => ?_) (fun c1 => ?_)
    rotate_left
    · exact absurd rfl c1
    refine z_iconst C dX6_reading_20 (rfl : 20 + 1 = 21) ?_
    refine z_iconst C dX6_reading_21 (rfl : 21 + 1 = 22) ?_
    refine z_iconst C dX6_reading_22 (rfl : 22 + 1 = 23) ?_
    refine z_callV C 0 0 (c_goes_1 (.inr rfl) (.inr rfl)) gX6_reading_X6_goes rfl hd43_X6_goes ⟨Nat.le_of_ble_eq_true rfl, Nat.le_of_ble_eq_true rfl⟩ xmm rfl rfl (Nat.le_of_ble_eq_true rfl) dX6_reading_23 (rfl : 23 + 3 = 26) rfl rfl ⟨Nat.le_of_ble_eq_true rfl, Nat.le_of_ble_eq_true rfl⟩ (fun _ _ h => h.elim) ?_ rfl
    rintro _ _ ⟨rfl, rfl⟩
    refine z_v1 ?_
    refine z_if_eq (pt := 43) C dX6_reading_26 (by decide) (rfl : 26 + 3 = 29) (iI_eq0 (by omega)).1 (fun q => mt (iI_eq0 (by omega)).2 q) (fun c1 => ?_) (fun c1 => ?_)
    rotate_left
    · exact absurd rfl c1
    refine z_iconst C dX6_reading_43 (rfl : 43 + 1 = 44) ?_
    exact z_iret C rfl dX6_reading_44 (.inr ⟨fun h => k1 (by omega), rfl, rfl⟩) (by decide) (by decide)
  rw [b01_t k1]
  refine z_if_eq (pt := 20) C dX6_reading_6 (by decide) (rfl : 6 + 3 = 9) (iI_eq0 (by omega)).1 (fun q => mt (iI_eq0 (by omega)).2 q) (fun c1 => ?_) (fun c1 => ?_)
  · exact absurd c1 (by omega)
  refine z_iload_n C 2 rfl rfl dX6_reading_9 (rfl : 9 + 1 = 10) ?_
  refine z_callS C 0 0 (c_X6_isPlace hp) gX6_reading_X6_isPlace rfl hd43_X6_isPlace ⟨Nat.le_of_ble_eq_true rfl, Nat.le_of_ble_eq_true rfl⟩ rfl (Nat.le_of_ble_eq_true rfl) dX6_reading_10 (rfl : 10 + 3 = 13) rfl rfl ⟨Nat.le_of_ble_eq_true rfl, Nat.le_of_ble_eq_true rfl⟩ (fun _ _ h => h.elim) ?_ rfl
  rintro _ _ ⟨rfl, rfl⟩
  refine z_v1 ?_
  by_cases k2 : 0 ≤ p ∧ p < 24
  rotate_left
  · rw [b01_f k2]
    refine z_if_eq (pt := 20) C dX6_reading_13 (by decide) (rfl : 13 + 3 = 16) (iI_eq0 (by omega)).1 (fun q => mt (iI_eq0 (by omega)).2 q) (fun c1 => ?_) (fun c1 => ?_)
    rotate_left
    · exact absurd rfl c1
    refine z_iconst C dX6_reading_20 (rfl : 20 + 1 = 21) ?_
    refine z_iconst C dX6_reading_21 (rfl : 21 + 1 = 22) ?_
    refine z_iconst C dX6_reading_22 (rfl : 22 + 1 = 23) ?_
    refine z_callV C 0 0 (c_goes_1 (.inr rfl) (.inr rfl)) gX6_reading_X6_goes rfl hd43_X6_goes ⟨Nat.le_of_ble_eq_true rfl, Nat.le_of_ble_eq_true rfl⟩ xmm rfl rfl (Nat.le_of_ble_eq_true rfl) dX6_reading_23 (rfl : 23 + 3 = 26) rfl rfl ⟨Nat.le_of_ble_eq_true rfl, Nat.le_of_ble_eq_true rfl⟩ (fun _ _ h => h.elim) ?_ rfl
    rintro _ _ ⟨rfl, rfl⟩
    refine z_v1 ?_
    refine z_if_eq (pt := 43) C dX6_reading_26 (by decide) (rfl : 26 + 3 = 29) (iI_eq0 (by omega)).1 (fun q => mt (iI_eq0 (by omega)).2 q) (fun c1 => ?_) (fun c1 => ?_)
    rotate_left
    · exact absurd rfl c1
    refine z_iconst C dX6_reading_43 (rfl : 43 + 1 = 44) ?_
    exact z_iret C rfl dX6_reading_44 (.inr ⟨fun h => k2 (by omega), rfl, rfl⟩) (by decide) (by decide)
  rw [b01_t k2]
  refine z_if_eq (pt := 20) C dX6_reading_13 (by decide) (rfl : 13 + 3 = 16) (iI_eq0 (by omega)).1 (fun q => mt (iI_eq0 (by omega)).2 q) (fun c1 => ?_) (fun c1 => ?_)
  · exact absurd c1 (by omega)
  obtain ⟨i, rfl⟩ : ∃ i : Nat, z = (i : Int) := ⟨z.toNat, by omega⟩
  obtain ⟨j, rfl⟩ : ∃ j : Nat, p = (j : Int) := ⟨p.toNat, by omega⟩
  refine z_iconst C dX6_reading_16 (rfl : 16 + 1 = 17) ?_
  refine z_goto (pc' := 21) C dX6_reading_17 (by decide) ?_
  refine z_iconst C dX6_reading_21 (rfl : 21 + 1 = 22) ?_
  refine z_iconst C dX6_reading_22 (rfl : 22 + 1 = 23) ?_
  refine z_callV C 0 0 c_goes_ok gX6_reading_X6_goes rfl hd43_X6_goes ⟨Nat.le_of_ble_eq_true rfl, Nat.le_of_ble_eq_true rfl⟩ xmm rfl rfl (Nat.le_of_ble_eq_true rfl) dX6_reading_23 (rfl : 23 + 3 = 26) rfl rfl ⟨Nat.le_of_ble_eq_true rfl, Nat.le_of_ble_eq_true rfl⟩ (fun _ _ h => h.elim) ?_ rfl
  rintro _ _ ⟨rfl, rfl⟩
  refine z_v1 ?_
  refine z_if_eq (pt := 43) C dX6_reading_26 (by decide) (rfl : 26 + 3 = 29) (iI_eq0 (by omega)).1 (fun q => mt (iI_eq0 (by omega)).2 q) (fun c1 => ?_) (fun c1 => ?_)
  · exact absurd c1 (by omega)
  refine z_aload_n C 0 rfl rfl dX6_reading_29 (rfl : 29 + 1 = 30) ?_
  refine z_get C xmm rfl iX6_reading_X6 0 (by decide) lX6_reading_f7 rfl rfl dX6_reading_30 (rfl : 30 + 3 = 33) ?_
  refine z_bipush (c := 24) C (by decide) dX6_reading_33 (rfl : 33 + 2 = 35) ?_
  refine z_iload_n C 1 rfl rfl dX6_reading_35 (rfl : 35 + 1 = 36) ?_
  refine z_imul C dX6_reading_36 (rfl : 36 + 1 = 37) rfl ?_
  refine z_iload_n C 2 rfl rfl dX6_reading_37 (rfl : 37 + 1 = 38) ?_
  refine z_iadd C dX6_reading_38 (rfl : 38 + 1 = 39) rfl ?_
  refine z_iald (x := iI (V 0 (24 * i + j))) C xmm_0 ⟨by omega, by omega⟩ (by omega) rfl dX6_reading_39 (rfl : 39 + 1 = 40) ?_
  refine z_goto (pc' := 44) C dX6_reading_40 (by decide) ?_
  exact z_iret C rfl dX6_reading_44 (.inl ⟨⟨k1, k2⟩, rfl, rfl⟩) (by decide) (by decide)
abbrev rmX6_shared : Room := { frames := 3, cells := 0, slots := 0, locals := 80 }
theorem c_X6_shared {z p : Int} (hz : -2147483648 ≤ z ∧ z < 2147483648) (hp : -2147483648 ≤ p ∧ p < 2147483648) (hw : WFV V n m t) : MC l yX6_shared wsX6_shared rmX6_shared G base [.ref (q 30), .int (iI z), .int (iI p)] (xm G q V ++ Y) (rdQ G q V Y ((0 ≤ z ∧ z < n) ∧ 0 ≤ p ∧ p < n) (shV V z.toNat p.toNat)) (fun _ _ => False) := by
  refine MC.of (cc := cX6_shared) (by decide) rfl rfl (Nat.le_of_ble_eq_true rfl) ?_
  intro κ C hT hl hnm
  have hb : n ≤ 40 ∧ m ≤ 60 ∧ t ≤ 40 ∧ 1 ≤ n := by have := hw.2.1; omega
  refine z_sub [0, 1, 2] (lv' := [(0, .ref (q 30)), (1, .int (iI z)), (2, .int (iI p))]) rfl ?_
  refine z_aload_n C 0 rfl rfl dX6_shared_0 (rfl : 0 + 1 = 1) ?_
  refine z_aload_n C 0 rfl rfl dX6_shared_1 (rfl : 1 + 1 = 2) ?_
  refine z_iload_n C 1 rfl rfl dX6_shared_2 (rfl : 2 + 1 = 3) ?_
  refine z_callV C 0 0 (c_X6_isCopy hz hw.1.1 (by omega)) gX6_shared_X6_isCopy rfl hd43_X6_isCopy ⟨Nat.le_of_ble_eq_true rfl, Nat.le_of_ble_eq_true rfl⟩ xmm rfl rfl (Nat.le_of_ble_eq_true rfl) dX6_shared_3 (rfl : 3 + 3 = 6) rfl rfl ⟨Nat.le_of_ble_eq_true rfl, Nat.le_of_ble_eq_true rfl⟩ (fun _ _ h => h.elim) ?_ rfl
  rintro _ _ ⟨rfl, rfl⟩
  refine z_v1 ?_
  by_cases k1 : 0 ≤ z ∧ z < n
  rotate_left
  · rw [b01_f k1]
    refine z_if_eq (pt := 21) C dX6_shared_6 (by decide) (rfl : 6 + 3 = 9) (iI_eq0 (by omega)).1 (fun q => mt (iI_eq0 (by omega)).2 q) (fun c1 => ?_) (fun c1 => ?_)
    rotate_left
    · exact absurd rfl c1
    refine z_iconst C dX6_shared_21 (rfl : 21 + 1 = 22) ?_
    refine z_iconst C dX6_shared_22 (rfl : 22 + 1 = 23) ?_
    refine z_iconst C dX6_shared_23 (rfl : 23 + 1 = 24) ?_
    refine z_callV C 0 0 (c_goes_1 (.inr rfl) (.inr rfl)) gX6_shared_X6_goes rfl hd43_X6_goes ⟨Nat.le_of_ble_eq_true rfl, Nat.le_of_ble_eq_true rfl⟩ xmm rfl rfl (Nat.le_of_ble_eq_true rfl) dX6_shared_24 (rfl : 24 + 3 = 27) rfl rfl ⟨Nat.le_of_ble_eq_true rfl, Nat.le_of_ble_eq_true rfl⟩ (fun _ _ h => h.elim) ?_ rfl
    rintro _ _ ⟨rfl, rfl⟩
    refine z_v1 ?_
    refine z_if_eq (pt := 39) C dX6_shared_27 (by decide) (rfl : 27 + 3 = 30) (iI_eq0 (by omega)).1 (fun q => mt (iI_eq0 (by omega)).2 q) (fun c1 => ?_) (fun c1 => ?_)
    rotate_left
    · exact absurd rfl c1
    refine z_iconst C dX6_shared_39 (rfl : 39 + 1 = 40) ?_
    exact z_iret C rfl dX6_shared_40 (.inr ⟨fun h => k1 (by omega), rfl, rfl⟩) (by decide) (by decide)
  rw [b01_t k1]
  refine z_if_eq (pt := 21) C dX6_shared_6 (by decide) (rfl : 6 + 3 = 9) (iI_eq0 (by omega)).1 (fun q => mt (iI_eq0 (by omega)).2 q) (fun c1 => ?_) (fun c1 => ?_)
  · exact absurd c1 (by omega)
  refine z_aload_n C 0 rfl rfl dX6_shared_9 (rfl : 9 + 1 = 10) ?_
  refine z_iload_n C 2 rfl rfl dX6_shared_10 (rfl : 10 + 1 = 11) ?_
  refine z_callV C 0 0 (c_X6_isCopy hp hw.1.1 (by omega)) gX6_shared_X6_isCopy rfl hd43_X6_isCopy ⟨Nat.le_of_ble_eq_true rfl, Nat.le_of_ble_eq_true rfl⟩ xmm rfl rfl (Nat.le_of_ble_eq_true rfl) dX6_shared_11 (rfl : 11 + 3 = 14) rfl rfl ⟨Nat.le_of_ble_eq_true rfl, Nat.le_of_ble_eq_true rfl⟩ (fun _ _ h => h.elim) ?_ rfl
  rintro _ _ ⟨rfl, rfl⟩
  refine z_v1 ?_
  by_cases k2 : 0 ≤ p ∧ p < n
  rotate_left
  · rw [b01_f k2]
    refine z_if_eq (pt := 21) C dX6_shared_14 (by decide) (rfl : 14 + 3 = 17) (iI_eq0 (by omega)).1 (fun q => mt (iI_eq0 (by omega)).2 q) (fun c1 => ?_) (fun c1 => ?_)
    rotate_left
    · exact absurd rfl c1
    refine z_iconst C dX6_shared_21 (rfl : 21 + 1 = 22) ?_
    refine z_iconst C dX6_shared_22 (rfl : 22 + 1 = 23) ?_
    refine z_iconst C dX6_shared_23 (rfl : 23 + 1 = 24) ?_
    refine z_callV C 0 0 (c_goes_1 (.inr rfl) (.inr rfl)) gX6_shared_X6_goes rfl hd43_X6_goes ⟨Nat.le_of_ble_eq_true rfl, Nat.le_of_ble_eq_true rfl⟩ xmm rfl rfl (Nat.le_of_ble_eq_true rfl) dX6_shared_24 (rfl : 24 + 3 = 27) rfl rfl ⟨Nat.le_of_ble_eq_true rfl, Nat.le_of_ble_eq_true rfl⟩ (fun _ _ h => h.elim) ?_ rfl
    rintro _ _ ⟨rfl, rfl⟩
    refine z_v1 ?_
    refine z_if_eq (pt := 39) C dX6_shared_27 (by decide) (rfl : 27 + 3 = 30) (iI_eq0 (by omega)).1 (fun q => mt (iI_eq0 (by omega)).2 q) (fun c1 => ?_) (fun c1 => ?_)
    rotate_left
    · exact absurd rfl c1
    refine z_iconst C dX6_shared_39 (rfl : 39 + 1 = 40) ?_
    exact z_iret C rfl dX6_shared_40 (.inr ⟨fun h => k2 (by omega), rfl, rfl⟩) (by decide) (by decide)
  rw [b01_t k2]
  refine z_if_eq (pt := 21) C dX6_shared_14 (by decide) (rfl : 14 + 3 = 17) (iI_eq0 (by omega)).1 (fun q => mt (iI_eq0 (by omega)).2 q) (fun c1 => ?_) (fun c1 => ?_)
  · exact absurd c1 (by omega)
  obtain ⟨i, rfl⟩ : ∃ i : Nat, z = (i : Int) := ⟨z.toNat, by omega⟩
  obtain ⟨j, rfl⟩ : ∃ j : Nat, p = (j : Int) := ⟨p.toNat, by omega⟩
  refine z_iconst C dX6_shared_17 (rfl : 17 + 1 = 18) ?_
  refine z_goto (pc' := 22) C dX6_shared_18 (by decide) ?_
  refine z_iconst C dX6_shared_22 (rfl : 22 + 1 = 23) ?_
  refine z_iconst C dX6_shared_23 (rfl : 23 + 1 = 24) ?_
  refine z_callV C 0 0 c_goes_ok gX6_shared_X6_goes rfl hd43_X6_goes ⟨Nat.le_of_ble_eq_true rfl, Nat.le_of_ble_eq_true rfl⟩ xmm rfl rfl (Nat.le_of_ble_eq_true rfl) dX6_shared_24 (rfl : 24 + 3 = 27) rfl rfl ⟨Nat.le_of_ble_eq_true rfl, Nat.le_of_ble_eq_true rfl⟩ (fun _ _ h => h.elim) ?_ rfl
  rintro _ _ ⟨rfl, rfl⟩
  refine z_v1 ?_
  refine z_if_eq (pt := 39) C dX6_shared_27 (by decide) (rfl : 27 + 3 = 30) (iI_eq0 (by omega)).1 (fun q => mt (iI_eq0 (by omega)).2 q) (fun c1 => ?_) (fun c1 => ?_)
  · exact absurd c1 (by omega)
  refine z_aload_n C 0 rfl rfl dX6_shared_30 (rfl : 30 + 1 = 31) ?_
  refine z_iload_n C 1 rfl rfl dX6_shared_31 (rfl : 31 + 1 = 32) ?_
  refine z_iload_n C 2 rfl rfl dX6_shared_32 (rfl : 32 + 1 = 33) ?_
  refine z_callV C 0 0 (c_X6_share (V := up2 V 25 0 0) (a := i) (b := j) (by omega) (by omega) hw.2.2.1) gX6_shared_X6_share rfl hd43_X6_share ⟨Nat.le_of_ble_eq_true rfl, Nat.le_of_ble_eq_true rfl⟩ xmm rfl rfl (Nat.le_of_ble_eq_true rfl) dX6_shared_33 (rfl : 33 + 3 = 36) rfl rfl ⟨Nat.le_of_ble_eq_true rfl, Nat.le_of_ble_eq_true rfl⟩ (fun _ _ h => h.elim) ?_ rfl
  rintro _ _ ⟨rfl, rfl⟩
  refine z_v1 ?_
  refine z_goto (pc' := 40) C dX6_shared_36 (by decide) ?_
  exact z_iret C rfl dX6_shared_40 (.inl ⟨⟨k1, k2⟩, rfl, rfl⟩) (by decide) (by decide)
abbrev rmX6_hasLetter : Room := { frames := 3, cells := 0, slots := 0, locals := 80 }
theorem c_X6_hasLetter {z p : Int} (hz : -2147483648 ≤ z ∧ z < 2147483648) (hp : -2147483648 ≤ p ∧ p < 2147483648) (hw : WFV V n m t) : MC l yX6_hasLetter wsX6_hasLetter rmX6_hasLetter G base [.ref (q 30), .int (iI z), .int (iI p)] (xm G q V ++ Y) (rdQ G q V Y ((0 ≤ z ∧ z < 5) ∧ 0 ≤ p ∧ p < m) (V 13 (60 * z.toNat + p.toNat))) (fun _ _ => False) := by
  refine MC.of (cc := cX6_hasLetter) (by decide) rfl rfl (Nat.le_of_ble_eq_true rfl) ?_
  intro κ C hT hl hnm
  have hb : n ≤ 40 ∧ m ≤ 60 ∧ t ≤ 40 ∧ 1 ≤ n := by have := hw.2.1; omega
  refine z_sub [0, 1, 2] (lv' := [(0, .ref (q 30)), (1, .int (iI z)), (2, .int (iI p))]) rfl ?_
  refine z_aload_n C 0 rfl rfl dX6_hasLetter_0 (rfl : 0 + 1 = 1) ?_
  refine z_iload_n C 1 rfl rfl dX6_hasLetter_1 (rfl : 1 + 1 = 2) ?_
  refine z_callS C 0 0 (c_X6_isHouse hz) gX6_hasLetter_X6_isHouse rfl hd43_X6_isHouse ⟨Nat.le_of_ble_eq_true rfl, Nat.le_of_ble_eq_true rfl⟩ rfl (Nat.le_of_ble_eq_true rfl) dX6_hasLetter_2 (rfl : 2 + 3 = 5) rfl rfl ⟨Nat.le_of_ble_eq_true rfl, Nat.le_of_ble_eq_true rfl⟩ (fun _ _ h => h.elim) ?_ rfl
  rintro _ _ ⟨rfl, rfl⟩
  refine z_v1 ?_
  by_cases k1 : 0 ≤ z ∧ z < 5
  rotate_left
  · rw [b01_f k1]
    refine z_if_eq (pt := 20) C dX6_hasLetter_5 (by decide) (rfl : 5 + 3 = 8) (iI_eq0 (by omega)).1 (fun q => mt (iI_eq0 (by omega)).2 q) (fun c1 => ?_) (fun c1 => ?_)
    rotate_left
    · exact absurd rfl c1
    refine z_iconst C dX6_hasLetter_20 (rfl : 20 + 1 = 21) ?_
    refine z_iconst C dX6_hasLetter_21 (rfl : 21 + 1 = 22) ?_
    refine z_iconst C dX6_hasLetter_22 (rfl : 22 + 1 = 23) ?_
    refine z_callV C 0 0 (c_goes_1 (.inr rfl) (.inr rfl)) gX6_hasLetter_X6_goes rfl hd43_X6_goes ⟨Nat.le_of_ble_eq_true rfl, Nat.le_of_ble_eq_true rfl⟩ xmm rfl rfl (Nat.le_of_ble_eq_true rfl) dX6_hasLetter_23 (rfl : 23 + 3 = 26) rfl rfl ⟨Nat.le_of_ble_eq_true rfl, Nat.le_of_ble_eq_true rfl⟩ (fun _ _ h => h.elim) ?_ rfl
    rintro _ _ ⟨rfl, rfl⟩
    refine z_v1 ?_
    refine z_if_eq (pt := 47) C dX6_hasLetter_26 (by decide) (rfl : 26 + 3 = 29) (iI_eq0 (by omega)).1 (fun q => mt (iI_eq0 (by omega)).2 q) (fun c1 => ?_) (fun c1 => ?_)
    rotate_left
    · exact absurd rfl c1
    refine z_iconst C dX6_hasLetter_47 (rfl : 47 + 1 = 48) ?_
    exact z_zret C rfl (.inl rfl) dX6_hasLetter_48 (.inr ⟨fun h => k1 (by omega), rfl, rfl⟩) (by decide) (by decide)
  rw [b01_t k1]
  refine z_if_eq (pt := 20) C dX6_hasLetter_5 (by decide) (rfl : 5 + 3 = 8) (iI_eq0 (by omega)).1 (fun q => mt (iI_eq0 (by omega)).2 q) (fun c1 => ?_) (fun c1 => ?_)
  · exact absurd c1 (by omega)
  refine z_aload_n C 0 rfl rfl dX6_hasLetter_8 (rfl : 8 + 1 = 9) ?_
  refine z_iload_n C 2 rfl rfl dX6_hasLetter_9 (rfl : 9 + 1 = 10) ?_
  refine z_callV C 0 0 (c_X6_isLetter hp hw.1.2.1 (by omega)) gX6_hasLetter_X6_isLetter rfl hd43_X6_isLetter ⟨Nat.le_of_ble_eq_true rfl, Nat.le_of_ble_eq_true rfl⟩ xmm rfl rfl (Nat.le_of_ble_eq_true rfl) dX6_hasLetter_10 (rfl : 10 + 3 = 13) rfl rfl ⟨Nat.le_of_ble_eq_true rfl, Nat.le_of_ble_eq_true rfl⟩ (fun _ _ h => h.elim) ?_ rfl
  rintro _ _ ⟨rfl, rfl⟩
  refine z_v1 ?_
  by_cases k2 : 0 ≤ p ∧ p < m
  rotate_left
  · rw [b01_f k2]
    refine z_if_eq (pt := 20) C dX6_hasLetter_13 (by decide) (rfl : 13 + 3 = 16) (iI_eq0 (by omega)).1 (fun q => mt (iI_eq0 (by omega)).2 q) (fun c1 => ?_) (fun c1 => ?_)
    rotate_left
    · exact absurd rfl c1
    refine z_iconst C dX6_hasLetter_20 (rfl : 20 + 1 = 21) ?_
    refine z_iconst C dX6_hasLetter_21 (rfl : 21 + 1 = 22) ?_
    refine z_iconst C dX6_hasLetter_22 (rfl : 22 + 1 = 23) ?_
    refine z_callV C 0 0 (c_goes_1 (.inr rfl) (.inr rfl)) gX6_hasLetter_X6_goes rfl hd43_X6_goes ⟨Nat.le_of_ble_eq_true rfl, Nat.le_of_ble_eq_true rfl⟩ xmm rfl rfl (Nat.le_of_ble_eq_true rfl) dX6_hasLetter_23 (rfl : 23 + 3 = 26) rfl rfl ⟨Nat.le_of_ble_eq_true rfl, Nat.le_of_ble_eq_true rfl⟩ (fun _ _ h => h.elim) ?_ rfl
    rintro _ _ ⟨rfl, rfl⟩
    refine z_v1 ?_
    refine z_if_eq (pt := 47) C dX6_hasLetter_26 (by decide) (rfl : 26 + 3 = 29) (iI_eq0 (by omega)).1 (fun q => mt (iI_eq0 (by omega)).2 q) (fun c1 => ?_) (fun c1 => ?_)
    rotate_left
    · exact absurd rfl c1
    refine z_iconst C dX6_hasLetter_47 (rfl : 47 + 1 = 48) ?_
    exact z_zret C rfl (.inl rfl) dX6_hasLetter_48 (.inr ⟨fun h => k2 (by omega), rfl, rfl⟩) (by decide) (by decide)
  rw [b01_t k2]
  refine z_if_eq (pt := 20) C dX6_hasLetter_13 (by decide) (rfl : 13 + 3 = 16) (iI_eq0 (by omega)).1 (fun q => mt (iI_eq0 (by omega)).2 q) (fun c1 => ?_) (fun c1 => ?_)
  · exact absurd c1 (by omega)
  obtain ⟨i, rfl⟩ : ∃ i : Nat, z = (i : Int) := ⟨z.toNat, by omega⟩
  obtain ⟨j, rfl⟩ : ∃ j : Nat, p = (j : Int) := ⟨p.toNat, by omega⟩
  have hh := hw.2.2.2.2.2.2.2.2.1.1 (60 * i + j) (by omega)
  refine z_iconst C dX6_hasLetter_16 (rfl : 16 + 1 = 17) ?_
  refine z_goto (pc' := 21) C dX6_hasLetter_17 (by decide) ?_
  refine z_iconst C dX6_hasLetter_21 (rfl : 21 + 1 = 22) ?_
  refine z_iconst C dX6_hasLetter_22 (rfl : 22 + 1 = 23) ?_
  refine z_callV C 0 0 c_goes_ok gX6_hasLetter_X6_goes rfl hd43_X6_goes ⟨Nat.le_of_ble_eq_true rfl, Nat.le_of_ble_eq_true rfl⟩ xmm rfl rfl (Nat.le_of_ble_eq_true rfl) dX6_hasLetter_23 (rfl : 23 + 3 = 26) rfl rfl ⟨Nat.le_of_ble_eq_true rfl, Nat.le_of_ble_eq_true rfl⟩ (fun _ _ h => h.elim) ?_ rfl
  rintro _ _ ⟨rfl, rfl⟩
  refine z_v1 ?_
  refine z_if_eq (pt := 47) C dX6_hasLetter_26 (by decide) (rfl : 26 + 3 = 29) (iI_eq0 (by omega)).1 (fun q => mt (iI_eq0 (by omega)).2 q) (fun c1 => ?_) (fun c1 => ?_)
  · exact absurd c1 (by omega)
  refine z_aload_n C 0 rfl rfl dX6_hasLetter_29 (rfl : 29 + 1 = 30) ?_
  refine z_get C xmm rfl iX6_hasLetter_X6 13 (by decide) lX6_hasLetter_f45 rfl rfl dX6_hasLetter_30 (rfl : 30 + 3 = 33) ?_
  refine z_bipush (c := 60) C (by decide) dX6_hasLetter_33 (rfl : 33 + 2 = 35) ?_
  refine z_iload_n C 1 rfl rfl dX6_hasLetter_35 (rfl : 35 + 1 = 36) ?_
  refine z_imul C dX6_hasLetter_36 (rfl : 36 + 1 = 37) rfl ?_
  refine z_iload_n C 2 rfl rfl dX6_hasLetter_37 (rfl : 37 + 1 = 38) ?_
  refine z_iadd C dX6_hasLetter_38 (rfl : 38 + 1 = 39) rfl ?_
  refine z_zald (x := iI (V 13 (60 * i + j))) C xmm_13 ⟨by omega, by omega⟩ (by omega) rfl dX6_hasLetter_39 (rfl : 39 + 1 = 40) ?_
  refine z_if_eq (pt := 47) C dX6_hasLetter_40 (by decide) (rfl : 40 + 3 = 43) (iI_eq0 (by omega)).1 (fun q => mt (iI_eq0 (by omega)).2 q) (fun c2 => ?_) (fun c2 => ?_)
  · refine z_iconst C dX6_hasLetter_47 (rfl : 47 + 1 = 48) ?_
    exact z_zret C rfl (.inl rfl) dX6_hasLetter_48 (.inl ⟨⟨k1, k2⟩, by rw [show V 13 (60 * (i : Int).toNat + (j : Int).toNat) = 0 from c2], rfl⟩) (by decide) (by decide)
  · refine z_iconst C dX6_hasLetter_43 (rfl : 43 + 1 = 44) ?_
    refine z_goto (pc' := 48) C dX6_hasLetter_44 (by decide) ?_
    exact z_zret C rfl (.inr rfl) dX6_hasLetter_48 (.inl ⟨⟨k1, k2⟩, by rw [show V 13 (60 * (i : Int).toNat + (j : Int).toNat) = 1 from hh.resolve_left c2], rfl⟩) (by decide) (by decide)
abbrev rmX6_isError : Room := { frames := 2, cells := 0, slots := 0, locals := 45 }
theorem c_X6_isError {p r : Int} (hp : -2147483648 ≤ p ∧ p < 2147483648) (hr : -2147483648 ≤ r ∧ r < 2147483648) : MC l yX6_isError wsX6_isError rmX6_isError G base [.ref (q 30), .int (iI p), .int (iI r)] (xm G q V ++ Y) (fun v w => v = some (.int (iI (b01 (goC (b01 (0 ≤ p ∧ p < 24)) (b01 (1 ≤ r ∧ r ≤ 9)) 1 = 0)))) ∧ w = xm G q (up2 V 25 0 (goC (b01 (0 ≤ p ∧ p < 24)) (b01 (1 ≤ r ∧ r ≤ 9)) 1)) ++ Y) (fun _ _ => False) := by
  refine MC.of (cc := cX6_isError) (by decide) rfl rfl (Nat.le_of_ble_eq_true rfl) ?_
  intro κ C hT hl hnm
  refine z_sub [0, 1, 2] (lv' := [(0, .ref (q 30)), (1, .int (iI p)), (2, .int (iI r))]) rfl ?_
  refine z_aload_n C 0 rfl rfl dX6_isError_0 (rfl : 0 + 1 = 1) ?_
  refine z_iload_n C 1 rfl rfl dX6_isError_1 (rfl : 1 + 1 = 2) ?_
  refine z_callS C 0 0 (c_X6_isPlace hp) gX6_isError_X6_isPlace rfl hd43_X6_isPlace ⟨Nat.le_of_ble_eq_true rfl, Nat.le_of_ble_eq_true rfl⟩ rfl (Nat.le_of_ble_eq_true rfl) dX6_isError_2 (rfl : 2 + 3 = 5) rfl rfl ⟨Nat.le_of_ble_eq_true rfl, Nat.le_of_ble_eq_true rfl⟩ (fun _ _ h => h.elim) ?_ rfl
  rintro _ _ ⟨rfl, rfl⟩
  refine z_v1 ?_
  refine z_iload_n C 2 rfl rfl dX6_isError_5 (rfl : 5 + 1 = 6) ?_
  refine z_iconst C dX6_isError_6 (rfl : 6 + 1 = 7) ?_
  refine z_bipush (c := 9) C (by decide) dX6_isError_7 (rfl : 7 + 2 = 9) ?_
  refine z_callS C 0 0 (c_X6_in hr (by omega) (by omega)) gX6_isError_X6_in rfl hd43_X6_in ⟨Nat.le_of_ble_eq_true rfl, Nat.le_of_ble_eq_true rfl⟩ rfl (Nat.le_of_ble_eq_true rfl) dX6_isError_9 (rfl : 9 + 3 = 12) rfl rfl ⟨Nat.le_of_ble_eq_true rfl, Nat.le_of_ble_eq_true rfl⟩ (fun _ _ h => h.elim) ?_ rfl
  rintro _ _ ⟨rfl, rfl⟩
  refine z_v1 ?_
  refine z_iconst C dX6_isError_12 (rfl : 12 + 1 = 13) ?_
  refine z_callV C 0 0 (c_X6_goes (b01_01 _) (b01_01 _) (.inr rfl)) gX6_isError_X6_goes rfl hd43_X6_goes ⟨Nat.le_of_ble_eq_true rfl, Nat.le_of_ble_eq_true rfl⟩ xmm rfl rfl (Nat.le_of_ble_eq_true rfl) dX6_isError_13 (rfl : 13 + 3 = 16) rfl rfl ⟨Nat.le_of_ble_eq_true rfl, Nat.le_of_ble_eq_true rfl⟩ (fun _ _ h => h.elim) ?_ rfl
  rintro _ _ ⟨rfl, rfl⟩
  refine z_v1 ?_
  exact z_zret C rfl (b01_01 _) dX6_isError_16 ⟨rfl, rfl⟩ (by decide) (by decide)
abbrev rmX6_spread : Room := { frames := 3, cells := 0, slots := 0, locals := 70 }
theorem lp_X6_spread (C : Cx κ cX6_spread 6 wsX6_spread RX6 (some .int) rmX6_spread G base) {p : Nat} {r : Int} (hw : WFV V n m t) (hp : p < 24) (hr : 1 ≤ r ∧ r ≤ 9) (hpost : post (some (.int (iI (smI (fun i => b01 (V 0 (24 * i + p) = r)) n)))) (xm G q V ++ Y)) :
    ∀ (d i : Nat), i + d = n → Z κ 6 G base mc ms post exc 0 0 13 [(5, .int (iI (i : Int))), (4, .int (iI 1)), (3, .int (iI (smI (fun i => b01 (V 0 (24 * i + p) = r)) i))), (0, .ref (q 30)), (1, .int (iI (p : Int))), (2, .int (iI r))] [] (xm G q V ++ Y) := by
  have hn := hw.2.1
  have h5 := hw.1.1
  intro d
  induction d with
  | zero =>
    intro i hi
    have e : i = n := by omega
    subst e
    refine z_iload C 0 rfl dX6_spread_13 (rfl : 13 + 2 = 15) ?_
    refine z_aload_n C 3 rfl rfl dX6_spread_15 (rfl : 15 + 1 = 16) ?_
    refine z_get C xmm rfl iX6_spread_X6 5 (by decide) lX6_spread_f26 rfl rfl dX6_spread_16 (rfl : 16 + 3 = 19) ?_
    rw [h5]
    refine z_icmp_ge (pt := 57) C dX6_spread_19 (by decide) (rfl : 19 + 3 = 22) (iI_le (by omega) (by omega)).1 (fun q => mt (iI_le (by omega) (by omega)).2 q) (fun c1 => ?_) (fun c1 => ?_)
    · refine z_iload_n C 2 rfl rfl dX6_spread_57 (rfl : 57 + 1 = 58) ?_
      exact z_iret C rfl dX6_spread_58 hpost (Nat.zero_le _) (Nat.zero_le _)
    · exact absurd c1 (by omega)
  | succ d ih =>
    intro i hi
    have rr := hw.2.2.1 (24 * i + p) (by omega)
    have nx : ∀ z : Int, z = smI (fun i => b01 (V 0 (24 * i + p) = r)) (i + 1) → Z κ 6 G base mc ms post exc 0 0 13 [(5, .int (iI ((i + 1 : Nat) : Int))), (4, .int (iI 1)), (3, .int (iI z)), (0, .ref (q 30)), (1, .int (iI (p : Int))), (2, .int (iI r))] [] (xm G q V ++ Y) := fun z hz => by rw [hz]; exact ih (i + 1) (by omega)
    refine z_iload C 0 rfl dX6_spread_13 (rfl : 13 + 2 = 15) ?_
    refine z_aload_n C 3 rfl rfl dX6_spread_15 (rfl : 15 + 1 = 16) ?_
    refine z_get C xmm rfl iX6_spread_X6 5 (by decide) lX6_spread_f26 rfl rfl dX6_spread_16 (rfl : 16 + 3 = 19) ?_
    rw [h5]
    refine z_icmp_ge (pt := 57) C dX6_spread_19 (by decide) (rfl : 19 + 3 = 22) (iI_le (by omega) (by omega)).1 (fun q => mt (iI_le (by omega) (by omega)).2 q) (fun c1 => ?_) (fun c1 => ?_)
    · exact absurd c1 (by omega)
    refine z_iload C 1 rfl dX6_spread_22 (rfl : 22 + 2 = 24) ?_
    refine z_if_eq (pt := 57) C dX6_spread_24 (by decide) (rfl : 24 + 3 = 27) (iI_eq0 (by omega)).1 (fun q => mt (iI_eq0 (by omega)).2 q) (fun c2 => ?_) (fun c2 => ?_)
    · exact absurd c2 (by omega)
    refine z_iload_n C 2 rfl rfl dX6_spread_27 (rfl : 27 + 1 = 28) ?_
    refine z_aload_n C 3 rfl rfl dX6_spread_28 (rfl : 28 + 1 = 29) ?_
    refine z_get C xmm rfl iX6_spread_X6 0 (by decide) lX6_spread_f7 rfl rfl dX6_spread_29 (rfl : 29 + 3 = 32) ?_
    refine z_bipush (c := 24) C (by decide) dX6_spread_32 (rfl : 32 + 2 = 34) ?_
    refine z_iload C 0 rfl dX6_spread_34 (rfl : 34 + 2 = 36) ?_
    refine z_imul C dX6_spread_36 (rfl : 36 + 1 = 37) rfl ?_
    refine z_iload_n C 4 rfl rfl dX6_spread_37 (rfl : 37 + 1 = 38) ?_
    refine z_iadd C dX6_spread_38 (rfl : 38 + 1 = 39) rfl ?_
    refine z_iald (x := iI (V 0 (24 * i + p))) C xmm_0 ⟨by omega, by omega⟩ (by omega) rfl dX6_spread_39 (rfl : 39 + 1 = 40) ?_
    refine z_iload_n C 5 rfl rfl dX6_spread_40 (rfl : 40 + 1 = 41) ?_
    refine z_icmp_ne (pt := 48) C dX6_spread_41 (by decide) (rfl : 41 + 3 = 44) (fun q => mt (iI_eq (by omega) (by omega)).2 q) (iI_eq (by omega) (by omega)).1 (fun c3 => ?_) (fun c3 => ?_)
    · refine z_iconst C dX6_spread_48 (rfl : 48 + 1 = 49) ?_
      refine z_iadd C dX6_spread_49 (rfl : 49 + 1 = 50) rfl ?_
      refine z_istore_n (lv' := [(3, _), (5, _), (4, _), (0, _), (1, _), (2, _)]) C rfl dX6_spread_50 (rfl : 50 + 1 = 51) (by decide) rfl ?_
      refine z_iinc (lv' := [(5, _), (3, _), (4, _), (0, _), (1, _), (2, _)]) C 1 dX6_spread_51 (rfl : 51 + 3 = 54) rfl rfl (by decide) rfl ?_
      refine z_goto (pc' := 13) C dX6_spread_54 (by decide) ?_
      refine z_sub [0, 2, 1, 3, 4, 5] (lv' := [(5, .int (iI ((i + 1 : Nat) : Int))), (4, .int (iI 1)), (3, .int (iI (smI (fun i => b01 (V 0 (24 * i + p) = r)) i + 0))), (0, .ref (q 30)), (1, .int (iI (p : Int))), (2, .int (iI r))]) rfl ?_
      exact nx _ (by simp only [smI]; rw [b01_f c3])
    · refine z_iconst C dX6_spread_44 (rfl : 44 + 1 = 45) ?_
      refine z_goto (pc' := 49) C dX6_spread_45 (by decide) ?_
      refine z_iadd C dX6_spread_49 (rfl : 49 + 1 = 50) rfl ?_
      refine z_istore_n (lv' := [(3, _), (5, _), (4, _), (0, _), (1, _), (2, _)]) C rfl dX6_spread_50 (rfl : 50 + 1 = 51) (by decide) rfl ?_
      refine z_iinc (lv' := [(5, _), (3, _), (4, _), (0, _), (1, _), (2, _)]) C 1 dX6_spread_51 (rfl : 51 + 3 = 54) rfl rfl (by decide) rfl ?_
      refine z_goto (pc' := 13) C dX6_spread_54 (by decide) ?_
      refine z_sub [0, 2, 1, 3, 4, 5] (lv' := [(5, .int (iI ((i + 1 : Nat) : Int))), (4, .int (iI 1)), (3, .int (iI (smI (fun i => b01 (V 0 (24 * i + p) = r)) i + 1))), (0, .ref (q 30)), (1, .int (iI (p : Int))), (2, .int (iI r))]) rfl ?_
      exact nx _ (by simp only [smI]; rw [b01_t c3])
theorem c_X6_spread {p r : Int} (hp : -2147483648 ≤ p ∧ p < 2147483648) (hr : -2147483648 ≤ r ∧ r < 2147483648) (hw : WFV V n m t) : MC l yX6_spread wsX6_spread rmX6_spread G base [.ref (q 30), .int (iI p), .int (iI r)] (xm G q V ++ Y) (rdQ2 G q V Y (0 ≤ p ∧ p < 24) (1 ≤ r ∧ r ≤ 9) (smI (fun i => b01 (V 0 (24 * i + p.toNat) = r)) n)) (fun _ _ => False) := by
  refine MC.of (cc := cX6_spread) (by decide) rfl rfl (Nat.le_of_ble_eq_true rfl) ?_
  intro κ C hT hl hnm
  have hn := hw.2.1
  have h5 := hw.1.1
  refine z_sub [0, 1, 2] (lv' := [(0, .ref (q 30)), (1, .int (iI p)), (2, .int (iI r))]) rfl ?_
  refine z_iconst C dX6_spread_0 (rfl : 0 + 1 = 1) ?_
  refine z_istore_n (lv' := [(3, _), (0, _), (1, _), (2, _)]) C rfl dX6_spread_1 (rfl : 1 + 1 = 2) (by decide) rfl ?_
  refine z_aload_n C 1 rfl rfl dX6_spread_2 (rfl : 2 + 1 = 3) ?_
  refine z_iload_n C 2 rfl rfl dX6_spread_3 (rfl : 3 + 1 = 4) ?_
  refine z_iload_n C 3 rfl rfl dX6_spread_4 (rfl : 4 + 1 = 5) ?_
  refine z_callV C 0 0 (c_X6_isError hp hr) gX6_spread_X6_isError rfl hd43_X6_isError ⟨Nat.le_of_ble_eq_true rfl, Nat.le_of_ble_eq_true rfl⟩ xmm rfl rfl (Nat.le_of_ble_eq_true rfl) dX6_spread_5 (rfl : 5 + 3 = 8) rfl rfl ⟨Nat.le_of_ble_eq_true rfl, Nat.le_of_ble_eq_true rfl⟩ (fun _ _ h => h.elim) ?_ rfl
  rintro _ _ ⟨rfl, rfl⟩
  refine z_v1 ?_
  by_cases hk : (0 ≤ p ∧ p < 24) ∧ 1 ≤ r ∧ r ≤ 9
  · obtain ⟨k1, k2⟩ := hk
    rw [b01_t k1, b01_t k2]
    obtain ⟨j, rfl⟩ : ∃ j : Nat, p = (j : Int) := ⟨p.toNat, by omega⟩
    refine z_istore (lv' := [(4, _), (3, _), (0, _), (1, _), (2, _)]) C dX6_spread_8 (rfl : 8 + 2 = 10) (by decide) rfl ?_
    refine z_iconst C dX6_spread_10 (rfl : 10 + 1 = 11) ?_
    refine z_istore (lv' := [(5, _), (4, _), (3, _), (0, _), (1, _), (2, _)]) C dX6_spread_11 (rfl : 11 + 2 = 13) (by decide) rfl ?_
    exact lp_X6_spread C (V := up2 V 25 0 0) (hw.last 0) (by omega) k2 (.inl ⟨k1, k2, rfl, rfl⟩) n 0 (by omega)
  · have hg : b01 (goC (b01 (0 ≤ p ∧ p < 24)) (b01 (1 ≤ r ∧ r ≤ 9)) 1 = 0) = 0 := by
      rw [b01_eq0]
      intro h
      apply hk
      by_cases k1 : 0 ≤ p ∧ p < 24
      · by_cases k2 : 1 ≤ r ∧ r ≤ 9
        · exact ⟨k1, k2⟩
        · rw [b01_t k1, b01_f k2] at h; exact absurd h (by decide)
      · rw [b01_f k1] at h; exact absurd h (by simp [goC])
    rw [hg]
    refine z_istore (lv' := [(4, _), (3, _), (0, _), (1, _), (2, _)]) C dX6_spread_8 (rfl : 8 + 2 = 10) (by decide) rfl ?_
    refine z_iconst C dX6_spread_10 (rfl : 10 + 1 = 11) ?_
    refine z_istore (lv' := [(5, _), (4, _), (3, _), (0, _), (1, _), (2, _)]) C dX6_spread_11 (rfl : 11 + 2 = 13) (by decide) rfl ?_
    refine z_iload C 0 rfl dX6_spread_13 (rfl : 13 + 2 = 15) ?_
    refine z_aload_n C 3 rfl rfl dX6_spread_15 (rfl : 15 + 1 = 16) ?_
    refine z_get C xmm rfl iX6_spread_X6 5 (by decide) lX6_spread_f26 rfl rfl dX6_spread_16 (rfl : 16 + 3 = 19) ?_
    rw [show up2 V 25 0 (goC (b01 (0 ≤ p ∧ p < 24)) (b01 (1 ≤ r ∧ r ≤ 9)) 1) 5 0 = (n : Int) from h5]
    refine z_icmp_ge (pt := 57) C dX6_spread_19 (by decide) (rfl : 19 + 3 = 22) (iI_le (by omega) (by omega)).1 (fun q => mt (iI_le (by omega) (by omega)).2 q) (fun c1 => ?_) (fun c1 => ?_)
    · exact absurd c1 (by omega)
    refine z_iload C 1 rfl dX6_spread_22 (rfl : 22 + 2 = 24) ?_
    refine z_if_eq (pt := 57) C dX6_spread_24 (by decide) (rfl : 24 + 3 = 27) (iI_eq0 (by omega)).1 (fun q => mt (iI_eq0 (by omega)).2 q) (fun c2 => ?_) (fun c2 => ?_)
    rotate_left
    · exact absurd rfl c2
    refine z_iload_n C 2 rfl rfl dX6_spread_57 (rfl : 57 + 1 = 58) ?_
    refine z_iret C rfl dX6_spread_58 (.inr ?_) (by decide) (by decide)
    by_cases k1 : 0 ≤ p ∧ p < 24
    · have k2 : ¬ (1 ≤ r ∧ r ≤ 9) := fun h => hk ⟨k1, h⟩
      rw [b01_t k1, b01_f k2]
      exact .inr ⟨k1, k2, rfl, rfl⟩
    · rw [b01_f k1]
      exact .inl ⟨k1, rfl, rfl⟩
abbrev rmX6_sources : Room := { frames := 3, cells := 0, slots := 0, locals := 80 }
theorem lp_X6_sources (C : Cx κ cX6_sources 7 wsX6_sources RX6 (some .int) rmX6_sources G base) {p : Nat} {r : Int} (hw : WFV V n m t) (hp : p < 24) (hr : 1 ≤ r ∧ r ≤ 9) (hpost : post (some (.int (iI (smI (fun i => b01 (V 0 (24 * i + p) = r ∧ (i = 0 ∨ ¬ V 0 (24 * (gsV V i).toNat + p) = r))) n)))) (xm G q V ++ Y)) :
    ∀ (d i : Nat), i + d = n → Z κ 7 G base mc ms post exc 0 0 13 [(5, .int (iI (i : Int))), (4, .int (iI 1)), (3, .int (iI (smI (fun i => b01 (V 0 (24 * i + p) = r ∧ (i = 0 ∨ ¬ V 0 (24 * (gsV V i).toNat + p) = r))) i))), (0, .ref (q 30)), (1, .int (iI (p : Int))), (2, .int (iI r))] [] (xm G q V ++ Y) := by
  have hn := hw.2.1
  have h5 := hw.1.1
  intro d
  induction d with
  | zero =>
    intro i hi
    have e : i = n := by omega
    subst e
    refine z_iload C 0 rfl dX6_sources_13 (rfl : 13 + 2 = 15) ?_
    refine z_aload_n C 3 rfl rfl dX6_sources_15 (rfl : 15 + 1 = 16) ?_
    refine z_get C xmm rfl iX6_sources_X6 5 (by decide) lX6_sources_f26 rfl rfl dX6_sources_16 (rfl : 16 + 3 = 19) ?_
    rw [h5]
    refine z_icmp_ge (pt := 94) C dX6_sources_19 (by decide) (rfl : 19 + 3 = 22) (iI_le (by omega) (by omega)).1 (fun q => mt (iI_le (by omega) (by omega)).2 q) (fun c1 => ?_) (fun c1 => ?_)
    · refine z_iload_n C 2 rfl rfl dX6_sources_94 (rfl : 94 + 1 = 95) ?_
      exact z_iret C rfl dX6_sources_95 hpost (Nat.zero_le _) (Nat.zero_le _)
    · exact absurd c1 (by omega)
  | succ d ih =>
    intro i hi
    have rr := hw.2.2.1 (24 * i + p) (by omega)
    have nx : ∀ (z u : Int), z = smI (fun i => b01 (V 0 (24 * i + p) = r ∧ (i = 0 ∨ ¬ V 0 (24 * (gsV V i).toNat + p) = r))) (i + 1) → Z κ 7 G base mc ms post exc 0 0 13 [(5, .int (iI ((i + 1 : Nat) : Int))), (3, .int (iI z)), (6, .int (iI u)), (4, .int (iI 1)), (0, .ref (q 30)), (1, .int (iI (p : Int))), (2, .int (iI r))] [] (xm G q V ++ Y) := fun z u hz => by
      rw [hz]
      refine z_sub [0, 3, 1, 4, 5, 6] (lv' := [(5, .int (iI ((i + 1 : Nat) : Int))), (4, .int (iI 1)), (3, .int (iI (smI (fun i => b01 (V 0 (24 * i + p) = r ∧ (i = 0 ∨ ¬ V 0 (24 * (gsV V i).toNat + p) = r))) (i + 1)))), (0, .ref (q 30)), (1, .int (iI (p : Int))), (2, .int (iI r))]) rfl ?_
      exact ih (i + 1) (by omega)
    refine z_iload C 0 rfl dX6_sources_13 (rfl : 13 + 2 = 15) ?_
    refine z_aload_n C 3 rfl rfl dX6_sources_15 (rfl : 15 + 1 = 16) ?_
    refine z_get C xmm rfl iX6_sources_X6 5 (by decide) lX6_sources_f26 rfl rfl dX6_sources_16 (rfl : 16 + 3 = 19) ?_
    rw [h5]
    refine z_icmp_ge (pt := 94) C dX6_sources_19 (by decide) (rfl : 19 + 3 = 22) (iI_le (by omega) (by omega)).1 (fun q => mt (iI_le (by omega) (by omega)).2 q) (fun c1 => ?_) (fun c1 => ?_)
    · exact absurd c1 (by omega)
    refine z_iload C 1 rfl dX6_sources_22 (rfl : 22 + 2 = 24) ?_
    refine z_if_eq (pt := 94) C dX6_sources_24 (by decide) (rfl : 24 + 3 = 27) (iI_eq0 (by omega)).1 (fun q => mt (iI_eq0 (by omega)).2 q) (fun c2 => ?_) (fun c2 => ?_)
    · exact absurd c2 (by omega)
    refine z_aload_n C 3 rfl rfl dX6_sources_27 (rfl : 27 + 1 = 28) ?_
    refine z_get C xmm rfl iX6_sources_X6 0 (by decide) lX6_sources_f7 rfl rfl dX6_sources_28 (rfl : 28 + 3 = 31) ?_
    refine z_bipush (c := 24) C (by decide) dX6_sources_31 (rfl : 31 + 2 = 33) ?_
    refine z_iload C 0 rfl dX6_sources_33 (rfl : 33 + 2 = 35) ?_
    refine z_imul C dX6_sources_35 (rfl : 35 + 1 = 36) rfl ?_
    refine z_iload_n C 4 rfl rfl dX6_sources_36 (rfl : 36 + 1 = 37) ?_
    refine z_iadd C dX6_sources_37 (rfl : 37 + 1 = 38) rfl ?_
    refine z_iald (x := iI (V 0 (24 * i + p))) C xmm_0 ⟨by omega, by omega⟩ (by omega) rfl dX6_sources_38 (rfl : 38 + 1 = 39) ?_
    refine z_iload_n C 5 rfl rfl dX6_sources_39 (rfl : 39 + 1 = 40) ?_
    refine z_icmp_ne (pt := 47) C dX6_sources_40 (by decide) (rfl : 40 + 3 = 43) (fun q => mt (iI_eq (by omega) (by omega)).2 q) (iI_eq (by omega) (by omega)).1 (fun c3 => ?_) (fun c3 => ?_)
    · refine z_iconst C dX6_sources_47 (rfl : 47 + 1 = 48) ?_
      refine z_istore (lv' := [(6, _), (5, _), (4, _), (3, _), (0, _), (1, _), (2, _)]) C dX6_sources_48 (rfl : 48 + 2 = 50) (by decide) rfl ?_
      refine z_iload_n C 3 rfl rfl dX6_sources_50 (rfl : 50 + 1 = 51) ?_
      refine z_iload C 0 rfl dX6_sources_51 (rfl : 51 + 2 = 53) ?_
      refine z_if_eq (pt := 85) C dX6_sources_53 (by decide) (rfl : 53 + 3 = 56) (iI_eq0 (by omega)).1 (fun q => mt (iI_eq0 (by omega)).2 q) (fun c4 => ?_) (fun c4 => ?_)
      rotate_left
      · exact absurd rfl c4
      refine z_iconst C dX6_sources_85 (rfl : 85 + 1 = 86) ?_
      refine z_iadd C dX6_sources_86 (rfl : 86 + 1 = 87) rfl ?_
      refine z_istore_n (lv' := [(3, _), (6, _), (5, _), (4, _), (0, _), (1, _), (2, _)]) C rfl dX6_sources_87 (rfl : 87 + 1 = 88) (by decide) rfl ?_
      refine z_iinc (lv' := [(5, _), (3, _), (6, _), (4, _), (0, _), (1, _), (2, _)]) C 2 dX6_sources_88 (rfl : 88 + 3 = 91) rfl rfl (by decide) rfl ?_
      refine z_goto (pc' := 13) C dX6_sources_91 (by decide) ?_
      exact nx _ 0 (by simp only [smI]; rw [b01_f (fun h => c3 h.1)])
    refine z_iconst C dX6_sources_43 (rfl : 43 + 1 = 44) ?_
    refine z_goto (pc' := 48) C dX6_sources_44 (by decide) ?_
    refine z_istore (lv' := [(6, _), (5, _), (4, _), (3, _), (0, _), (1, _), (2, _)]) C dX6_sources_48 (rfl : 48 + 2 = 50) (by decide) rfl ?_
    refine z_iload_n C 3 rfl rfl dX6_sources_50 (rfl : 50 + 1 = 51) ?_
    refine z_iload C 0 rfl dX6_sources_51 (rfl : 51 + 2 = 53) ?_
    refine z_if_eq (pt := 85) C dX6_sources_53 (by decide) (rfl : 53 + 3 = 56) (iI_eq0 (by omega)).1 (fun q => mt (iI_eq0 (by omega)).2 q) (fun c4 => ?_) (fun c4 => ?_)
    · exact absurd c4 (by omega)
    refine z_iload C 1 rfl dX6_sources_56 (rfl : 56 + 2 = 58) ?_
    refine z_if_eq (pt := 81) C dX6_sources_58 (by decide) (rfl : 58 + 3 = 61) (iI_eq0 (by omega)).1 (fun q => mt (iI_eq0 (by omega)).2 q) (fun c5 => ?_) (fun c5 => ?_)
    · refine z_iconst C dX6_sources_81 (rfl : 81 + 1 = 82) ?_
      refine z_goto (pc' := 86) C dX6_sources_82 (by decide) ?_
      refine z_iadd C dX6_sources_86 (rfl : 86 + 1 = 87) rfl ?_
      refine z_istore_n (lv' := [(3, _), (6, _), (5, _), (4, _), (0, _), (1, _), (2, _)]) C rfl dX6_sources_87 (rfl : 87 + 1 = 88) (by decide) rfl ?_
      refine z_iinc (lv' := [(5, _), (3, _), (6, _), (4, _), (0, _), (1, _), (2, _)]) C 2 dX6_sources_88 (rfl : 88 + 3 = 91) rfl rfl (by decide) rfl ?_
      refine z_goto (pc' := 13) C dX6_sources_91 (by decide) ?_
      exact nx _ 1 (by simp only [smI]; rw [b01_t ⟨c3, .inl (by omega)⟩])
    have gr := gsV_rng hw (c := i) (by omega) (by omega)
    obtain ⟨g, hg⟩ : ∃ g : Nat, gsV V i = (g : Int) := ⟨(gsV V i).toNat, by omega⟩
    have hgn : (gsV V i).toNat = g := by omega
    have rg := hw.2.2.1 (24 * g + p) (by omega)
    refine z_aload_n C 4 rfl rfl dX6_sources_61 (rfl : 61 + 1 = 62) ?_
    refine z_get C xmm rfl iX6_sources_X6 0 (by decide) lX6_sources_f7 rfl rfl dX6_sources_62 (rfl : 62 + 3 = 65) ?_
    refine z_bipush (c := 24) C (by decide) dX6_sources_65 (rfl : 65 + 2 = 67) ?_
    refine z_aload_n C 4 rfl rfl dX6_sources_67 (rfl : 67 + 1 = 68) ?_
    refine z_iload C 1 rfl dX6_sources_68 (rfl : 68 + 2 = 70) ?_
    refine z_callV C 0 0 (c_X6_guesses (c := i) hw (by omega)) gX6_sources_X6_guesses rfl hd43_X6_guesses ⟨Nat.le_of_ble_eq_true rfl, Nat.le_of_ble_eq_true rfl⟩ xmm rfl rfl (Nat.le_of_ble_eq_true rfl) dX6_sources_70 (rfl : 70 + 3 = 73) rfl rfl ⟨Nat.le_of_ble_eq_true rfl, Nat.le_of_ble_eq_true rfl⟩ (fun _ _ h => h.elim) ?_ rfl
    rintro _ _ ⟨rfl, rfl⟩
    refine z_v1 ?_
    rw [hg]
    refine z_imul C dX6_sources_73 (rfl : 73 + 1 = 74) rfl ?_
    refine z_iload_n C 5 rfl rfl dX6_sources_74 (rfl : 74 + 1 = 75) ?_
    refine z_iadd C dX6_sources_75 (rfl : 75 + 1 = 76) rfl ?_
    refine z_iald (x := iI (V 0 (24 * g + p))) C xmm_0 ⟨by omega, by omega⟩ (by omega) rfl dX6_sources_76 (rfl : 76 + 1 = 77) ?_
    refine z_iload_n C 6 rfl rfl dX6_sources_77 (rfl : 77 + 1 = 78) ?_
    refine z_icmp_eq (pt := 85) C dX6_sources_78 (by decide) (rfl : 78 + 3 = 81) (iI_eq (by omega) (by omega)).1 (fun q => mt (iI_eq (by omega) (by omega)).2 q) (fun c6 => ?_) (fun c6 => ?_)
    · refine z_iconst C dX6_sources_85 (rfl : 85 + 1 = 86) ?_
      refine z_iadd C dX6_sources_86 (rfl : 86 + 1 = 87) rfl ?_
      refine z_istore_n (lv' := [(3, _), (6, _), (5, _), (4, _), (0, _), (1, _), (2, _)]) C rfl dX6_sources_87 (rfl : 87 + 1 = 88) (by decide) rfl ?_
      refine z_iinc (lv' := [(5, _), (3, _), (6, _), (4, _), (0, _), (1, _), (2, _)]) C 2 dX6_sources_88 (rfl : 88 + 3 = 91) rfl rfl (by decide) rfl ?_
      refine z_goto (pc' := 13) C dX6_sources_91 (by decide) ?_
      exact nx _ 1 (by simp only [smI]; rw [hgn, b01_f (fun h => h.2.elim (fun h => c5 (by omega)) (fun h => h c6))])
    · refine z_iconst C dX6_sources_81 (rfl : 81 + 1 = 82) ?_
      refine z_goto (pc' := 86) C dX6_sources_82 (by decide) ?_
      refine z_iadd C dX6_sources_86 (rfl : 86 + 1 = 87) rfl ?_
      refine z_istore_n (lv' := [(3, _), (6, _), (5, _), (4, _), (0, _), (1, _), (2, _)]) C rfl dX6_sources_87 (rfl : 87 + 1 = 88) (by decide) rfl ?_
      refine z_iinc (lv' := [(5, _), (3, _), (6, _), (4, _), (0, _), (1, _), (2, _)]) C 2 dX6_sources_88 (rfl : 88 + 3 = 91) rfl rfl (by decide) rfl ?_
      refine z_goto (pc' := 13) C dX6_sources_91 (by decide) ?_
      exact nx _ 1 (by simp only [smI]; rw [hgn, b01_t ⟨c3, .inr c6⟩])
theorem c_X6_sources {p r : Int} (hp : -2147483648 ≤ p ∧ p < 2147483648) (hr : -2147483648 ≤ r ∧ r < 2147483648) (hw : WFV V n m t) : MC l yX6_sources wsX6_sources rmX6_sources G base [.ref (q 30), .int (iI p), .int (iI r)] (xm G q V ++ Y) (rdQ2 G q V Y (0 ≤ p ∧ p < 24) (1 ≤ r ∧ r ≤ 9) (smI (fun i => b01 (V 0 (24 * i + p.toNat) = r ∧ (i = 0 ∨ ¬ V 0 (24 * (gsV V i).toNat + p.toNat) = r))) n)) (fun _ _ => False) := by
  refine MC.of (cc := cX6_sources) (by decide) rfl rfl (Nat.le_of_ble_eq_true rfl) ?_
  intro κ C hT hl hnm
  have hn := hw.2.1
  have h5 := hw.1.1
  refine z_sub [0, 1, 2] (lv' := [(0, .ref (q 30)), (1, .int (iI p)), (2, .int (iI r))]) rfl ?_
  refine z_iconst C dX6_sources_0 (rfl : 0 + 1 = 1) ?_
  refine z_istore_n (lv' := [(3, _), (0, _), (1, _), (2, _)]) C rfl dX6_sources_1 (rfl : 1 + 1 = 2) (by decide) rfl ?_
  refine z_aload_n C 1 rfl rfl dX6_sources_2 (rfl : 2 + 1 = 3) ?_
  refine z_iload_n C 2 rfl rfl dX6_sources_3 (rfl : 3 + 1 = 4) ?_
  refine z_iload_n C 3 rfl rfl dX6_sources_4 (rfl : 4 + 1 = 5) ?_
  refine z_callV C 0 0 (c_X6_isError hp hr) gX6_sources_X6_isError rfl hd43_X6_isError ⟨Nat.le_of_ble_eq_true rfl, Nat.le_of_ble_eq_true rfl⟩ xmm rfl rfl (Nat.le_of_ble_eq_true rfl) dX6_sources_5 (rfl : 5 + 3 = 8) rfl rfl ⟨Nat.le_of_ble_eq_true rfl, Nat.le_of_ble_eq_true rfl⟩ (fun _ _ h => h.elim) ?_ rfl
  rintro _ _ ⟨rfl, rfl⟩
  refine z_v1 ?_
  by_cases hk : (0 ≤ p ∧ p < 24) ∧ 1 ≤ r ∧ r ≤ 9
  · obtain ⟨k1, k2⟩ := hk
    rw [b01_t k1, b01_t k2]
    obtain ⟨j, rfl⟩ : ∃ j : Nat, p = (j : Int) := ⟨p.toNat, by omega⟩
    refine z_istore (lv' := [(4, _), (3, _), (0, _), (1, _), (2, _)]) C dX6_sources_8 (rfl : 8 + 2 = 10) (by decide) rfl ?_
    refine z_iconst C dX6_sources_10 (rfl : 10 + 1 = 11) ?_
    refine z_istore (lv' := [(5, _), (4, _), (3, _), (0, _), (1, _), (2, _)]) C dX6_sources_11 (rfl : 11 + 2 = 13) (by decide) rfl ?_
    refine lp_X6_sources C (V := up2 V 25 0 0) (hw.last 0) (by omega) k2 (.inl ⟨k1, k2, ?_, rfl⟩) n 0 (by omega)
    simp only [gsV_last]
    rfl
  · have hg : b01 (goC (b01 (0 ≤ p ∧ p < 24)) (b01 (1 ≤ r ∧ r ≤ 9)) 1 = 0) = 0 := by
      rw [b01_eq0]
      intro h
      apply hk
      by_cases k1 : 0 ≤ p ∧ p < 24
      · by_cases k2 : 1 ≤ r ∧ r ≤ 9
        · exact ⟨k1, k2⟩
        · rw [b01_t k1, b01_f k2] at h; exact absurd h (by decide)
      · rw [b01_f k1] at h; exact absurd h (by simp [goC])
    rw [hg]
    refine z_istore (lv' := [(4, _), (3, _), (0, _), (1, _), (2, _)]) C dX6_sources_8 (rfl : 8 + 2 = 10) (by decide) rfl ?_
    refine z_iconst C dX6_sources_10 (rfl : 10 + 1 = 11) ?_
    refine z_istore (lv' := [(5, _), (4, _), (3, _), (0, _), (1, _), (2, _)]) C dX6_sources_11 (rfl : 11 + 2 = 13) (by decide) rfl ?_
    refine z_iload C 0 rfl dX6_sources_13 (rfl : 13 + 2 = 15) ?_
    refine z_aload_n C 3 rfl rfl dX6_sources_15 (rfl : 15 + 1 = 16) ?_
    refine z_get C xmm rfl iX6_sources_X6 5 (by decide) lX6_sources_f26 rfl rfl dX6_sources_16 (rfl : 16 + 3 = 19) ?_
    rw [show up2 V 25 0 (goC (b01 (0 ≤ p ∧ p < 24)) (b01 (1 ≤ r ∧ r ≤ 9)) 1) 5 0 = (n : Int) from h5]
    refine z_icmp_ge (pt := 94) C dX6_sources_19 (by decide) (rfl : 19 + 3 = 22) (iI_le (by omega) (by omega)).1 (fun q => mt (iI_le (by omega) (by omega)).2 q) (fun c1 => ?_) (fun c1 => ?_)
    · exact absurd c1 (by omega)
    refine z_iload C 1 rfl dX6_sources_22 (rfl : 22 + 2 = 24) ?_
    refine z_if_eq (pt := 94) C dX6_sources_24 (by decide) (rfl : 24 + 3 = 27) (iI_eq0 (by omega)).1 (fun q => mt (iI_eq0 (by omega)).2 q) (fun c2 => ?_) (fun c2 => ?_)
    rotate_left
    · exact absurd rfl c2
    refine z_iload_n C 2 rfl rfl dX6_sources_94 (rfl : 94 + 1 = 95) ?_
    refine z_iret C rfl dX6_sources_95 (.inr ?_) (by decide) (by decide)
    by_cases k1 : 0 ≤ p ∧ p < 24
    · have k2 : ¬ (1 ≤ r ∧ r ≤ 9) := fun h => hk ⟨k1, h⟩
      rw [b01_t k1, b01_f k2]
      exact .inr ⟨k1, k2, rfl, rfl⟩
    · rw [b01_f k1]
      exact .inl ⟨k1, rfl, rfl⟩
abbrev rmX6_family : Room := { frames := 3, cells := 0, slots := 0, locals := 80 }
theorem c_X6_family {z : Int} (hz : -2147483648 ≤ z ∧ z < 2147483648) (hw : WFV V n m t) : MC l yX6_family wsX6_family rmX6_family G base [.ref (q 30), .int (iI z)] (xm G q V ++ Y) (fun v w => ((0 ≤ z ∧ z < n) ∧ ∃ f : Nat → Int, IsFam V n f ∧ v = some (.int (iI (f z.toNat))) ∧ w = xm G q (va_up (up2 V 25 0 0) 24 f) ++ Y) ∨ (¬ (0 ≤ z ∧ z < n) ∧ v = some (.int (iI 0)) ∧ w = xm G q (up2 V 25 0 1) ++ Y)) (fun _ _ => False) := by
  refine MC.of (cc := cX6_family) (by decide) rfl rfl (Nat.le_of_ble_eq_true rfl) ?_
  intro κ C hT hl hnm
  have hn := hw.2.1
  refine z_sub [0, 1] (lv' := [(0, .ref (q 30)), (1, .int (iI z))]) rfl ?_
  refine z_aload_n C 0 rfl rfl dX6_family_0 (rfl : 0 + 1 = 1) ?_
  refine z_aload_n C 0 rfl rfl dX6_family_1 (rfl : 1 + 1 = 2) ?_
  refine z_iload_n C 1 rfl rfl dX6_family_2 (rfl : 2 + 1 = 3) ?_
  refine z_callV C 0 0 (c_X6_isCopy hz hw.1.1 (by omega)) gX6_family_X6_isCopy rfl hd43_X6_isCopy ⟨Nat.le_of_ble_eq_true rfl, Nat.le_of_ble_eq_true rfl⟩ xmm rfl rfl (Nat.le_of_ble_eq_true rfl) dX6_family_3 (rfl : 3 + 3 = 6) rfl rfl ⟨Nat.le_of_ble_eq_true rfl, Nat.le_of_ble_eq_true rfl⟩ (fun _ _ h => h.elim) ?_ rfl
  rintro _ _ ⟨rfl, rfl⟩
  refine z_v1 ?_
  refine z_iconst C dX6_family_6 (rfl : 6 + 1 = 7) ?_
  refine z_iconst C dX6_family_7 (rfl : 7 + 1 = 8) ?_
  by_cases hP : 0 ≤ z ∧ z < n
  · rw [b01_t hP]
    obtain ⟨i, rfl⟩ : ∃ i : Nat, z = (i : Int) := ⟨z.toNat, by omega⟩
    refine z_callV C 0 0 c_goes_ok gX6_family_X6_goes rfl hd43_X6_goes ⟨Nat.le_of_ble_eq_true rfl, Nat.le_of_ble_eq_true rfl⟩ xmm rfl rfl (Nat.le_of_ble_eq_true rfl) dX6_family_8 (rfl : 8 + 3 = 11) rfl rfl ⟨Nat.le_of_ble_eq_true rfl, Nat.le_of_ble_eq_true rfl⟩ (fun _ _ h => h.elim) ?_ rfl
    rintro _ _ ⟨rfl, rfl⟩
    refine z_v1 ?_
    refine z_if_ne (pt := 16) C dX6_family_11 (by decide) (rfl : 11 + 3 = 14) (fun q => mt (iI_eq0 (by omega)).2 q) (iI_eq0 (by omega)).1 (fun c1 => ?_) (fun c1 => ?_)
    rotate_left
    · exact absurd c1 (by omega)
    refine z_aload_n C 0 rfl rfl dX6_family_16 (rfl : 16 + 1 = 17) ?_
    refine z_callV C 0 0 (c_X6_sorts (V := up2 V 25 0 0) (hw.last 0)) gX6_family_X6_sorts rfl hd43_X6_sorts ⟨Nat.le_of_ble_eq_true rfl, Nat.le_of_ble_eq_true rfl⟩ xmm rfl rfl (Nat.le_of_ble_eq_true rfl) dX6_family_17 (rfl : 17 + 3 = 20) rfl rfl ⟨Nat.le_of_ble_eq_true rfl, Nat.le_of_ble_eq_true rfl⟩ (fun _ _ h => h.elim) ?_ rfl
    rintro _ _ ⟨rfl, f, hf, rfl⟩
    refine z_v0 ?_
    refine z_aload_n C 0 rfl rfl dX6_family_20 (rfl : 20 + 1 = 21) ?_
    refine z_get C xmm rfl iX6_family_X6 24 (by decide) lX6_family_f72 rfl rfl dX6_family_21 (rfl : 21 + 3 = 24) ?_
    refine z_iload_n C 1 rfl rfl dX6_family_24 (rfl : 24 + 1 = 25) ?_
    refine z_iald (x := iI ((va_up (up2 V 25 0 0) 24 f) 24 (i))) C xmm_24 ⟨by omega, by omega⟩ (by omega) rfl dX6_family_25 (rfl : 25 + 1 = 26) ?_
    rw [va_up_self]
    exact z_iret C rfl dX6_family_26 (.inl ⟨hP, f, hf, rfl, rfl⟩) (by decide) (by decide)
  · rw [b01_f hP]
    refine z_callV C 0 0 (c_goes_1 (.inr rfl) (.inr rfl)) gX6_family_X6_goes rfl hd43_X6_goes ⟨Nat.le_of_ble_eq_true rfl, Nat.le_of_ble_eq_true rfl⟩ xmm rfl rfl (Nat.le_of_ble_eq_true rfl) dX6_family_8 (rfl : 8 + 3 = 11) rfl rfl ⟨Nat.le_of_ble_eq_true rfl, Nat.le_of_ble_eq_true rfl⟩ (fun _ _ h => h.elim) ?_ rfl
    rintro _ _ ⟨rfl, rfl⟩
    refine z_v1 ?_
    refine z_if_ne (pt := 16) C dX6_family_11 (by decide) (rfl : 11 + 3 = 14) (fun q => mt (iI_eq0 (by omega)).2 q) (iI_eq0 (by omega)).1 (fun c1 => ?_) (fun c1 => ?_)
    · exact absurd rfl c1
    refine z_iconst C dX6_family_14 (rfl : 14 + 1 = 15) ?_
    exact z_iret C rfl dX6_family_15 (.inr ⟨hP, rfl, rfl⟩) (by decide) (by decide)
abbrev rmX6_familyByErrors : Room := { frames := 4, cells := 0, slots := 0, locals := 110 }
theorem c_X6_familyByErrors {z : Int} (hz : -2147483648 ≤ z ∧ z < 2147483648) (hw : WFV V n m t) : MC l yX6_familyByErrors wsX6_familyByErrors rmX6_familyByErrors G base [.ref (q 30), .int (iI z)] (xm G q V ++ Y) (fun v w => ((0 ≤ z ∧ z < n) ∧ ∃ f : Nat → Int, IsFam V n f ∧ v = some (.int (iI (f z.toNat))) ∧ w = xm G q (va_up (up2 V 25 0 0) 24 f) ++ Y) ∨ (¬ (0 ≤ z ∧ z < n) ∧ v = some (.int (iI 0)) ∧ w = xm G q (up2 V 25 0 1) ++ Y)) (fun _ _ => False) := by
  refine MC.of (cc := cX6_familyByErrors) (by decide) rfl rfl (Nat.le_of_ble_eq_true rfl) ?_
  intro κ C hT hl hnm
  refine z_sub [0, 1] (lv' := [(0, .ref (q 30)), (1, .int (iI z))]) rfl ?_
  refine z_aload_n C 0 rfl rfl dX6_familyByErrors_0 (rfl : 0 + 1 = 1) ?_
  refine z_iload_n C 1 rfl rfl dX6_familyByErrors_1 (rfl : 1 + 1 = 2) ?_
  refine z_callV C 0 0 (c_X6_family hz hw) gX6_familyByErrors_X6_family rfl hd43_X6_family ⟨Nat.le_of_ble_eq_true rfl, Nat.le_of_ble_eq_true rfl⟩ xmm rfl rfl (Nat.le_of_ble_eq_true rfl) dX6_familyByErrors_2 (rfl : 2 + 3 = 5) rfl rfl ⟨Nat.le_of_ble_eq_true rfl, Nat.le_of_ble_eq_true rfl⟩ (fun _ _ h => h.elim) ?_ rfl
  rintro _ _ (⟨h1, f, h2, rfl, rfl⟩ | ⟨h1, rfl, rfl⟩)
  · refine z_v1 ?_
    exact z_iret C rfl dX6_familyByErrors_5 (.inl ⟨h1, f, h2, rfl, rfl⟩) (by decide) (by decide)
  · refine z_v1 ?_
    exact z_iret C rfl dX6_familyByErrors_5 (.inr ⟨h1, rfl, rfl⟩) (by decide) (by decide)
abbrev rmX6_families : Room := { frames := 3, cells := 0, slots := 0, locals := 80 }
theorem lp_X6_families (C : Cx κ cX6_families 3 wsX6_families RX6 (some .int) rmX6_families G base) {f : Nat → Int} (h5 : V 5 0 = (n : Int)) (hn : n ≤ 40) (hf : ∀ k, k < n → 0 ≤ V 24 k ∧ V 24 k ≤ k) (hp : post (some (.int (iI (smI (fun i => b01 (V 24 i = (i : Int))) n)))) (xm G q V ++ Y)) :
    ∀ (d i : Nat), i + d = n → Z κ 3 G base mc ms post exc 0 0 13 [(2, .int (iI (i : Int))), (1, .int (iI (smI (fun i => b01 (V 24 i = (i : Int))) i))), (0, .ref (q 30))] [] (xm G q V ++ Y) := by
  intro d
  induction d with
  | zero =>
    intro i hi
    have e : i = n := by omega
    subst e
    refine z_iload_n C 0 rfl rfl dX6_families_13 (rfl : 13 + 1 = 14) ?_
    refine z_aload_n C 2 rfl rfl dX6_families_14 (rfl : 14 + 1 = 15) ?_
    refine z_get C xmm rfl iX6_families_X6 5 (by decide) lX6_families_f26 rfl rfl dX6_families_15 (rfl : 15 + 3 = 18) ?_
    rw [h5]
    refine z_icmp_ge (pt := 45) C dX6_families_18 (by decide) (rfl : 18 + 3 = 21) (iI_le (by omega) (by omega)).1 (fun q => mt (iI_le (by omega) (by omega)).2 q) (fun c1 => ?_) (fun c1 => ?_)
    · refine z_iload_n C 1 rfl rfl dX6_families_45 (rfl : 45 + 1 = 46) ?_
      exact z_iret C rfl dX6_families_46 hp (Nat.zero_le _) (Nat.zero_le _)
    · exact absurd c1 (by omega)
  | succ d ih =>
    intro i hi
    have r1 := hf i (by omega)
    have nx : ∀ z : Int, z = smI (fun i => b01 (V 24 i = (i : Int))) (i + 1) → Z κ 3 G base mc ms post exc 0 0 13 [(2, .int (iI ((i + 1 : Nat) : Int))), (1, .int (iI z)), (0, .ref (q 30))] [] (xm G q V ++ Y) := fun z hz => by rw [hz]; exact ih (i + 1) (by omega)
    refine z_iload_n C 0 rfl rfl dX6_families_13 (rfl : 13 + 1 = 14) ?_
    refine z_aload_n C 2 rfl rfl dX6_families_14 (rfl : 14 + 1 = 15) ?_
    refine z_get C xmm rfl iX6_families_X6 5 (by decide) lX6_families_f26 rfl rfl dX6_families_15 (rfl : 15 + 3 = 18) ?_
    rw [h5]
    refine z_icmp_ge (pt := 45) C dX6_families_18 (by decide) (rfl : 18 + 3 = 21) (iI_le (by omega) (by omega)).1 (fun q => mt (iI_le (by omega) (by omega)).2 q) (fun c1 => ?_) (fun c1 => ?_)
    · exact absurd c1 (by omega)
    refine z_iload_n C 1 rfl rfl dX6_families_21 (rfl : 21 + 1 = 22) ?_
    refine z_aload_n C 2 rfl rfl dX6_families_22 (rfl : 22 + 1 = 23) ?_
    refine z_get C xmm rfl iX6_families_X6 24 (by decide) lX6_families_f72 rfl rfl dX6_families_23 (rfl : 23 + 3 = 26) ?_
    refine z_iload_n C 0 rfl rfl dX6_families_26 (rfl : 26 + 1 = 27) ?_
    refine z_iald (x := iI (V 24 (i))) C xmm_24 ⟨by omega, by omega⟩ (by omega) rfl dX6_families_27 (rfl : 27 + 1 = 28) ?_
    refine z_iload_n C 0 rfl rfl dX6_families_28 (rfl : 28 + 1 = 29) ?_
    refine z_icmp_ne (pt := 36) C dX6_families_29 (by decide) (rfl : 29 + 3 = 32) (fun q => mt (iI_eq (by omega) (by omega)).2 q) (iI_eq (by omega) (by omega)).1 (fun c2 => ?_) (fun c2 => ?_)
    · refine z_iconst C dX6_families_36 (rfl : 36 + 1 = 37) ?_
      refine z_iadd C dX6_families_37 (rfl : 37 + 1 = 38) rfl ?_
      refine z_istore_n (lv' := [(1, _), (2, _), (0, _)]) C rfl dX6_families_38 (rfl : 38 + 1 = 39) (by decide) rfl ?_
      refine z_iinc (lv' := [(2, _), (1, _), (0, _)]) C 1 dX6_families_39 (rfl : 39 + 3 = 42) rfl rfl (by decide) rfl ?_
      refine z_goto (pc' := 13) C dX6_families_42 (by decide) ?_
      exact nx _ (by simp only [smI]; rw [b01_f c2])
    · refine z_iconst C dX6_families_32 (rfl : 32 + 1 = 33) ?_
      refine z_goto (pc' := 37) C dX6_families_33 (by decide) ?_
      refine z_iadd C dX6_families_37 (rfl : 37 + 1 = 38) rfl ?_
      refine z_istore_n (lv' := [(1, _), (2, _), (0, _)]) C rfl dX6_families_38 (rfl : 38 + 1 = 39) (by decide) rfl ?_
      refine z_iinc (lv' := [(2, _), (1, _), (0, _)]) C 1 dX6_families_39 (rfl : 39 + 3 = 42) rfl rfl (by decide) rfl ?_
      refine z_goto (pc' := 13) C dX6_families_42 (by decide) ?_
      exact nx _ (by simp only [smI]; rw [b01_t c2])
theorem c_X6_families (hw : WFV V n m t) : MC l yX6_families wsX6_families rmX6_families G base [.ref (q 30)] (xm G q V ++ Y) (fun v w => ∃ f : Nat → Int, IsFam V n f ∧ v = some (.int (iI (smI (fun i => b01 (f i = (i : Int))) n))) ∧ w = xm G q (va_up (up2 V 25 0 0) 24 f) ++ Y) (fun _ _ => False) := by
  refine MC.of (cc := cX6_families) (by decide) rfl rfl (Nat.le_of_ble_eq_true rfl) ?_
  intro κ C hT hl hnm
  refine z_aload_n C 0 rfl rfl dX6_families_0 (rfl : 0 + 1 = 1) ?_
  refine z_iconst C dX6_families_1 (rfl : 1 + 1 = 2) ?_
  refine z_put C tyX6 tyX6_ok nmX6 xmm rfl iX6_families_X6 25 (by decide) lX6_families_f75 rfl rfl rfl rfl rfl (Nat.le_of_ble_eq_true rfl) dX6_families_2 (rfl : 2 + 3 = 5) xms_25 ?_
  refine z_iconst C dX6_families_5 (rfl : 5 + 1 = 6) ?_
  refine z_istore_n (lv' := [(1, _), (0, _)]) C rfl dX6_families_6 (rfl : 6 + 1 = 7) (by decide) rfl ?_
  refine z_aload_n C 1 rfl rfl dX6_families_7 (rfl : 7 + 1 = 8) ?_
  refine z_callV C 0 0 (c_X6_sorts (V := up2 V 25 0 0) (hw.last 0)) gX6_families_X6_sorts rfl hd43_X6_sorts ⟨Nat.le_of_ble_eq_true rfl, Nat.le_of_ble_eq_true rfl⟩ xmm rfl rfl (Nat.le_of_ble_eq_true rfl) dX6_families_8 (rfl : 8 + 3 = 11) rfl rfl ⟨Nat.le_of_ble_eq_true rfl, Nat.le_of_ble_eq_true rfl⟩ (fun _ _ h => h.elim) ?_ rfl
  rintro _ _ ⟨rfl, f, hf, rfl⟩
  refine z_v0 ?_
  refine z_iconst C dX6_families_11 (rfl : 11 + 1 = 12) ?_
  refine z_istore_n (lv' := [(2, _), (1, _), (0, _)]) C rfl dX6_families_12 (rfl : 12 + 1 = 13) (by decide) rfl ?_
  refine lp_X6_families C (V := va_up (up2 V 25 0 0) 24 f) (f := f) hw.1.1 hw.2.1.1.2 (fun k hk => ?_) ⟨f, hf, ?_, rfl⟩ n 0 (by omega)
  · rw [va_up_self]
    obtain ⟨⟨r, h1, h2, -⟩, -⟩ := hf k hk
    omega
  · rw [va_up_self]
abbrev rmX6_rightGuesses : Room := { frames := 2, cells := 0, slots := 0, locals := 60 }
theorem lp_X6_rg (C : Cx κ cX6_rightGuesses 3 wsX6_rightGuesses RX6 (some .int) rmX6_rightGuesses G base) (hw : WFV V n m t) (hp : post (some (.int (iI (smI (fun i => b01 (0 < i ∧ gsV V i = V 1 i)) n)))) (xm G q V ++ Y)) :
    ∀ (d i : Nat), i + d = n → 0 < i → Z κ 3 G base mc ms post exc 0 0 9 [(2, .int (iI (i : Int))), (1, .int (iI (smI (fun i => b01 (0 < i ∧ gsV V i = V 1 i)) i))), (0, .ref (q 30))] [] (xm G q V ++ Y) := by
  have hn := hw.2.1
  have h5 := hw.1.1
  intro d
  induction d with
  | zero =>
    intro i hi h0
    have e : i = n := by omega
    subst e
    refine z_iload_n C 0 rfl rfl dX6_rightGuesses_9 (rfl : 9 + 1 = 10) ?_
    refine z_aload_n C 2 rfl rfl dX6_rightGuesses_10 (rfl : 10 + 1 = 11) ?_
    refine z_get C xmm rfl iX6_rightGuesses_X6 5 (by decide) lX6_rightGuesses_f26 rfl rfl dX6_rightGuesses_11 (rfl : 11 + 3 = 14) ?_
    rw [h5]
    refine z_icmp_ge (pt := 45) C dX6_rightGuesses_14 (by decide) (rfl : 14 + 3 = 17) (iI_le (by omega) (by omega)).1 (fun q => mt (iI_le (by omega) (by omega)).2 q) (fun c1 => ?_) (fun c1 => ?_)
    · refine z_iload_n C 1 rfl rfl dX6_rightGuesses_45 (rfl : 45 + 1 = 46) ?_
      exact z_iret C rfl dX6_rightGuesses_46 hp (Nat.zero_le _) (Nat.zero_le _)
    · exact absurd c1 (by omega)
  | succ d ih =>
    intro i hi h0
    have r1 := gsV_rng hw (c := i) (by omega) h0
    have r2 := hw.2.2.2.1.2 i h0 (by omega)
    have nx : ∀ z : Int, z = smI (fun i => b01 (0 < i ∧ gsV V i = V 1 i)) (i + 1) → Z κ 3 G base mc ms post exc 0 0 9 [(2, .int (iI ((i + 1 : Nat) : Int))), (1, .int (iI z)), (0, .ref (q 30))] [] (xm G q V ++ Y) := fun z hz => by rw [hz]; exact ih (i + 1) (by omega) (by omega)
    refine z_iload_n C 0 rfl rfl dX6_rightGuesses_9 (rfl : 9 + 1 = 10) ?_
    refine z_aload_n C 2 rfl rfl dX6_rightGuesses_10 (rfl : 10 + 1 = 11) ?_
    refine z_get C xmm rfl iX6_rightGuesses_X6 5 (by decide) lX6_rightGuesses_f26 rfl rfl dX6_rightGuesses_11 (rfl : 11 + 3 = 14) ?_
    rw [h5]
    refine z_icmp_ge (pt := 45) C dX6_rightGuesses_14 (by decide) (rfl : 14 + 3 = 17) (iI_le (by omega) (by omega)).1 (fun q => mt (iI_le (by omega) (by omega)).2 q) (fun c1 => ?_) (fun c1 => ?_)
    · exact absurd c1 (by omega)
    refine z_iload_n C 1 rfl rfl dX6_rightGuesses_17 (rfl : 17 + 1 = 18) ?_
    refine z_aload_n C 2 rfl rfl dX6_rightGuesses_18 (rfl : 18 + 1 = 19) ?_
    refine z_iload_n C 0 rfl rfl dX6_rightGuesses_19 (rfl : 19 + 1 = 20) ?_
    refine z_callV C 0 0 (c_X6_guesses (c := i) hw (by omega)) gX6_rightGuesses_X6_guesses rfl hd43_X6_guesses ⟨Nat.le_of_ble_eq_true rfl, Nat.le_of_ble_eq_true rfl⟩ xmm rfl rfl (Nat.le_of_ble_eq_true rfl) dX6_rightGuesses_20 (rfl : 20 + 3 = 23) rfl rfl ⟨Nat.le_of_ble_eq_true rfl, Nat.le_of_ble_eq_true rfl⟩ (fun _ _ h => h.elim) ?_ rfl
    rintro _ _ ⟨rfl, rfl⟩
    refine z_v1 ?_
    refine z_aload_n C 2 rfl rfl dX6_rightGuesses_23 (rfl : 23 + 1 = 24) ?_
    refine z_get C xmm rfl iX6_rightGuesses_X6 1 (by decide) lX6_rightGuesses_f13 rfl rfl dX6_rightGuesses_24 (rfl : 24 + 3 = 27) ?_
    refine z_iload_n C 0 rfl rfl dX6_rightGuesses_27 (rfl : 27 + 1 = 28) ?_
    refine z_iald (x := iI (V 1 (i))) C xmm_1 ⟨by omega, by omega⟩ (by omega) rfl dX6_rightGuesses_28 (rfl : 28 + 1 = 29) ?_
    refine z_icmp_ne (pt := 36) C dX6_rightGuesses_29 (by decide) (rfl : 29 + 3 = 32) (fun q => mt (iI_eq (by omega) (by omega)).2 q) (iI_eq (by omega) (by omega)).1 (fun c2 => ?_) (fun c2 => ?_)
    · refine z_iconst C dX6_rightGuesses_36 (rfl : 36 + 1 = 37) ?_
      refine z_iadd C dX6_rightGuesses_37 (rfl : 37 + 1 = 38) rfl ?_
      refine z_istore_n (lv' := [(1, _), (2, _), (0, _)]) C rfl dX6_rightGuesses_38 (rfl : 38 + 1 = 39) (by decide) rfl ?_
      refine z_iinc (lv' := [(2, _), (1, _), (0, _)]) C 1 dX6_rightGuesses_39 (rfl : 39 + 3 = 42) rfl rfl (by decide) rfl ?_
      refine z_goto (pc' := 9) C dX6_rightGuesses_42 (by decide) ?_
      exact nx _ (by simp only [smI]; rw [b01_f (fun h => c2 h.2)])
    · refine z_iconst C dX6_rightGuesses_32 (rfl : 32 + 1 = 33) ?_
      refine z_goto (pc' := 37) C dX6_rightGuesses_33 (by decide) ?_
      refine z_iadd C dX6_rightGuesses_37 (rfl : 37 + 1 = 38) rfl ?_
      refine z_istore_n (lv' := [(1, _), (2, _), (0, _)]) C rfl dX6_rightGuesses_38 (rfl : 38 + 1 = 39) (by decide) rfl ?_
      refine z_iinc (lv' := [(2, _), (1, _), (0, _)]) C 1 dX6_rightGuesses_39 (rfl : 39 + 3 = 42) rfl rfl (by decide) rfl ?_
      refine z_goto (pc' := 9) C dX6_rightGuesses_42 (by decide) ?_
      exact nx _ (by simp only [smI]; rw [b01_t ⟨h0, c2⟩])
theorem c_X6_rightGuesses (hw : WFV V n m t) : MC l yX6_rightGuesses wsX6_rightGuesses rmX6_rightGuesses G base [.ref (q 30)] (xm G q V ++ Y) (fun v w => v = some (.int (iI (smI (fun i => b01 (0 < i ∧ gsV V i = V 1 i)) n))) ∧ w = xm G q (up2 V 25 0 0) ++ Y) (fun _ _ => False) := by
  refine MC.of (cc := cX6_rightGuesses) (by decide) rfl rfl (Nat.le_of_ble_eq_true rfl) ?_
  intro κ C hT hl hnm
  have hn := hw.2.1
  refine z_aload_n C 0 rfl rfl dX6_rightGuesses_0 (rfl : 0 + 1 = 1) ?_
  refine z_iconst C dX6_rightGuesses_1 (rfl : 1 + 1 = 2) ?_
  refine z_put C tyX6 tyX6_ok nmX6 xmm rfl iX6_rightGuesses_X6 25 (by decide) lX6_rightGuesses_f75 rfl rfl rfl rfl rfl (Nat.le_of_ble_eq_true rfl) dX6_rightGuesses_2 (rfl : 2 + 3 = 5) xms_25 ?_
  refine z_iconst C dX6_rightGuesses_5 (rfl : 5 + 1 = 6) ?_
  refine z_istore_n (lv' := [(1, _), (0, _)]) C rfl dX6_rightGuesses_6 (rfl : 6 + 1 = 7) (by decide) rfl ?_
  refine z_iconst C dX6_rightGuesses_7 (rfl : 7 + 1 = 8) ?_
  refine z_istore_n (lv' := [(2, _), (1, _), (0, _)]) C rfl dX6_rightGuesses_8 (rfl : 8 + 1 = 9) (by decide) rfl ?_
  have hh := lp_X6_rg (mc := 0) (ms := 0) C (V := up2 V 25 0 0) (hw.last 0) (post := fun v w => v = some (.int (iI (smI (fun i => b01 (0 < i ∧ gsV V i = V 1 i)) n))) ∧ w = xm G q (up2 V 25 0 0) ++ Y) (exc := fun _ _ => False) ⟨by simp only [gsV_last]; rfl, rfl⟩ (n - 1) 1 (by omega) (by omega)
  exact hh
end
