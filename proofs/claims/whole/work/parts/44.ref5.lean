theorem hd44_X6_isCopy : yX6_isCopy.cls = RX6 ∧ yX6_isCopy.cls ≠ "java/lang/invoke/MethodHandle" ∧ yX6_isCopy.cls ≠ "java/lang/invoke/VarHandle" ∧ (parseMethodDescriptor yX6_isCopy.desc).map (fun d => d.parameters.length) = some 1 := by decide +kernel
theorem hd44_X6_goes : yX6_goes.cls = RX6 ∧ yX6_goes.cls ≠ "java/lang/invoke/MethodHandle" ∧ yX6_goes.cls ≠ "java/lang/invoke/VarHandle" ∧ (parseMethodDescriptor yX6_goes.desc).map (fun d => d.parameters.length) = some 3 := by decide +kernel
theorem lX6_tellModel_f16 : Cond.fieldLink RX6 16 "ModelCopiesModel" "told" "[Z" ∈ wsX6_tellModel := by decide +kernel
theorem iX6_tellModel_X6 : ∀ w ∈ wsX60, w ∈ wsX6_tellModel := by decide +kernel
theorem hd44_X6_sorts : yX6_sorts.cls = RX6 ∧ yX6_sorts.cls ≠ "java/lang/invoke/MethodHandle" ∧ yX6_sorts.cls ≠ "java/lang/invoke/VarHandle" ∧ (parseMethodDescriptor yX6_sorts.desc).map (fun d => d.parameters.length) = some 0 := by decide +kernel
theorem lX6_tellModel_f72 : Cond.fieldLink RX6 72 "ModelCopiesModel" "families" "[I" ∈ wsX6_tellModel := by decide +kernel
theorem hd44_X6_in : yX6_in.cls ≠ "java/lang/invoke/MethodHandle" ∧ yX6_in.cls ≠ "java/lang/invoke/VarHandle" ∧ (parseMethodDescriptor yX6_in.desc).map (fun d => d.parameters.length) = some 3 := by decide +kernel
theorem lX6_pass_f111 : Cond.fieldLink RX6 111 "ModelCopiesModel" "day" "I" ∈ wsX6_pass := by decide +kernel
theorem iX6_pass_X6 : ∀ w ∈ wsX60, w ∈ wsX6_pass := by decide +kernel
theorem lX6_slip_f92 : Cond.fieldLink RX6 92 "ModelCopiesModel" "drafted" "I" ∈ wsX6_slip := by decide +kernel
theorem iX6_slip_X6 : ∀ w ∈ wsX60, w ∈ wsX6_slip := by decide +kernel
theorem lX6_slip_f30 : Cond.fieldLink RX6 30 "ModelCopiesModel" "draft" "[I" ∈ wsX6_slip := by decide +kernel
theorem hd44_X6_isPlace : yX6_isPlace.cls ≠ "java/lang/invoke/MethodHandle" ∧ yX6_isPlace.cls ≠ "java/lang/invoke/VarHandle" ∧ (parseMethodDescriptor yX6_isPlace.desc).map (fun d => d.parameters.length) = some 1 := by decide +kernel
theorem lX6_gets_f82 : Cond.fieldLink RX6 82 "ModelCopiesModel" "letters" "I" ∈ wsX6_gets := by decide +kernel
theorem iX6_gets_X6 : ∀ w ∈ wsX60, w ∈ wsX6_gets := by decide +kernel
theorem lX6_gets_f45 : Cond.fieldLink RX6 45 "ModelCopiesModel" "has" "[Z" ∈ wsX6_gets := by decide +kernel
section
variable {κ : KxT} {G : GG} {base mc ms : Nat} {post : Option Value → va_W → Prop} {exc : String → va_W → Prop} {q : Nat → Nat} {V : Nat → Nat → Int} {Y : va_W} {l : Launch}
variable {n m t : Nat}
abbrev rmX6_tellModel : Room := { frames := 3, cells := 0, slots := 0, locals := 80 }
theorem c_X6_tellModel {z : Int} (hz : -2147483648 ≤ z ∧ z < 2147483648) (hw : WFV V n m t) : MC l yX6_tellModel wsX6_tellModel rmX6_tellModel G base [.ref (q 30), .int (iI z)] (xm G q V ++ Y) (fun v w => ((0 ≤ z ∧ z < n) ∧ (0 < z ∧ V 2 z.toNat = 0) ∧ ∃ f : Nat → Int, IsFam (up2 V 2 z.toNat 1) n f ∧ v = some (.int (iI (f z.toNat))) ∧ w = xm G q (va_up (up2 (up2 V 25 0 0) 2 z.toNat 1) 24 f) ++ Y) ∨ (¬ (0 ≤ z ∧ z < n) ∧ flQ G q V Y 1 v w) ∨ ((0 ≤ z ∧ z < n) ∧ ¬ (0 < z ∧ V 2 z.toNat = 0) ∧ flQ G q V Y 2 v w)) (fun _ _ => False) := by
  refine MC.of (cc := cX6_tellModel) (by decide) rfl rfl (Nat.le_of_ble_eq_true rfl) ?_
  intro κ C hT hl hnm
  have hn := hw.2.1
  refine z_sub [0, 1] (lv' := [(0, .ref (q 30)), (1, .int (iI z))]) rfl ?_
  refine z_aload_n C 0 rfl rfl dX6_tellModel_0 (rfl : 0 + 1 = 1) ?_
  refine z_iload_n C 1 rfl rfl dX6_tellModel_1 (rfl : 1 + 1 = 2) ?_
  refine z_callV C 0 0 (c_X6_isCopy hz hw.1.1 (by omega)) gX6_tellModel_X6_isCopy rfl hd44_X6_isCopy ⟨Nat.le_of_ble_eq_true rfl, Nat.le_of_ble_eq_true rfl⟩ xmm rfl rfl (Nat.le_of_ble_eq_true rfl) dX6_tellModel_2 (rfl : 2 + 3 = 5) rfl rfl ⟨Nat.le_of_ble_eq_true rfl, Nat.le_of_ble_eq_true rfl⟩ (fun _ _ h => h.elim) ?_ rfl
  rintro _ _ ⟨rfl, rfl⟩
  refine z_v1 ?_
  by_cases hP : 0 ≤ z ∧ z < n
  rotate_left
  · rw [b01_f hP]
    refine z_istore_n (lv' := [(2, _), (0, _), (1, _)]) C rfl dX6_tellModel_5 (rfl : 5 + 1 = 6) (by decide) rfl ?_
    refine z_aload_n C 1 rfl rfl dX6_tellModel_6 (rfl : 6 + 1 = 7) ?_
    refine z_iload_n C 0 rfl rfl dX6_tellModel_7 (rfl : 7 + 1 = 8) ?_
    refine z_iload_n C 0 rfl rfl dX6_tellModel_8 (rfl : 8 + 1 = 9) ?_
    refine z_if_eq (pt := 29) C dX6_tellModel_9 (by decide) (rfl : 9 + 3 = 12) (iI_eq0 (by omega)).1 (fun q => mt (iI_eq0 (by omega)).2 q) (fun c1 => ?_) (fun c1 => ?_)
    rotate_left
    · exact absurd rfl c1
    refine z_iconst C dX6_tellModel_29 (rfl : 29 + 1 = 30) ?_
    refine z_iconst C dX6_tellModel_30 (rfl : 30 + 1 = 31) ?_
    refine z_callV C 0 0 (c_goes_1 (.inl rfl) (.inr rfl)) gX6_tellModel_X6_goes rfl hd44_X6_goes ⟨Nat.le_of_ble_eq_true rfl, Nat.le_of_ble_eq_true rfl⟩ xmm rfl rfl (Nat.le_of_ble_eq_true rfl) dX6_tellModel_31 (rfl : 31 + 3 = 34) rfl rfl ⟨Nat.le_of_ble_eq_true rfl, Nat.le_of_ble_eq_true rfl⟩ (fun _ _ h => h.elim) ?_ rfl
    rintro _ _ ⟨rfl, rfl⟩
    refine z_v1 ?_
    refine z_if_ne (pt := 39) C dX6_tellModel_34 (by decide) (rfl : 34 + 3 = 37) (fun q => mt (iI_eq0 (by omega)).2 q) (iI_eq0 (by omega)).1 (fun c2 => ?_) (fun c2 => ?_)
    · exact absurd rfl c2
    refine z_iconst C dX6_tellModel_37 (rfl : 37 + 1 = 38) ?_
    exact z_iret C rfl dX6_tellModel_38 (.inr (.inl ⟨hP, rfl, rfl⟩)) (by decide) (by decide)
  rw [b01_t hP]
  obtain ⟨i, rfl⟩ : ∃ i : Nat, z = (i : Int) := ⟨z.toNat, by omega⟩
  have tc := hw.2.2.2.2.1.2 i (by omega)
  refine z_istore_n (lv' := [(2, _), (0, _), (1, _)]) C rfl dX6_tellModel_5 (rfl : 5 + 1 = 6) (by decide) rfl ?_
  refine z_aload_n C 1 rfl rfl dX6_tellModel_6 (rfl : 6 + 1 = 7) ?_
  refine z_iload_n C 0 rfl rfl dX6_tellModel_7 (rfl : 7 + 1 = 8) ?_
  refine z_iload_n C 0 rfl rfl dX6_tellModel_8 (rfl : 8 + 1 = 9) ?_
  refine z_if_eq (pt := 29) C dX6_tellModel_9 (by decide) (rfl : 9 + 3 = 12) (iI_eq0 (by omega)).1 (fun q => mt (iI_eq0 (by omega)).2 q) (fun c1 => ?_) (fun c1 => ?_)
  · exact absurd c1 (by omega)
  refine z_iload_n C 2 rfl rfl dX6_tellModel_12 (rfl : 12 + 1 = 13) ?_
  refine z_if_le (pt := 29) C dX6_tellModel_13 (by decide) (rfl : 13 + 3 = 16) (iI_le0 (by omega)).1 (fun q => mt (iI_le0 (by omega)).2 q) (fun c2 => ?_) (fun c2 => ?_)
  · refine z_iconst C dX6_tellModel_29 (rfl : 29 + 1 = 30) ?_
    refine z_iconst C dX6_tellModel_30 (rfl : 30 + 1 = 31) ?_
    refine z_callV C 0 0 (c_goes_2 (.inr rfl)) gX6_tellModel_X6_goes rfl hd44_X6_goes ⟨Nat.le_of_ble_eq_true rfl, Nat.le_of_ble_eq_true rfl⟩ xmm rfl rfl (Nat.le_of_ble_eq_true rfl) dX6_tellModel_31 (rfl : 31 + 3 = 34) rfl rfl ⟨Nat.le_of_ble_eq_true rfl, Nat.le_of_ble_eq_true rfl⟩ (fun _ _ h => h.elim) ?_ rfl
    rintro _ _ ⟨rfl, rfl⟩
    refine z_v1 ?_
    refine z_if_ne (pt := 39) C dX6_tellModel_34 (by decide) (rfl : 34 + 3 = 37) (fun q => mt (iI_eq0 (by omega)).2 q) (iI_eq0 (by omega)).1 (fun c3 => ?_) (fun c3 => ?_)
    · exact absurd rfl c3
    refine z_iconst C dX6_tellModel_37 (rfl : 37 + 1 = 38) ?_
    exact z_iret C rfl dX6_tellModel_38 (.inr (.inr ⟨hP, fun h => absurd c2 (by omega), rfl, rfl⟩)) (by decide) (by decide)
  refine z_aload_n C 1 rfl rfl dX6_tellModel_16 (rfl : 16 + 1 = 17) ?_
  refine z_get C xmm rfl iX6_tellModel_X6 2 (by decide) lX6_tellModel_f16 rfl rfl dX6_tellModel_17 (rfl : 17 + 3 = 20) ?_
  refine z_iload_n C 2 rfl rfl dX6_tellModel_20 (rfl : 20 + 1 = 21) ?_
  refine z_zald (x := iI (V 2 (i))) C xmm_2 ⟨by omega, by omega⟩ (by omega) rfl dX6_tellModel_21 (rfl : 21 + 1 = 22) ?_
  refine z_if_ne (pt := 29) C dX6_tellModel_22 (by decide) (rfl : 22 + 3 = 25) (fun q => mt (iI_eq0 (by omega)).2 q) (iI_eq0 (by omega)).1 (fun c3 => ?_) (fun c3 => ?_)
  · refine z_iconst C dX6_tellModel_29 (rfl : 29 + 1 = 30) ?_
    refine z_iconst C dX6_tellModel_30 (rfl : 30 + 1 = 31) ?_
    refine z_callV C 0 0 (c_goes_2 (.inr rfl)) gX6_tellModel_X6_goes rfl hd44_X6_goes ⟨Nat.le_of_ble_eq_true rfl, Nat.le_of_ble_eq_true rfl⟩ xmm rfl rfl (Nat.le_of_ble_eq_true rfl) dX6_tellModel_31 (rfl : 31 + 3 = 34) rfl rfl ⟨Nat.le_of_ble_eq_true rfl, Nat.le_of_ble_eq_true rfl⟩ (fun _ _ h => h.elim) ?_ rfl
    rintro _ _ ⟨rfl, rfl⟩
    refine z_v1 ?_
    refine z_if_ne (pt := 39) C dX6_tellModel_34 (by decide) (rfl : 34 + 3 = 37) (fun q => mt (iI_eq0 (by omega)).2 q) (iI_eq0 (by omega)).1 (fun c4 => ?_) (fun c4 => ?_)
    · exact absurd rfl c4
    refine z_iconst C dX6_tellModel_37 (rfl : 37 + 1 = 38) ?_
    exact z_iret C rfl dX6_tellModel_38 (.inr (.inr ⟨hP, fun h => c3 h.2, rfl, rfl⟩)) (by decide) (by decide)
  refine z_iconst C dX6_tellModel_25 (rfl : 25 + 1 = 26) ?_
  refine z_goto (pc' := 30) C dX6_tellModel_26 (by decide) ?_
  refine z_iconst C dX6_tellModel_30 (rfl : 30 + 1 = 31) ?_
  refine z_callV C 0 0 c_goes_ok gX6_tellModel_X6_goes rfl hd44_X6_goes ⟨Nat.le_of_ble_eq_true rfl, Nat.le_of_ble_eq_true rfl⟩ xmm rfl rfl (Nat.le_of_ble_eq_true rfl) dX6_tellModel_31 (rfl : 31 + 3 = 34) rfl rfl ⟨Nat.le_of_ble_eq_true rfl, Nat.le_of_ble_eq_true rfl⟩ (fun _ _ h => h.elim) ?_ rfl
  rintro _ _ ⟨rfl, rfl⟩
  refine z_v1 ?_
  refine z_if_ne (pt := 39) C dX6_tellModel_34 (by decide) (rfl : 34 + 3 = 37) (fun q => mt (iI_eq0 (by omega)).2 q) (iI_eq0 (by omega)).1 (fun c4 => ?_) (fun c4 => ?_)
  rotate_left
  · exact absurd c4 (by omega)
  refine z_aload_n C 1 rfl rfl dX6_tellModel_39 (rfl : 39 + 1 = 40) ?_
  refine z_get C xmm rfl iX6_tellModel_X6 2 (by decide) lX6_tellModel_f16 rfl rfl dX6_tellModel_40 (rfl : 40 + 3 = 43) ?_
  refine z_iload_n C 2 rfl rfl dX6_tellModel_43 (rfl : 43 + 1 = 44) ?_
  refine z_iconst C dX6_tellModel_44 (rfl : 44 + 1 = 45) ?_
  refine z_zast C xmm_2 ⟨by omega, by omega⟩ (by omega) (by omega) dX6_tellModel_45 (rfl : 45 + 1 = 46) (xms_2 (i := i)) ?_
  refine z_aload_n C 1 rfl rfl dX6_tellModel_46 (rfl : 46 + 1 = 47) ?_
  refine z_callV C 0 0 (c_X6_sorts (V := up2 (up2 V 25 0 0) 2 i 1) ((hw.last 0).tell (by omega))) gX6_tellModel_X6_sorts rfl hd44_X6_sorts ⟨Nat.le_of_ble_eq_true rfl, Nat.le_of_ble_eq_true rfl⟩ xmm rfl rfl (Nat.le_of_ble_eq_true rfl) dX6_tellModel_47 (rfl : 47 + 3 = 50) rfl rfl ⟨Nat.le_of_ble_eq_true rfl, Nat.le_of_ble_eq_true rfl⟩ (fun _ _ h => h.elim) ?_ rfl
  rintro _ _ ⟨rfl, f, hf, rfl⟩
  refine z_v0 ?_
  refine z_aload_n C 1 rfl rfl dX6_tellModel_50 (rfl : 50 + 1 = 51) ?_
  refine z_get C xmm rfl iX6_tellModel_X6 24 (by decide) lX6_tellModel_f72 rfl rfl dX6_tellModel_51 (rfl : 51 + 3 = 54) ?_
  refine z_iload_n C 2 rfl rfl dX6_tellModel_54 (rfl : 54 + 1 = 55) ?_
  refine z_iald (x := iI ((va_up (up2 (up2 V 25 0 0) 2 i 1) 24 f) 24 (i))) C xmm_24 ⟨by omega, by omega⟩ (by omega) rfl dX6_tellModel_55 (rfl : 55 + 1 = 56) ?_
  rw [va_up_self]
  exact z_iret C rfl dX6_tellModel_56 (.inl ⟨hP, ⟨by omega, c3⟩, f, hf, rfl, rfl⟩) (by decide) (by decide)
abbrev rmX6_pass : Room := { frames := 3, cells := 0, slots := 0, locals := 80 }
theorem c_X6_pass {z : Int} (hz : -2147483648 ≤ z ∧ z < 2147483648) (hw : WFV V n m t) : MC l yX6_pass wsX6_pass rmX6_pass G base [.ref (q 30), .int (iI z)] (xm G q V ++ Y) (fun v w => ((1 ≤ z ∧ z ≤ 200) ∧ V 9 0 + z ≤ 2000 ∧ v = some (.int (iI (V 9 0 + z))) ∧ w = xm G q (up2 (up2 V 25 0 0) 9 0 (V 9 0 + z)) ++ Y) ∨ (¬ (1 ≤ z ∧ z ≤ 200) ∧ flQ G q V Y 1 v w) ∨ ((1 ≤ z ∧ z ≤ 200) ∧ ¬ V 9 0 + z ≤ 2000 ∧ flQ G q V Y 2 v w)) (fun _ _ => False) := by
  refine MC.of (cc := cX6_pass) (by decide) rfl rfl (Nat.le_of_ble_eq_true rfl) ?_
  intro κ C hT hl hnm
  have hd := hw.2.2.2.2.2.2.2.2.2.2.2
  refine z_sub [0, 1] (lv' := [(0, .ref (q 30)), (1, .int (iI z))]) rfl ?_
  refine z_iload_n C 1 rfl rfl dX6_pass_0 (rfl : 0 + 1 = 1) ?_
  refine z_iconst C dX6_pass_1 (rfl : 1 + 1 = 2) ?_
  refine z_sipush (c := 200) C (by decide) dX6_pass_2 (rfl : 2 + 3 = 5) ?_
  refine z_callS C 0 0 (c_X6_in hz (by omega) (by omega)) gX6_pass_X6_in rfl hd44_X6_in ⟨Nat.le_of_ble_eq_true rfl, Nat.le_of_ble_eq_true rfl⟩ rfl (Nat.le_of_ble_eq_true rfl) dX6_pass_5 (rfl : 5 + 3 = 8) rfl rfl ⟨Nat.le_of_ble_eq_true rfl, Nat.le_of_ble_eq_true rfl⟩ (fun _ _ h => h.elim) ?_ rfl
  rintro _ _ ⟨rfl, rfl⟩
  refine z_v1 ?_
  by_cases hP : 1 ≤ z ∧ z ≤ 200
  rotate_left
  · rw [b01_f hP]
    refine z_istore_n (lv' := [(2, _), (0, _), (1, _)]) C rfl dX6_pass_8 (rfl : 8 + 1 = 9) (by decide) rfl ?_
    refine z_aload_n C 1 rfl rfl dX6_pass_9 (rfl : 9 + 1 = 10) ?_
    refine z_iload_n C 0 rfl rfl dX6_pass_10 (rfl : 10 + 1 = 11) ?_
    refine z_iload_n C 0 rfl rfl dX6_pass_11 (rfl : 11 + 1 = 12) ?_
    refine z_if_eq (pt := 31) C dX6_pass_12 (by decide) (rfl : 12 + 3 = 15) (iI_eq0 (by omega)).1 (fun q => mt (iI_eq0 (by omega)).2 q) (fun c1 => ?_) (fun c1 => ?_)
    rotate_left
    · exact absurd rfl c1
    refine z_iconst C dX6_pass_31 (rfl : 31 + 1 = 32) ?_
    refine z_iconst C dX6_pass_32 (rfl : 32 + 1 = 33) ?_
    refine z_callV C 0 0 (c_goes_1 (.inl rfl) (.inr rfl)) gX6_pass_X6_goes rfl hd44_X6_goes ⟨Nat.le_of_ble_eq_true rfl, Nat.le_of_ble_eq_true rfl⟩ xmm rfl rfl (Nat.le_of_ble_eq_true rfl) dX6_pass_33 (rfl : 33 + 3 = 36) rfl rfl ⟨Nat.le_of_ble_eq_true rfl, Nat.le_of_ble_eq_true rfl⟩ (fun _ _ h => h.elim) ?_ rfl
    rintro _ _ ⟨rfl, rfl⟩
    refine z_v1 ?_
    refine z_if_ne (pt := 41) C dX6_pass_36 (by decide) (rfl : 36 + 3 = 39) (fun q => mt (iI_eq0 (by omega)).2 q) (iI_eq0 (by omega)).1 (fun c2 => ?_) (fun c2 => ?_)
    · exact absurd rfl c2
    refine z_iconst C dX6_pass_39 (rfl : 39 + 1 = 40) ?_
    exact z_iret C rfl dX6_pass_40 (.inr (.inl ⟨hP, rfl, rfl⟩)) (by decide) (by decide)
  rw [b01_t hP]
  refine z_istore_n (lv' := [(2, _), (0, _), (1, _)]) C rfl dX6_pass_8 (rfl : 8 + 1 = 9) (by decide) rfl ?_
  refine z_aload_n C 1 rfl rfl dX6_pass_9 (rfl : 9 + 1 = 10) ?_
  refine z_iload_n C 0 rfl rfl dX6_pass_10 (rfl : 10 + 1 = 11) ?_
  refine z_iload_n C 0 rfl rfl dX6_pass_11 (rfl : 11 + 1 = 12) ?_
  refine z_if_eq (pt := 31) C dX6_pass_12 (by decide) (rfl : 12 + 3 = 15) (iI_eq0 (by omega)).1 (fun q => mt (iI_eq0 (by omega)).2 q) (fun c1 => ?_) (fun c1 => ?_)
  · exact absurd c1 (by omega)
  refine z_aload_n C 1 rfl rfl dX6_pass_15 (rfl : 15 + 1 = 16) ?_
  refine z_get C xmm rfl iX6_pass_X6 9 (by decide) lX6_pass_f111 rfl rfl dX6_pass_16 (rfl : 16 + 3 = 19) ?_
  refine z_iload_n C 2 rfl rfl dX6_pass_19 (rfl : 19 + 1 = 20) ?_
  refine z_iadd C dX6_pass_20 (rfl : 20 + 1 = 21) rfl ?_
  refine z_sipush (c := 2000) C (by decide) dX6_pass_21 (rfl : 21 + 3 = 24) ?_
  refine z_icmp_gt (pt := 31) C dX6_pass_24 (by decide) (rfl : 24 + 3 = 27) (iI_lt (by omega) (by omega)).1 (fun q => mt (iI_lt (by omega) (by omega)).2 q) (fun c2 => ?_) (fun c2 => ?_)
  · refine z_iconst C dX6_pass_31 (rfl : 31 + 1 = 32) ?_
    refine z_iconst C dX6_pass_32 (rfl : 32 + 1 = 33) ?_
    refine z_callV C 0 0 (c_goes_2 (.inr rfl)) gX6_pass_X6_goes rfl hd44_X6_goes ⟨Nat.le_of_ble_eq_true rfl, Nat.le_of_ble_eq_true rfl⟩ xmm rfl rfl (Nat.le_of_ble_eq_true rfl) dX6_pass_33 (rfl : 33 + 3 = 36) rfl rfl ⟨Nat.le_of_ble_eq_true rfl, Nat.le_of_ble_eq_true rfl⟩ (fun _ _ h => h.elim) ?_ rfl
    rintro _ _ ⟨rfl, rfl⟩
    refine z_v1 ?_
    refine z_if_ne (pt := 41) C dX6_pass_36 (by decide) (rfl : 36 + 3 = 39) (fun q => mt (iI_eq0 (by omega)).2 q) (iI_eq0 (by omega)).1 (fun c3 => ?_) (fun c3 => ?_)
    · exact absurd rfl c3
    refine z_iconst C dX6_pass_39 (rfl : 39 + 1 = 40) ?_
    exact z_iret C rfl dX6_pass_40 (.inr (.inr ⟨hP, by omega, rfl, rfl⟩)) (by decide) (by decide)
  refine z_iconst C dX6_pass_27 (rfl : 27 + 1 = 28) ?_
  refine z_goto (pc' := 32) C dX6_pass_28 (by decide) ?_
  refine z_iconst C dX6_pass_32 (rfl : 32 + 1 = 33) ?_
  refine z_callV C 0 0 c_goes_ok gX6_pass_X6_goes rfl hd44_X6_goes ⟨Nat.le_of_ble_eq_true rfl, Nat.le_of_ble_eq_true rfl⟩ xmm rfl rfl (Nat.le_of_ble_eq_true rfl) dX6_pass_33 (rfl : 33 + 3 = 36) rfl rfl ⟨Nat.le_of_ble_eq_true rfl, Nat.le_of_ble_eq_true rfl⟩ (fun _ _ h => h.elim) ?_ rfl
  rintro _ _ ⟨rfl, rfl⟩
  refine z_v1 ?_
  refine z_if_ne (pt := 41) C dX6_pass_36 (by decide) (rfl : 36 + 3 = 39) (fun q => mt (iI_eq0 (by omega)).2 q) (iI_eq0 (by omega)).1 (fun c3 => ?_) (fun c3 => ?_)
  rotate_left
  · exact absurd c3 (by omega)
  refine z_aload_n C 1 rfl rfl dX6_pass_41 (rfl : 41 + 1 = 42) ?_
  refine z_dup C rfl dX6_pass_42 (rfl : 42 + 1 = 43) ?_
  refine z_get C xmm rfl iX6_pass_X6 9 (by decide) lX6_pass_f111 rfl rfl dX6_pass_43 (rfl : 43 + 3 = 46) ?_
  refine z_iload_n C 2 rfl rfl dX6_pass_46 (rfl : 46 + 1 = 47) ?_
  refine z_iadd C dX6_pass_47 (rfl : 47 + 1 = 48) rfl ?_
  refine z_put C tyX6 tyX6_ok nmX6 xmm rfl iX6_pass_X6 9 (by decide) lX6_pass_f111 rfl rfl rfl rfl rfl (Nat.le_of_ble_eq_true rfl) dX6_pass_48 (rfl : 48 + 3 = 51) xms_9 ?_
  refine z_aload_n C 1 rfl rfl dX6_pass_51 (rfl : 51 + 1 = 52) ?_
  refine z_get C xmm rfl iX6_pass_X6 9 (by decide) lX6_pass_f111 rfl rfl dX6_pass_52 (rfl : 52 + 3 = 55) ?_
  exact z_iret C rfl dX6_pass_55 (.inl ⟨hP, by omega, by rw [up2_at]; rfl, rfl⟩) (by decide) (by decide)
abbrev rmX6_slip : Room := { frames := 3, cells := 0, slots := 0, locals := 80 }
theorem tl2_X6_slip (C : Cx κ cX6_slip 5 wsX6_slip RX6 (some .int) rmX6_slip G base) {i : Nat} {r x y b3 : Int} (hi : i < 24) (hp : post (some (.int (iI (V 7 0 + (x - y))))) (xm G q (up2 (up2 V 7 0 (V 7 0 + (x - y))) 6 i r) ++ Y)) : Z κ 5 G base mc ms post exc 0 0 89 [(4, .int (iI b3)), (3, .int (iI 1)), (0, .ref (q 30)), (1, .int (iI (i : Int))), (2, .int (iI r))] [.int (iI y), .int (iI x), .int (iI (V 7 0)), .ref (q 30)] (xm G q V ++ Y) := by
  refine z_isub C dX6_slip_89 (rfl : 89 + 1 = 90) rfl ?_
  refine z_iadd C dX6_slip_90 (rfl : 90 + 1 = 91) rfl ?_
  refine z_put C tyX6 tyX6_ok nmX6 xmm rfl iX6_slip_X6 7 (by decide) lX6_slip_f92 rfl rfl rfl rfl rfl (Nat.le_of_ble_eq_true rfl) dX6_slip_91 (rfl : 91 + 3 = 94) xms_7 ?_
  refine z_aload_n C 2 rfl rfl dX6_slip_94 (rfl : 94 + 1 = 95) ?_
  refine z_get C xmm rfl iX6_slip_X6 6 (by decide) lX6_slip_f30 rfl rfl dX6_slip_95 (rfl : 95 + 3 = 98) ?_
  refine z_iload_n C 3 rfl rfl dX6_slip_98 (rfl : 98 + 1 = 99) ?_
  refine z_iload_n C 4 rfl rfl dX6_slip_99 (rfl : 99 + 1 = 100) ?_
  refine z_iast C xmm_6 ⟨by omega, by omega⟩ (by omega) dX6_slip_100 (rfl : 100 + 1 = 101) (xms_6 (i := i)) ?_
  refine z_aload_n C 2 rfl rfl dX6_slip_101 (rfl : 101 + 1 = 102) ?_
  refine z_get C xmm rfl iX6_slip_X6 7 (by decide) lX6_slip_f92 rfl rfl dX6_slip_102 (rfl : 102 + 3 = 105) ?_
  exact z_iret C rfl dX6_slip_105 (by simp only [up2, va_up] at hp ⊢; exact hp) (Nat.zero_le _) (Nat.zero_le _)
theorem tl_X6_slip (C : Cx κ cX6_slip 5 wsX6_slip RX6 (some .int) rmX6_slip G base) {i : Nat} {r b3 : Int} (hi : i < 24) (hr : -2147483648 ≤ r ∧ r < 2147483648) (hw : WFV V n m t) (h3 : b3 = 0 ∧ ¬ okSlip V i r ∨ b3 = 1 ∧ okSlip V i r) (hm : mc = 0 ∧ ms = 0)
    (hp : ∀ v w, (((-1 ≤ r ∧ r ≤ 9) ∧ okSlip V i r ∧ v = some (.int (iI (nsSlip V i r 7 0))) ∧ w = xm G q (nsSlip (up2 V 25 0 0) i r) ++ Y) ∨ (¬ (-1 ≤ r ∧ r ≤ 9) ∧ flQ G q V Y 2 v w) ∨ ((-1 ≤ r ∧ r ≤ 9) ∧ ¬ okSlip V i r ∧ flQ G q V Y 3 v w)) → post v w) : Z κ 5 G base mc ms post exc 0 0 38 [(3, .int (iI 1)), (0, .ref (q 30)), (1, .int (iI (i : Int))), (2, .int (iI r))] [.int (iI b3)] (xm G q V ++ Y) := by
  obtain ⟨rfl, rfl⟩ := hm
  have r6 := hw.2.2.2.2.2.2.1 i hi
  refine z_istore (lv' := [(4, _), (3, _), (0, _), (1, _), (2, _)]) C dX6_slip_38 (rfl : 38 + 2 = 40) (by decide) rfl ?_
  refine z_aload_n C 2 rfl rfl dX6_slip_40 (rfl : 40 + 1 = 41) ?_
  refine z_iload_n C 1 rfl rfl dX6_slip_41 (rfl : 41 + 1 = 42) ?_
  refine z_iload_n C 4 rfl rfl dX6_slip_42 (rfl : 42 + 1 = 43) ?_
  refine z_iconst C dX6_slip_43 (rfl : 43 + 1 = 44) ?_
  refine z_bipush (c := 9) C (by decide) dX6_slip_44 (rfl : 44 + 2 = 46) ?_
  refine z_callS C 0 0 (c_X6_in hr (by omega) (by omega)) gX6_slip_X6_in rfl hd44_X6_in ⟨Nat.le_of_ble_eq_true rfl, Nat.le_of_ble_eq_true rfl⟩ rfl (Nat.le_of_ble_eq_true rfl) dX6_slip_46 (rfl : 46 + 3 = 49) rfl rfl ⟨Nat.le_of_ble_eq_true rfl, Nat.le_of_ble_eq_true rfl⟩ (fun _ _ h => h.elim) ?_ rfl
  rintro _ _ ⟨rfl, rfl⟩
  refine z_v1 ?_
  refine z_iload C 0 rfl dX6_slip_49 (rfl : 49 + 2 = 51) ?_
  by_cases k2 : -1 ≤ r ∧ r ≤ 9
  rotate_left
  · rw [b01_f k2]
    refine z_callV C 0 0 (c_goes_2 (by omega)) gX6_slip_X6_goes rfl hd44_X6_goes ⟨Nat.le_of_ble_eq_true rfl, Nat.le_of_ble_eq_true rfl⟩ xmm rfl rfl (Nat.le_of_ble_eq_true rfl) dX6_slip_51 (rfl : 51 + 3 = 54) rfl rfl ⟨Nat.le_of_ble_eq_true rfl, Nat.le_of_ble_eq_true rfl⟩ (fun _ _ h => h.elim) ?_ rfl
    rintro _ _ ⟨rfl, rfl⟩
    refine z_v1 ?_
    refine z_if_ne (pt := 59) C dX6_slip_54 (by decide) (rfl : 54 + 3 = 57) (fun q => mt (iI_eq0 (by omega)).2 q) (iI_eq0 (by omega)).1 (fun c3 => ?_) (fun c3 => ?_)
    · exact absurd rfl c3
    refine z_iconst C dX6_slip_57 (rfl : 57 + 1 = 58) ?_
    exact z_iret C rfl dX6_slip_58 (hp _ _ (.inr (.inl ⟨k2, rfl, rfl⟩))) (by decide) (by decide)
  rw [b01_t k2]
  rcases h3 with ⟨rfl, k3⟩ | ⟨rfl, k3⟩
  · refine z_callV C 0 0 c_goes_3 gX6_slip_X6_goes rfl hd44_X6_goes ⟨Nat.le_of_ble_eq_true rfl, Nat.le_of_ble_eq_true rfl⟩ xmm rfl rfl (Nat.le_of_ble_eq_true rfl) dX6_slip_51 (rfl : 51 + 3 = 54) rfl rfl ⟨Nat.le_of_ble_eq_true rfl, Nat.le_of_ble_eq_true rfl⟩ (fun _ _ h => h.elim) ?_ rfl
    rintro _ _ ⟨rfl, rfl⟩
    refine z_v1 ?_
    refine z_if_ne (pt := 59) C dX6_slip_54 (by decide) (rfl : 54 + 3 = 57) (fun q => mt (iI_eq0 (by omega)).2 q) (iI_eq0 (by omega)).1 (fun c3 => ?_) (fun c3 => ?_)
    · exact absurd rfl c3
    refine z_iconst C dX6_slip_57 (rfl : 57 + 1 = 58) ?_
    exact z_iret C rfl dX6_slip_58 (hp _ _ (.inr (.inr ⟨k2, k3, rfl, rfl⟩))) (by decide) (by decide)
  refine z_callV C 0 0 c_goes_ok gX6_slip_X6_goes rfl hd44_X6_goes ⟨Nat.le_of_ble_eq_true rfl, Nat.le_of_ble_eq_true rfl⟩ xmm rfl rfl (Nat.le_of_ble_eq_true rfl) dX6_slip_51 (rfl : 51 + 3 = 54) rfl rfl ⟨Nat.le_of_ble_eq_true rfl, Nat.le_of_ble_eq_true rfl⟩ (fun _ _ h => h.elim) ?_ rfl
  rintro _ _ ⟨rfl, rfl⟩
  refine z_v1 ?_
  refine z_if_ne (pt := 59) C dX6_slip_54 (by decide) (rfl : 54 + 3 = 57) (fun q => mt (iI_eq0 (by omega)).2 q) (iI_eq0 (by omega)).1 (fun c3 => ?_) (fun c3 => ?_)
  rotate_left
  · exact absurd c3 (by omega)
  have fin : ∀ x y : Int, x = b01 (r ≠ -1) → y = b01 (V 6 i ≠ -1) → post (some (.int (iI (V 7 0 + (x - y))))) (xm G q (up2 (up2 (up2 V 25 0 0) 7 0 (V 7 0 + (x - y))) 6 i r) ++ Y) := fun x y hx hy => hp _ _ (.inl ⟨k2, k3, by rw [hx, hy]; rfl, by rw [hx, hy]; rfl⟩)
  refine z_aload_n C 2 rfl rfl dX6_slip_59 (rfl : 59 + 1 = 60) ?_
  refine z_dup C rfl dX6_slip_60 (rfl : 60 + 1 = 61) ?_
  refine z_get C xmm rfl iX6_slip_X6 7 (by decide) lX6_slip_f92 rfl rfl dX6_slip_61 (rfl : 61 + 3 = 64) ?_
  refine z_iload_n C 4 rfl rfl dX6_slip_64 (rfl : 64 + 1 = 65) ?_
  refine z_iconst C dX6_slip_65 (rfl : 65 + 1 = 66) ?_
  refine z_icmp_ne (pt := 73) C dX6_slip_66 (by decide) (rfl : 66 + 3 = 69) (fun q => mt (iI_eq (by omega) (by omega)).2 q) (iI_eq (by omega) (by omega)).1 (fun c4 => ?_) (fun c4 => ?_)
  · refine z_iconst C dX6_slip_73 (rfl : 73 + 1 = 74) ?_
    refine z_aload_n C 2 rfl rfl dX6_slip_74 (rfl : 74 + 1 = 75) ?_
    refine z_get C xmm rfl iX6_slip_X6 6 (by decide) lX6_slip_f30 rfl rfl dX6_slip_75 (rfl : 75 + 3 = 78) ?_
    refine z_iload_n C 3 rfl rfl dX6_slip_78 (rfl : 78 + 1 = 79) ?_
    refine z_iald (x := iI (V 6 (i))) C xmm_6 ⟨by omega, by omega⟩ (by omega) rfl dX6_slip_79 (rfl : 79 + 1 = 80) ?_
    refine z_iconst C dX6_slip_80 (rfl : 80 + 1 = 81) ?_
    refine z_icmp_ne (pt := 88) C dX6_slip_81 (by decide) (rfl : 81 + 3 = 84) (fun q => mt (iI_eq (by omega) (by omega)).2 q) (iI_eq (by omega) (by omega)).1 (fun c5 => ?_) (fun c5 => ?_)
    · refine z_iconst C dX6_slip_88 (rfl : 88 + 1 = 89) ?_
      exact tl2_X6_slip C (V := up2 V 25 0 0) hi (fin 1 1 (b01_t c4).symm (b01_t c5).symm)
    · refine z_iconst C dX6_slip_84 (rfl : 84 + 1 = 85) ?_
      refine z_goto (pc' := 89) C dX6_slip_85 (by decide) ?_
      exact tl2_X6_slip C (V := up2 V 25 0 0) hi (fin 1 0 (b01_t c4).symm (b01_f (fun h => h c5)).symm)
  · refine z_iconst C dX6_slip_69 (rfl : 69 + 1 = 70) ?_
    refine z_goto (pc' := 74) C dX6_slip_70 (by decide) ?_
    refine z_aload_n C 2 rfl rfl dX6_slip_74 (rfl : 74 + 1 = 75) ?_
    refine z_get C xmm rfl iX6_slip_X6 6 (by decide) lX6_slip_f30 rfl rfl dX6_slip_75 (rfl : 75 + 3 = 78) ?_
    refine z_iload_n C 3 rfl rfl dX6_slip_78 (rfl : 78 + 1 = 79) ?_
    refine z_iald (x := iI (V 6 (i))) C xmm_6 ⟨by omega, by omega⟩ (by omega) rfl dX6_slip_79 (rfl : 79 + 1 = 80) ?_
    refine z_iconst C dX6_slip_80 (rfl : 80 + 1 = 81) ?_
    refine z_icmp_ne (pt := 88) C dX6_slip_81 (by decide) (rfl : 81 + 3 = 84) (fun q => mt (iI_eq (by omega) (by omega)).2 q) (iI_eq (by omega) (by omega)).1 (fun c5 => ?_) (fun c5 => ?_)
    · refine z_iconst C dX6_slip_88 (rfl : 88 + 1 = 89) ?_
      exact tl2_X6_slip C (V := up2 V 25 0 0) hi (fin 0 1 (b01_f (fun h => h c4)).symm (b01_t c5).symm)
    · refine z_iconst C dX6_slip_84 (rfl : 84 + 1 = 85) ?_
      refine z_goto (pc' := 89) C dX6_slip_85 (by decide) ?_
      exact tl2_X6_slip C (V := up2 V 25 0 0) hi (fin 0 0 (b01_f (fun h => h c4)).symm (b01_f (fun h => h c5)).symm)
theorem c_X6_slip {p r : Int} (hp : -2147483648 ≤ p ∧ p < 2147483648) (hr : -2147483648 ≤ r ∧ r < 2147483648) (hw : WFV V n m t) : MC l yX6_slip wsX6_slip rmX6_slip G base [.ref (q 30), .int (iI p), .int (iI r)] (xm G q V ++ Y) (fun v w => ((0 ≤ p ∧ p < 24) ∧ (-1 ≤ r ∧ r ≤ 9) ∧ okSlip V p r ∧ v = some (.int (iI (nsSlip V p.toNat r 7 0))) ∧ w = xm G q (nsSlip (up2 V 25 0 0) p.toNat r) ++ Y) ∨ (¬ (0 ≤ p ∧ p < 24) ∧ flQ G q V Y 1 v w) ∨ ((0 ≤ p ∧ p < 24) ∧ ¬ (-1 ≤ r ∧ r ≤ 9) ∧ flQ G q V Y 2 v w) ∨ ((0 ≤ p ∧ p < 24) ∧ (-1 ≤ r ∧ r ≤ 9) ∧ ¬ okSlip V p r ∧ flQ G q V Y 3 v w)) (fun _ _ => False) := by
  refine MC.of (cc := cX6_slip) (by decide) rfl rfl (Nat.le_of_ble_eq_true rfl) ?_
  intro κ C hT hl hnm
  refine z_sub [0, 1, 2] (lv' := [(0, .ref (q 30)), (1, .int (iI p)), (2, .int (iI r))]) rfl ?_
  refine z_iload_n C 1 rfl rfl dX6_slip_0 (rfl : 0 + 1 = 1) ?_
  refine z_callS C 0 0 (c_X6_isPlace hp) gX6_slip_X6_isPlace rfl hd44_X6_isPlace ⟨Nat.le_of_ble_eq_true rfl, Nat.le_of_ble_eq_true rfl⟩ rfl (Nat.le_of_ble_eq_true rfl) dX6_slip_1 (rfl : 1 + 3 = 4) rfl rfl ⟨Nat.le_of_ble_eq_true rfl, Nat.le_of_ble_eq_true rfl⟩ (fun _ _ h => h.elim) ?_ rfl
  rintro _ _ ⟨rfl, rfl⟩
  refine z_v1 ?_
  by_cases k1 : 0 ≤ p ∧ p < 24
  rotate_left
  · rw [b01_f k1]
    refine z_istore_n (lv' := [(3, _), (0, _), (1, _), (2, _)]) C rfl dX6_slip_4 (rfl : 4 + 1 = 5) (by decide) rfl ?_
    refine z_iload_n C 0 rfl rfl dX6_slip_5 (rfl : 5 + 1 = 6) ?_
    refine z_if_eq (pt := 37) C dX6_slip_6 (by decide) (rfl : 6 + 3 = 9) (iI_eq0 (by omega)).1 (fun q => mt (iI_eq0 (by omega)).2 q) (fun c1 => ?_) (fun c1 => ?_)
    rotate_left
    · exact absurd rfl c1
    refine z_iconst C dX6_slip_37 (rfl : 37 + 1 = 38) ?_
    refine z_istore (lv' := [(4, _), (3, _), (0, _), (1, _), (2, _)]) C dX6_slip_38 (rfl : 38 + 2 = 40) (by decide) rfl ?_
    refine z_aload_n C 2 rfl rfl dX6_slip_40 (rfl : 40 + 1 = 41) ?_
    refine z_iload_n C 1 rfl rfl dX6_slip_41 (rfl : 41 + 1 = 42) ?_
    refine z_iload_n C 4 rfl rfl dX6_slip_42 (rfl : 42 + 1 = 43) ?_
    refine z_iconst C dX6_slip_43 (rfl : 43 + 1 = 44) ?_
    refine z_bipush (c := 9) C (by decide) dX6_slip_44 (rfl : 44 + 2 = 46) ?_
    refine z_callS C 0 0 (c_X6_in hr (by omega) (by omega)) gX6_slip_X6_in rfl hd44_X6_in ⟨Nat.le_of_ble_eq_true rfl, Nat.le_of_ble_eq_true rfl⟩ rfl (Nat.le_of_ble_eq_true rfl) dX6_slip_46 (rfl : 46 + 3 = 49) rfl rfl ⟨Nat.le_of_ble_eq_true rfl, Nat.le_of_ble_eq_true rfl⟩ (fun _ _ h => h.elim) ?_ rfl
    rintro _ _ ⟨rfl, rfl⟩
    refine z_v1 ?_
    refine z_iload C 0 rfl dX6_slip_49 (rfl : 49 + 2 = 51) ?_
    refine z_callV C 0 0 (c_goes_1 (b01_01 _) (.inl rfl)) gX6_slip_X6_goes rfl hd44_X6_goes ⟨Nat.le_of_ble_eq_true rfl, Nat.le_of_ble_eq_true rfl⟩ xmm rfl rfl (Nat.le_of_ble_eq_true rfl) dX6_slip_51 (rfl : 51 + 3 = 54) rfl rfl ⟨Nat.le_of_ble_eq_true rfl, Nat.le_of_ble_eq_true rfl⟩ (fun _ _ h => h.elim) ?_ rfl
    rintro _ _ ⟨rfl, rfl⟩
    refine z_v1 ?_
    refine z_if_ne (pt := 59) C dX6_slip_54 (by decide) (rfl : 54 + 3 = 57) (fun q => mt (iI_eq0 (by omega)).2 q) (iI_eq0 (by omega)).1 (fun c3 => ?_) (fun c3 => ?_)
    · exact absurd rfl c3
    refine z_iconst C dX6_slip_57 (rfl : 57 + 1 = 58) ?_
    exact z_iret C rfl dX6_slip_58 (.inr (.inl ⟨k1, rfl, rfl⟩)) (by decide) (by decide)
  rw [b01_t k1]
  obtain ⟨i, rfl⟩ : ∃ i : Nat, p = (i : Int) := ⟨p.toNat, by omega⟩
  have hi : i < 24 := by omega
  have r6 := hw.2.2.2.2.2.2.1 i hi
  have fin : ∀ v w, (((-1 ≤ r ∧ r ≤ 9) ∧ okSlip V i r ∧ v = some (.int (iI (nsSlip V i r 7 0))) ∧ w = xm G q (nsSlip (up2 V 25 0 0) i r) ++ Y) ∨ (¬ (-1 ≤ r ∧ r ≤ 9) ∧ flQ G q V Y 2 v w) ∨ ((-1 ≤ r ∧ r ≤ 9) ∧ ¬ okSlip V i r ∧ flQ G q V Y 3 v w)) → ((0 ≤ (i : Int) ∧ (i : Int) < 24) ∧ (-1 ≤ r ∧ r ≤ 9) ∧ okSlip V i r ∧ v = some (.int (iI (nsSlip V (i : Int).toNat r 7 0))) ∧ w = xm G q (nsSlip (up2 V 25 0 0) (i : Int).toNat r) ++ Y) ∨ (¬ (0 ≤ (i : Int) ∧ (i : Int) < 24) ∧ flQ G q V Y 1 v w) ∨ ((0 ≤ (i : Int) ∧ (i : Int) < 24) ∧ ¬ (-1 ≤ r ∧ r ≤ 9) ∧ flQ G q V Y 2 v w) ∨ ((0 ≤ (i : Int) ∧ (i : Int) < 24) ∧ (-1 ≤ r ∧ r ≤ 9) ∧ ¬ okSlip V i r ∧ flQ G q V Y 3 v w) := fun v w h => by
    rcases h with h | h | h
    · exact .inl ⟨k1, h⟩
    · exact .inr (.inr (.inl ⟨k1, h⟩))
    · exact .inr (.inr (.inr ⟨k1, h⟩))
  refine z_istore_n (lv' := [(3, _), (0, _), (1, _), (2, _)]) C rfl dX6_slip_4 (rfl : 4 + 1 = 5) (by decide) rfl ?_
  refine z_iload_n C 0 rfl rfl dX6_slip_5 (rfl : 5 + 1 = 6) ?_
  refine z_if_eq (pt := 37) C dX6_slip_6 (by decide) (rfl : 6 + 3 = 9) (iI_eq0 (by omega)).1 (fun q => mt (iI_eq0 (by omega)).2 q) (fun c1 => ?_) (fun c1 => ?_)
  · exact absurd c1 (by omega)
  refine z_iload_n C 3 rfl rfl dX6_slip_9 (rfl : 9 + 1 = 10) ?_
  refine z_iconst C dX6_slip_10 (rfl : 10 + 1 = 11) ?_
  refine z_icmp_eq (pt := 33) C dX6_slip_11 (by decide) (rfl : 11 + 3 = 14) (iI_eq (by omega) (by omega)).1 (fun q => mt (iI_eq (by omega) (by omega)).2 q) (fun c2 => ?_) (fun c2 => ?_)
  · refine z_iconst C dX6_slip_33 (rfl : 33 + 1 = 34) ?_
    refine z_goto (pc' := 38) C dX6_slip_34 (by decide) ?_
    exact tl_X6_slip C hi hr hw (.inr ⟨rfl, .inl c2⟩) ⟨rfl, rfl⟩ fin
  refine z_aload_n C 1 rfl rfl dX6_slip_14 (rfl : 14 + 1 = 15) ?_
  refine z_get C xmm rfl iX6_slip_X6 6 (by decide) lX6_slip_f30 rfl rfl dX6_slip_15 (rfl : 15 + 3 = 18) ?_
  refine z_iload_n C 2 rfl rfl dX6_slip_18 (rfl : 18 + 1 = 19) ?_
  refine z_iald (x := iI (V 6 (i))) C xmm_6 ⟨by omega, by omega⟩ (by omega) rfl dX6_slip_19 (rfl : 19 + 1 = 20) ?_
  refine z_iconst C dX6_slip_20 (rfl : 20 + 1 = 21) ?_
  refine z_icmp_ne (pt := 33) C dX6_slip_21 (by decide) (rfl : 21 + 3 = 24) (fun q => mt (iI_eq (by omega) (by omega)).2 q) (iI_eq (by omega) (by omega)).1 (fun c3 => ?_) (fun c3 => ?_)
  · refine z_iconst C dX6_slip_33 (rfl : 33 + 1 = 34) ?_
    refine z_goto (pc' := 38) C dX6_slip_34 (by decide) ?_
    exact tl_X6_slip C hi hr hw (.inr ⟨rfl, .inr (.inl c3)⟩) ⟨rfl, rfl⟩ fin
  refine z_aload_n C 1 rfl rfl dX6_slip_24 (rfl : 24 + 1 = 25) ?_
  refine z_get C xmm rfl iX6_slip_X6 7 (by decide) lX6_slip_f92 rfl rfl dX6_slip_25 (rfl : 25 + 3 = 28) ?_
  refine z_bipush (c := 6) C (by decide) dX6_slip_28 (rfl : 28 + 2 = 30) ?_
  refine z_icmp_ge (pt := 37) C dX6_slip_30 (by decide) (rfl : 30 + 3 = 33) (Iff.rfl).1 (fun q => mt (Iff.rfl).2 q) (fun c4 => ?_) (fun c4 => ?_)
  · refine z_iconst C dX6_slip_37 (rfl : 37 + 1 = 38) ?_
    exact tl_X6_slip C hi hr hw (.inl ⟨rfl, fun h => h.elim c2 (fun h => h.elim (fun h => h c3) (fun h => i32_nlt.mpr c4 h))⟩) ⟨rfl, rfl⟩ fin
  · refine z_iconst C dX6_slip_33 (rfl : 33 + 1 = 34) ?_
    refine z_goto (pc' := 38) C dX6_slip_34 (by decide) ?_
    exact tl_X6_slip C hi hr hw (.inr ⟨rfl, .inr (.inr (i32_nle.mp c4))⟩) ⟨rfl, rfl⟩ fin
abbrev rmX6_gets : Room := { frames := 0, cells := 0, slots := 0, locals := 0 }
theorem lp_X6_gets (C : Cx κ cX6_gets 4 wsX6_gets RX6 none rmX6_gets G base) {h o : Nat} (h14 : V 14 0 = (m : Int)) (hm : m ≤ 60) (hh : h < 5) (ho : o < 5) (hB : ∀ j, j < 300 → V 13 j = 0 ∨ V 13 j = 1) (hp : ∀ f : Nat → Int, gtL V m h o f → post none (xm G q (va_up V 13 f) ++ Y)) :
    ∀ (d i : Nat) (f : Nat → Int), i + d = m → gtL V i h o f → Z κ 4 G base mc ms post exc 0 0 2 [(3, .int (iI (i : Int))), (0, .ref (q 30)), (1, .int (iI (h : Int))), (2, .int (iI (o : Int)))] [] (xm G q (va_up V 13 f) ++ Y) := by
  intro d
  induction d with
  | zero =>
    intro i f hi hf
    have e : i = m := by omega
    subst e
    refine z_iload_n C 0 rfl rfl dX6_gets_2 (rfl : 2 + 1 = 3) ?_
    refine z_aload_n C 1 rfl rfl dX6_gets_3 (rfl : 3 + 1 = 4) ?_
    refine z_get C xmm rfl iX6_gets_X6 14 (by decide) lX6_gets_f82 rfl rfl dX6_gets_4 (rfl : 4 + 3 = 7) ?_
    refine z_topi (y := iI ((i : Int))) (congrArg iI h14) ?_
    refine z_icmp_ge (pt := 60) C dX6_gets_7 (by decide) (rfl : 7 + 3 = 10) (iI_le (by omega) (by omega)).1 (fun q => mt (iI_le (by omega) (by omega)).2 q) (fun c1 => ?_) (fun c1 => ?_)
    · exact z_vret C rfl dX6_gets_60 (hp f hf) (Nat.zero_le _) (Nat.zero_le _)
    · exact absurd c1 (by omega)
  | succ d ih =>
    intro i f hi hf
    have rf : ∀ j, j < 300 → f j = 0 ∨ f j = 1 := fun j hj => by
      by_cases e : ∀ k, k < i → j ≠ 60 * h + k
      · rw [hf.2 j e]; exact hB j hj
      · obtain ⟨k, hk⟩ := Classical.not_forall.mp e
        obtain ⟨hk1, hk2⟩ := Classical.not_imp.mp hk
        rw [Classical.not_not.mp hk2, hf.1 k hk1]
        split
        · exact .inr rfl
        · exact .inl rfl
    have e1 : f (60 * h + i) = V 13 (60 * h + i) := hf.2 _ (fun k hk => by omega)
    have e2 : f (60 * o + i) = V 13 (60 * o + i) := hf.2 _ (fun k hk => by omega)
    have b1 := hB (60 * h + i) (by omega)
    have b2 := hB (60 * o + i) (by omega)
    have nx : ∀ z : Int, z = (if V 13 (60 * h + i) = 1 ∨ V 13 (60 * o + i) = 1 then 1 else 0) → Z κ 4 G base mc ms post exc 0 0 2 [(3, .int (iI ((i + 1 : Nat) : Int))), (0, .ref (q 30)), (1, .int (iI (h : Int))), (2, .int (iI (o : Int)))] [] (xm G q (va_up V 13 (va_up f (60 * h + i) z)) ++ Y) := fun z hz => ih (i + 1) _ (by omega) ⟨fun k hk => by
      by_cases e : k = i
      · subst e; rw [va_up_self]; exact hz
      · rw [va_up_ne _ _ (by omega)]; exact hf.1 k (by omega), fun j hj => by
      rw [va_up_ne _ _ (hj i (by omega))]
      exact hf.2 j (fun k hk => hj k (by omega))⟩
    refine z_iload_n C 0 rfl rfl dX6_gets_2 (rfl : 2 + 1 = 3) ?_
    refine z_aload_n C 1 rfl rfl dX6_gets_3 (rfl : 3 + 1 = 4) ?_
    refine z_get C xmm rfl iX6_gets_X6 14 (by decide) lX6_gets_f82 rfl rfl dX6_gets_4 (rfl : 4 + 3 = 7) ?_
    refine z_topi (y := iI ((m : Int))) (congrArg iI h14) ?_
    refine z_icmp_ge (pt := 60) C dX6_gets_7 (by decide) (rfl : 7 + 3 = 10) (iI_le (by omega) (by omega)).1 (fun q => mt (iI_le (by omega) (by omega)).2 q) (fun c1 => ?_) (fun c1 => ?_)
    · exact absurd c1 (by omega)
    refine z_aload_n C 1 rfl rfl dX6_gets_10 (rfl : 10 + 1 = 11) ?_
    refine z_get C xmm rfl iX6_gets_X6 13 (by decide) lX6_gets_f45 rfl rfl dX6_gets_11 (rfl : 11 + 3 = 14) ?_
    refine z_bipush (c := 60) C (by decide) dX6_gets_14 (rfl : 14 + 2 = 16) ?_
    refine z_iload_n C 2 rfl rfl dX6_gets_16 (rfl : 16 + 1 = 17) ?_
    refine z_imul C dX6_gets_17 (rfl : 17 + 1 = 18) rfl ?_
    refine z_iload_n C 0 rfl rfl dX6_gets_18 (rfl : 18 + 1 = 19) ?_
    refine z_iadd C dX6_gets_19 (rfl : 19 + 1 = 20) rfl ?_
    refine z_aload_n C 1 rfl rfl dX6_gets_20 (rfl : 20 + 1 = 21) ?_
    refine z_get C xmm rfl iX6_gets_X6 13 (by decide) lX6_gets_f45 rfl rfl dX6_gets_21 (rfl : 21 + 3 = 24) ?_
    refine z_bipush (c := 60) C (by decide) dX6_gets_24 (rfl : 24 + 2 = 26) ?_
    refine z_iload_n C 2 rfl rfl dX6_gets_26 (rfl : 26 + 1 = 27) ?_
    refine z_imul C dX6_gets_27 (rfl : 27 + 1 = 28) rfl ?_
    refine z_iload_n C 0 rfl rfl dX6_gets_28 (rfl : 28 + 1 = 29) ?_
    refine z_iadd C dX6_gets_29 (rfl : 29 + 1 = 30) rfl ?_
    refine z_zald (x := iI ((va_up V 13 f) 13 (60 * h + i))) C xmm_13 ⟨by omega, by omega⟩ (by omega) rfl dX6_gets_30 (rfl : 30 + 1 = 31) ?_
    rw [va_up_self, e1]
    refine z_if_ne (pt := 48) C dX6_gets_31 (by decide) (rfl : 31 + 3 = 34) (fun q => mt (iI_eq0 (by omega)).2 q) (iI_eq0 (by omega)).1 (fun c2 => ?_) (fun c2 => ?_)
    · refine z_iconst C dX6_gets_48 (rfl : 48 + 1 = 49) ?_
      refine z_goto (pc' := 53) C dX6_gets_49 (by decide) ?_
      refine z_zast C xmm_13 ⟨by omega, by omega⟩ (by omega) (by omega) dX6_gets_53 (rfl : 53 + 1 = 54) (xms_13 (i := 60 * h + i)) ?_
      rw [up2_row, va_up_self, up_up]
      refine z_iinc (lv' := [(3, _), (0, _), (1, _), (2, _)]) C 0 dX6_gets_54 (rfl : 54 + 3 = 57) rfl rfl (by decide) rfl ?_
      refine z_goto (pc' := 2) C dX6_gets_57 (by decide) ?_
      exact nx 1 (by rw [if_pos (.inl (b1.resolve_left c2))])
    refine z_aload_n C 1 rfl rfl dX6_gets_34 (rfl : 34 + 1 = 35) ?_
    refine z_get C xmm rfl iX6_gets_X6 13 (by decide) lX6_gets_f45 rfl rfl dX6_gets_35 (rfl : 35 + 3 = 38) ?_
    refine z_bipush (c := 60) C (by decide) dX6_gets_38 (rfl : 38 + 2 = 40) ?_
    refine z_iload_n C 3 rfl rfl dX6_gets_40 (rfl : 40 + 1 = 41) ?_
    refine z_imul C dX6_gets_41 (rfl : 41 + 1 = 42) rfl ?_
    refine z_iload_n C 0 rfl rfl dX6_gets_42 (rfl : 42 + 1 = 43) ?_
    refine z_iadd C dX6_gets_43 (rfl : 43 + 1 = 44) rfl ?_
    refine z_zald (x := iI ((va_up V 13 f) 13 (60 * o + i))) C xmm_13 ⟨by omega, by omega⟩ (by omega) rfl dX6_gets_44 (rfl : 44 + 1 = 45) ?_
    rw [va_up_self, e2]
    refine z_if_eq (pt := 52) C dX6_gets_45 (by decide) (rfl : 45 + 3 = 48) (iI_eq0 (by omega)).1 (fun q => mt (iI_eq0 (by omega)).2 q) (fun c3 => ?_) (fun c3 => ?_)
    · refine z_iconst C dX6_gets_52 (rfl : 52 + 1 = 53) ?_
      refine z_zast C xmm_13 ⟨by omega, by omega⟩ (by omega) (by omega) dX6_gets_53 (rfl : 53 + 1 = 54) (xms_13 (i := 60 * h + i)) ?_
      rw [up2_row, va_up_self, up_up]
      refine z_iinc (lv' := [(3, _), (0, _), (1, _), (2, _)]) C 0 dX6_gets_54 (rfl : 54 + 3 = 57) rfl rfl (by decide) rfl ?_
      refine z_goto (pc' := 2) C dX6_gets_57 (by decide) ?_
      exact nx 0 (by rw [if_neg (by omega)])
    · refine z_iconst C dX6_gets_48 (rfl : 48 + 1 = 49) ?_
      refine z_goto (pc' := 53) C dX6_gets_49 (by decide) ?_
      refine z_zast C xmm_13 ⟨by omega, by omega⟩ (by omega) (by omega) dX6_gets_53 (rfl : 53 + 1 = 54) (xms_13 (i := 60 * h + i)) ?_
      rw [up2_row, va_up_self, up_up]
      refine z_iinc (lv' := [(3, _), (0, _), (1, _), (2, _)]) C 0 dX6_gets_54 (rfl : 54 + 3 = 57) rfl rfl (by decide) rfl ?_
      refine z_goto (pc' := 2) C dX6_gets_57 (by decide) ?_
      exact nx 1 (by rw [if_pos (.inr (b2.resolve_left c3))])
theorem c_X6_gets {h o : Nat} (h14 : V 14 0 = (m : Int)) (hm : m ≤ 60) (hh : h < 5) (ho : o < 5) (hB : ∀ j, j < 300 → V 13 j = 0 ∨ V 13 j = 1) : MC l yX6_gets wsX6_gets rmX6_gets G base [.ref (q 30), .int (iI (h : Int)), .int (iI (o : Int))] (xm G q V ++ Y) (fun v w => v = none ∧ ∃ f : Nat → Int, gtL V m h o f ∧ w = xm G q (va_up V 13 f) ++ Y) (fun _ _ => False) := by
  refine MC.of (cc := cX6_gets) (by decide) rfl rfl (Nat.le_of_ble_eq_true rfl) ?_
  intro κ C hT hl hnm
  refine z_sub [0, 1, 2] (lv' := [(0, .ref (q 30)), (1, .int (iI (h : Int))), (2, .int (iI (o : Int)))]) rfl ?_
  refine z_iconst C dX6_gets_0 (rfl : 0 + 1 = 1) ?_
  refine z_istore_n (lv' := [(3, _), (0, _), (1, _), (2, _)]) C rfl dX6_gets_1 (rfl : 1 + 1 = 2) (by decide) rfl ?_
  have x := lp_X6_gets (mc := 0) (ms := 0) C (m := m) h14 hm hh ho hB (post := fun v w => v = none ∧ ∃ f : Nat → Int, gtL V m h o f ∧ w = xm G q (va_up V 13 f) ++ Y) (exc := fun _ _ => False) (fun f hf => ⟨rfl, f, hf, rfl⟩) m 0 (V 13) (by omega) ⟨fun k hk => absurd hk (by omega), fun _ _ => rfl⟩
  rw [up_self] at x
  exact x
end
