theorem hd21_X0_countSharedWith : yX0_countSharedWith.cls = RX0 ∧ yX0_countSharedWith.cls ≠ "java/lang/invoke/MethodHandle" ∧ yX0_countSharedWith.cls ≠ "java/lang/invoke/VarHandle" ∧ (parseMethodDescriptor yX0_countSharedWith.desc).map (fun d => d.parameters.length) = some 1 := by decide +kernel
theorem lX0_modelIfTold_f15 : Cond.fieldLink RX0 15 "ModelCopies$Copy" "isTold" "Z" ∈ wsX0_modelIfTold := by decide +kernel
theorem iX0_modelIfTold_X0 : ∀ w ∈ wsX00, w ∈ wsX0_modelIfTold := by decide +kernel
theorem lX0_modelIfTold_f23 : Cond.fieldLink RX0 23 "ModelCopies$Copy" "model" "LModelCopies$Copy;" ∈ wsX0_modelIfTold := by decide +kernel
theorem hd21_X0_modelIfTold : yX0_modelIfTold.cls = RX0 ∧ yX0_modelIfTold.cls ≠ "java/lang/invoke/MethodHandle" ∧ yX0_modelIfTold.cls ≠ "java/lang/invoke/VarHandle" ∧ (parseMethodDescriptor yX0_modelIfTold.desc).map (fun d => d.parameters.length) = some 0 := by decide +kernel
theorem lX1_isFilled_f9 : Cond.fieldLink RX1 9 "ModelCopies$Draft" "readings" "[I" ∈ wsX1_isFilled := by decide +kernel
theorem iX1_isFilled_X1 : ∀ w ∈ wsX10, w ∈ wsX1_isFilled := by decide +kernel
theorem lX1_hasRoomAt_f15 : Cond.fieldLink RX1 15 "ModelCopies$Draft" "filled" "I" ∈ wsX1_hasRoomAt := by decide +kernel
theorem iX1_hasRoomAt_X1 : ∀ w ∈ wsX10, w ∈ wsX1_hasRoomAt := by decide +kernel
theorem hd21_X1_isFilled : yX1_isFilled.cls = RX1 ∧ yX1_isFilled.cls ≠ "java/lang/invoke/MethodHandle" ∧ yX1_isFilled.cls ≠ "java/lang/invoke/VarHandle" ∧ (parseMethodDescriptor yX1_isFilled.desc).map (fun d => d.parameters.length) = some 1 := by decide +kernel
theorem lX1_put_f9 : Cond.fieldLink RX1 9 "ModelCopies$Draft" "readings" "[I" ∈ wsX1_put := by decide +kernel
theorem iX1_put_X1 : ∀ w ∈ wsX10, w ∈ wsX1_put := by decide +kernel
theorem lX1_put_f15 : Cond.fieldLink RX1 15 "ModelCopies$Draft" "filled" "I" ∈ wsX1_put := by decide +kernel
theorem lX1_clear_f9 : Cond.fieldLink RX1 9 "ModelCopies$Draft" "readings" "[I" ∈ wsX1_clear := by decide +kernel
theorem iX1_clear_X1 : ∀ w ∈ wsX10, w ∈ wsX1_clear := by decide +kernel
theorem hd21_J7_fill_53178 : yJ7_fill_53178.cls ≠ "java/lang/invoke/MethodHandle" ∧ yJ7_fill_53178.cls ≠ "java/lang/invoke/VarHandle" ∧ (parseMethodDescriptor yJ7_fill_53178.desc).map (fun d => d.parameters.length) = some 2 := by decide +kernel
theorem lX1_clear_f15 : Cond.fieldLink RX1 15 "ModelCopies$Draft" "filled" "I" ∈ wsX1_clear := by decide +kernel
section
variable {κ : KxT} {G : GG} {base mc ms : Nat} {post : Option Value → va_W → Prop} {exc : String → va_W → Prop} {X : va_W} {L : List Nat} {K : Nat → Nat} {I : Nat → Nat → Int} {F : Nat → Nat → Option Nat} {R : Nat → Nat → Int} {N : Nat → Nat} {O : Nat → Nat → Option Nat} {l : Launch}
abbrev rmX0_countErrors : Room := { frames := 1, cells := 0, slots := 0, locals := 23 }
theorem c_X0_countErrors {a ra : Nat} (ha : isC L K F N a ra) (xa : rg9 (R ra)) : MC l yX0_countErrors wsX0_countErrors rmX0_countErrors G base [.ref a] (pw G X L K I F R N O) (fun v w => v = some (.int (iI (shc (R ra) (R ra) 24))) ∧ w = (pw G X L K I F R N O)) (fun _ _ => False) := by
  refine MC.of (cc := cX0_countErrors) (by decide) rfl rfl (Nat.le_of_ble_eq_true rfl) ?_
  intro κ C hT hl hnm
  refine z_aload_n C 0 rfl rfl dX0_countErrors_0 (rfl : 0 + 1 = 1) ?_
  refine z_aload_n C 0 rfl rfl dX0_countErrors_1 (rfl : 1 + 1 = 2) ?_
  refine z_callV C 0 0 (c_X0_countSharedWith ha ha xa xa) gX0_countErrors_X0_countSharedWith rfl hd21_X0_countSharedWith ⟨Nat.le_of_ble_eq_true rfl, Nat.le_of_ble_eq_true rfl⟩ (pwm_Copy ha.1 ha.2.1) rfl rfl (Nat.le_of_ble_eq_true rfl) dX0_countErrors_2 (rfl : 2 + 3 = 5) rfl rfl ⟨Nat.le_of_ble_eq_true rfl, Nat.le_of_ble_eq_true rfl⟩ (fun _ _ h => h.elim) ?_ rfl
  rintro _ _ ⟨rfl, rfl⟩
  refine z_v1 ?_
  exact z_iret C rfl dX0_countErrors_5 ⟨rfl, rfl⟩ (Nat.le_refl _) (Nat.le_refl _)
abbrev rmX0_modelIfTold : Room := { frames := 0, cells := 0, slots := 0, locals := 0 }
theorem c_X0_modelIfTold {a ra : Nat} (ha : isC L K F N a ra) (ht : I 1 a = 0 ∨ I 1 a = 1) : MC l yX0_modelIfTold wsX0_modelIfTold rmX0_modelIfTold G base [.ref a] (pw G X L K I F R N O) (fun v w => v = some (va_rf (tmo I F a)) ∧ w = (pw G X L K I F R N O)) (fun _ _ => False) := by
  refine MC.of (cc := cX0_modelIfTold) (by decide) rfl rfl (Nat.le_of_ble_eq_true rfl) ?_
  intro κ C hT hl hnm
  refine z_aload_n C 0 rfl rfl dX0_modelIfTold_0 (rfl : 0 + 1 = 1) ?_
  refine z_get C (pwm_Copy ha.1 ha.2.1) rfl iX0_modelIfTold_X0 5 (by decide) lX0_modelIfTold_f15 rfl rfl dX0_modelIfTold_1 (rfl : 1 + 3 = 4) ?_
  refine z_if_eq (pt := 14) C dX0_modelIfTold_4 (by decide) (rfl : 4 + 3 = 7) (iI_eq0 (by omega)).1 (fun q => mt (iI_eq0 (by omega)).2 q) (fun c => ?_) (fun c => ?_)
  · refine z_null C dX0_modelIfTold_14 (rfl : 14 + 1 = 15) ?_
    exact z_aret (v := none) C rfl (.inl ⟨_, rfl⟩) dX0_modelIfTold_15 ⟨by rw [tmo, if_pos c], rfl⟩ (Nat.le_refl _) (Nat.le_refl _)
  · refine z_aload_n C 0 rfl rfl dX0_modelIfTold_7 (rfl : 7 + 1 = 8) ?_
    refine z_get C (pwm_Copy ha.1 ha.2.1) rfl iX0_modelIfTold_X0 1 (by decide) lX0_modelIfTold_f23 rfl rfl dX0_modelIfTold_8 (rfl : 8 + 3 = 11) ?_
    refine z_goto (pc' := 15) C dX0_modelIfTold_11 (by decide) ?_
    exact z_aret (v := F 0 a) C rfl (.inl ⟨_, rfl⟩) dX0_modelIfTold_15 ⟨by rw [tmo, if_neg c], rfl⟩ (Nat.le_refl _) (Nat.le_refl _)
abbrev rmX0_isKinOf : Room := { frames := 1, cells := 0, slots := 0, locals := 23 }
theorem c_X0_isKinOf {a b ra rb : Nat} (ha : isC L K F N a ra) (hb : isC L K F N b rb) (xa : rg9 (R ra)) (xb : rg9 (R rb)) (ta : I 1 a = 0 ∨ I 1 a = 1) (tb : I 1 b = 0 ∨ I 1 b = 1) : MC l yX0_isKinOf wsX0_isKinOf rmX0_isKinOf G base [.ref a, .ref b] (pw G X L K I F R N O) (fun v w => v = some (.int (iI (if tmo I F a = some b ∨ tmo I F b = some a ∨ 0 < shc (R ra) (R rb) 24 then 1 else 0))) ∧ w = (pw G X L K I F R N O)) (fun _ _ => False) := by
  refine MC.of (cc := cX0_isKinOf) (by decide) rfl rfl (Nat.le_of_ble_eq_true rfl) ?_
  intro κ C hT hl hnm
  have hr := shc_rng (R ra) (R rb) 24
  refine z_sub [0, 1] (lv' := [(0, .ref a), (1, .ref b)]) rfl ?_
  refine z_aload_n C 0 rfl rfl dX0_isKinOf_0 (rfl : 0 + 1 = 1) ?_
  refine z_callV C 0 0 (c_X0_modelIfTold ha ta) gX0_isKinOf_X0_modelIfTold rfl hd21_X0_modelIfTold ⟨Nat.le_of_ble_eq_true rfl, Nat.le_of_ble_eq_true rfl⟩ (pwm_Copy ha.1 ha.2.1) rfl rfl (Nat.le_of_ble_eq_true rfl) dX0_isKinOf_1 (rfl : 1 + 3 = 4) rfl rfl ⟨Nat.le_of_ble_eq_true rfl, Nat.le_of_ble_eq_true rfl⟩ (fun _ _ h => h.elim) ?_ rfl
  rintro _ _ ⟨rfl, rfl⟩
  refine z_v1 ?_
  refine z_aload_n C 1 rfl rfl dX0_isKinOf_4 (rfl : 4 + 1 = 5) ?_
  refine z_acmp_eq (pt := 24) C (tmo I F a) (some b) dX0_isKinOf_5 (by decide) (rfl : 5 + 3 = 8) (fun c => ?_) (fun c => ?_)
  · refine z_iconst C dX0_isKinOf_24 (rfl : 24 + 1 = 25) ?_
    refine z_goto (pc' := 29) C dX0_isKinOf_25 (by decide) ?_
    exact z_zret C rfl (.inr rfl) dX0_isKinOf_29 ⟨by rw [if_pos (.inl c)], rfl⟩ (Nat.le_refl _) (Nat.le_refl _)
  refine z_aload_n C 1 rfl rfl dX0_isKinOf_8 (rfl : 8 + 1 = 9) ?_
  refine z_callV C 0 0 (c_X0_modelIfTold hb tb) gX0_isKinOf_X0_modelIfTold rfl hd21_X0_modelIfTold ⟨Nat.le_of_ble_eq_true rfl, Nat.le_of_ble_eq_true rfl⟩ (pwm_Copy hb.1 hb.2.1) rfl rfl (Nat.le_of_ble_eq_true rfl) dX0_isKinOf_9 (rfl : 9 + 3 = 12) rfl rfl ⟨Nat.le_of_ble_eq_true rfl, Nat.le_of_ble_eq_true rfl⟩ (fun _ _ h => h.elim) ?_ rfl
  rintro _ _ ⟨rfl, rfl⟩
  refine z_v1 ?_
  refine z_aload_n C 0 rfl rfl dX0_isKinOf_12 (rfl : 12 + 1 = 13) ?_
  refine z_acmp_eq (pt := 24) C (tmo I F b) (some a) dX0_isKinOf_13 (by decide) (rfl : 13 + 3 = 16) (fun c2 => ?_) (fun c2 => ?_)
  · refine z_iconst C dX0_isKinOf_24 (rfl : 24 + 1 = 25) ?_
    refine z_goto (pc' := 29) C dX0_isKinOf_25 (by decide) ?_
    exact z_zret C rfl (.inr rfl) dX0_isKinOf_29 ⟨by rw [if_pos (.inr (.inl c2))], rfl⟩ (Nat.le_refl _) (Nat.le_refl _)
  refine z_aload_n C 0 rfl rfl dX0_isKinOf_16 (rfl : 16 + 1 = 17) ?_
  refine z_aload_n C 1 rfl rfl dX0_isKinOf_17 (rfl : 17 + 1 = 18) ?_
  refine z_callV C 0 0 (c_X0_countSharedWith ha hb xa xb) gX0_isKinOf_X0_countSharedWith rfl hd21_X0_countSharedWith ⟨Nat.le_of_ble_eq_true rfl, Nat.le_of_ble_eq_true rfl⟩ (pwm_Copy ha.1 ha.2.1) rfl rfl (Nat.le_of_ble_eq_true rfl) dX0_isKinOf_18 (rfl : 18 + 3 = 21) rfl rfl ⟨Nat.le_of_ble_eq_true rfl, Nat.le_of_ble_eq_true rfl⟩ (fun _ _ h => h.elim) ?_ rfl
  rintro _ _ ⟨rfl, rfl⟩
  refine z_v1 ?_
  refine z_if_le (pt := 28) C dX0_isKinOf_21 (by decide) (rfl : 21 + 3 = 24) (iI_le0 (by omega)).1 (fun q => mt (iI_le0 (by omega)).2 q) (fun c3 => ?_) (fun c3 => ?_)
  · refine z_iconst C dX0_isKinOf_28 (rfl : 28 + 1 = 29) ?_
    exact z_zret C rfl (.inl rfl) dX0_isKinOf_29 ⟨by rw [if_neg (fun h => h.elim c (fun h => h.elim c2 (fun h => absurd h (by omega))))], rfl⟩ (Nat.le_refl _) (Nat.le_refl _)
  · refine z_iconst C dX0_isKinOf_24 (rfl : 24 + 1 = 25) ?_
    refine z_goto (pc' := 29) C dX0_isKinOf_25 (by decide) ?_
    exact z_zret C rfl (.inr rfl) dX0_isKinOf_29 ⟨by rw [if_pos (.inr (.inr (by omega)))], rfl⟩ (Nat.le_refl _) (Nat.le_refl _)
abbrev rmX1_isFilled : Room := { frames := 0, cells := 0, slots := 0, locals := 0 }
theorem c_X1_isFilled {a r i : Nat} (ha : isD L K F N a r) (xr : rgD (R r)) (hi : i < 24) : MC l yX1_isFilled wsX1_isFilled rmX1_isFilled G base [.ref a, .int (iI (i : Int))] (pw G X L K I F R N O) (fun v w => v = some (.int (iI (if R r i = -1 then 0 else 1))) ∧ w = (pw G X L K I F R N O)) (fun _ _ => False) := by
  refine MC.of (cc := cX1_isFilled) (by decide) rfl rfl (Nat.le_of_ble_eq_true rfl) ?_
  intro κ C hT hl hnm
  have x1 := xr i hi
  obtain ⟨h1, h2, h3, h4, h5, h6⟩ := ha
  refine z_sub [0, 1] (lv' := [(0, .ref a), (1, .int (iI (i : Int)))]) rfl ?_
  refine z_iload_n C 1 rfl rfl dX1_isFilled_0 (rfl : 0 + 1 = 1) ?_
  refine z_if_lt (pt := 24) C dX1_isFilled_1 (by decide) (rfl : 1 + 3 = 4) (iI_lt0 (by omega)).1 (fun q => mt (iI_lt0 (by omega)).2 q) (fun c => ?_) (fun c => ?_)
  · exact absurd c (by omega)
  refine z_iload_n C 1 rfl rfl dX1_isFilled_4 (rfl : 4 + 1 = 5) ?_
  refine z_bipush (c := 24) C (by decide) dX1_isFilled_5 (rfl : 5 + 2 = 7) ?_
  refine z_icmp_ge (pt := 24) C dX1_isFilled_7 (by decide) (rfl : 7 + 3 = 10) (iI_le (by omega) (by omega)).1 (fun q => mt (iI_le (by omega) (by omega)).2 q) (fun c => ?_) (fun c => ?_)
  · exact absurd c (by omega)
  refine z_aload_n C 0 rfl rfl dX1_isFilled_10 (rfl : 10 + 1 = 11) ?_
  refine z_get C (pwm_Draft h1 h2) rfl iX1_isFilled_X1 0 (by decide) lX1_isFilled_f9 rfl rfl dX1_isFilled_11 (rfl : 11 + 3 = 14) ?_
  rw [h3]
  refine z_iload_n C 1 rfl rfl dX1_isFilled_14 (rfl : 14 + 1 = 15) ?_
  refine z_iald C (x := iI (R r i)) (pwm_I h4 h5) ⟨by omega, by omega⟩ (by omega) rfl dX1_isFilled_15 (rfl : 15 + 1 = 16) ?_
  refine z_iconst C dX1_isFilled_16 (rfl : 16 + 1 = 17) ?_
  refine z_icmp_eq (pt := 24) C dX1_isFilled_17 (by decide) (rfl : 17 + 3 = 20) (iI_eq (by omega) (by omega)).1 (fun q => mt (iI_eq (by omega) (by omega)).2 q) (fun c => ?_) (fun c => ?_)
  · refine z_iconst C dX1_isFilled_24 (rfl : 24 + 1 = 25) ?_
    exact z_zret C rfl (.inl rfl) dX1_isFilled_25 ⟨by rw [if_pos c], rfl⟩ (Nat.le_refl _) (Nat.le_refl _)
  · refine z_iconst C dX1_isFilled_20 (rfl : 20 + 1 = 21) ?_
    refine z_goto (pc' := 25) C dX1_isFilled_21 (by decide) ?_
    exact z_zret C rfl (.inr rfl) dX1_isFilled_25 ⟨by rw [if_neg c], rfl⟩ (Nat.le_refl _) (Nat.le_refl _)
abbrev rmX1_hasRoomAt : Room := { frames := 1, cells := 0, slots := 0, locals := 21 }
theorem c_X1_hasRoomAt {a r i : Nat} (ha : isD L K F N a r) (xr : rgD (R r)) (hi : i < 24) : MC l yX1_hasRoomAt wsX1_hasRoomAt rmX1_hasRoomAt G base [.ref a, .int (iI (i : Int))] (pw G X L K I F R N O) (fun v w => v = some (.int (iI (if iI (I 3 a) < iI 6 ∨ R r i ≠ -1 then 1 else 0))) ∧ w = (pw G X L K I F R N O)) (fun _ _ => False) := by
  refine MC.of (cc := cX1_hasRoomAt) (by decide) rfl rfl (Nat.le_of_ble_eq_true rfl) ?_
  intro κ C hT hl hnm
  refine z_sub [0, 1] (lv' := [(0, .ref a), (1, .int (iI (i : Int)))]) rfl ?_
  refine z_aload_n C 0 rfl rfl dX1_hasRoomAt_0 (rfl : 0 + 1 = 1) ?_
  refine z_get C (pwm_Draft ha.1 ha.2.1) rfl iX1_hasRoomAt_X1 1 (by decide) lX1_hasRoomAt_f15 rfl rfl dX1_hasRoomAt_1 (rfl : 1 + 3 = 4) ?_
  refine z_bipush (c := 6) C (by decide) dX1_hasRoomAt_4 (rfl : 4 + 2 = 6) ?_
  refine z_icmp_lt (pt := 17) C dX1_hasRoomAt_6 (by decide) (rfl : 6 + 3 = 9) (Iff.rfl).1 (fun q => mt (Iff.rfl).2 q) (fun c => ?_) (fun c => ?_)
  · refine z_iconst C dX1_hasRoomAt_17 (rfl : 17 + 1 = 18) ?_
    refine z_goto (pc' := 22) C dX1_hasRoomAt_18 (by decide) ?_
    exact z_zret C rfl (.inr rfl) dX1_hasRoomAt_22 ⟨by rw [if_pos (.inl c)], rfl⟩ (Nat.le_refl _) (Nat.le_refl _)
  refine z_aload_n C 0 rfl rfl dX1_hasRoomAt_9 (rfl : 9 + 1 = 10) ?_
  refine z_iload_n C 1 rfl rfl dX1_hasRoomAt_10 (rfl : 10 + 1 = 11) ?_
  refine z_callV C 0 0 (c_X1_isFilled ha xr hi) gX1_hasRoomAt_X1_isFilled rfl hd21_X1_isFilled ⟨Nat.le_of_ble_eq_true rfl, Nat.le_of_ble_eq_true rfl⟩ (pwm_Draft ha.1 ha.2.1) rfl rfl (Nat.le_of_ble_eq_true rfl) dX1_hasRoomAt_11 (rfl : 11 + 3 = 14) rfl rfl ⟨Nat.le_of_ble_eq_true rfl, Nat.le_of_ble_eq_true rfl⟩ (fun _ _ h => h.elim) ?_ rfl
  rintro _ _ ⟨rfl, rfl⟩
  refine z_v1 ?_
  refine z_if_eq (pt := 21) C dX1_hasRoomAt_14 (by decide) (rfl : 14 + 3 = 17) (iI_eq0 (by split <;> omega)).1 (fun q => mt (iI_eq0 (by split <;> omega)).2 q) (fun c2 => ?_) (fun c2 => ?_)
  · refine z_iconst C dX1_hasRoomAt_21 (rfl : 21 + 1 = 22) ?_
    exact z_zret C rfl (.inl rfl) dX1_hasRoomAt_22 ⟨by rw [if_neg (fun h => h.elim c (fun h => by rw [if_neg h] at c2; omega))], rfl⟩ (Nat.le_refl _) (Nat.le_refl _)
  · refine z_iconst C dX1_hasRoomAt_17 (rfl : 17 + 1 = 18) ?_
    refine z_goto (pc' := 22) C dX1_hasRoomAt_18 (by decide) ?_
    exact z_zret C rfl (.inr rfl) dX1_hasRoomAt_22 ⟨by rw [if_pos (.inr (fun h => by rw [if_pos h] at c2; omega))], rfl⟩ (Nat.le_refl _) (Nat.le_refl _)
abbrev rmX1_put : Room := { frames := 1, cells := 0, slots := 0, locals := 21 }
theorem tl_X1_put (C : Cx κ cX1_put 3 wsX1_put RX1 none rmX1_put G base) {a r i : Nat} {z : Int} (ha : isD L K F N a r) (xr : rgD (R r)) (hi : i < 24) (hz : -1 ≤ z ∧ z ≤ 9)
    (hp : post none (pw G X L K (up2 I 3 a (I 3 a + (if z = -1 then 0 else 1))) F (up2 R r i z) N O)) : Z κ 3 G base mc ms post exc 0 0 29 [(0, .ref a), (1, .int (iI (i : Int))), (2, .int (iI z))] [] (pw G X L K I F R N O) := by
  obtain ⟨h1, h2, h3, h4, h5, h6⟩ := id ha
  have er : up2 R r i z r i = z := up2_at _ _ _ _
  have xr2 : rgD (up2 R r i z r) := fun k hk => by
    simp only [up2, va_up, if_true]
    split
    · exact hz
    · exact xr k hk
  refine z_aload_n C 0 rfl rfl dX1_put_29 (rfl : 29 + 1 = 30) ?_
  refine z_get C (pwm_Draft h1 h2) rfl iX1_put_X1 0 (by decide) lX1_put_f9 rfl rfl dX1_put_30 (rfl : 30 + 3 = 33) ?_
  rw [h3]
  refine z_iload_n C 1 rfl rfl dX1_put_33 (rfl : 33 + 1 = 34) ?_
  refine z_iload_n C 2 rfl rfl dX1_put_34 (rfl : 34 + 1 = 35) ?_
  refine z_iast C (pwm_I h4 h5) ⟨by omega, by omega⟩ (by omega) dX1_put_35 (rfl : 35 + 1 = 36) (pwt_I (i := i) h4 h5) ?_
  refine z_aload_n C 0 rfl rfl dX1_put_36 (rfl : 36 + 1 = 37) ?_
  refine z_iload_n C 1 rfl rfl dX1_put_37 (rfl : 37 + 1 = 38) ?_
  refine z_callV C 0 0 (c_X1_isFilled ha xr2 hi) gX1_put_X1_isFilled rfl hd21_X1_isFilled ⟨Nat.le_of_ble_eq_true rfl, Nat.le_of_ble_eq_true rfl⟩ (pwm_Draft h1 h2) rfl rfl (Nat.le_of_ble_eq_true rfl) dX1_put_38 (rfl : 38 + 3 = 41) rfl rfl ⟨Nat.le_of_ble_eq_true rfl, Nat.le_of_ble_eq_true rfl⟩ (fun _ _ h => h.elim) ?_ rfl
  rintro _ _ ⟨rfl, rfl⟩
  refine z_v1 ?_
  rw [er]
  refine z_if_eq (pt := 54) C dX1_put_41 (by decide) (rfl : 41 + 3 = 44) (iI_eq0 (by split <;> omega)).1 (fun q => mt (iI_eq0 (by split <;> omega)).2 q) (fun c => ?_) (fun c => ?_)
  · have hz1 : z = -1 := by
      by_cases h : z = -1
      · exact h
      · rw [if_neg h] at c; omega
    rw [if_pos hz1, up2_eq _ _ _ (show I 3 a = I 3 a + 0 by omega)] at hp
    exact z_vret C rfl dX1_put_54 hp (Nat.zero_le _) (Nat.zero_le _)
  · have hz1 : ¬ z = -1 := fun h => by rw [if_pos h] at c; omega
    rw [if_neg hz1] at hp
    refine z_aload_n C 0 rfl rfl dX1_put_44 (rfl : 44 + 1 = 45) ?_
    refine z_dup C rfl dX1_put_45 (rfl : 45 + 1 = 46) ?_
    refine z_get C (pwm_Draft h1 h2) rfl iX1_put_X1 1 (by decide) lX1_put_f15 rfl rfl dX1_put_46 (rfl : 46 + 3 = 49) ?_
    refine z_iconst C dX1_put_49 (rfl : 49 + 1 = 50) ?_
    refine z_iadd C dX1_put_50 (rfl : 50 + 1 = 51) rfl ?_
    refine z_put C tyX1 tyX1_ok nmX1 (pwm_Draft h1 h2) rfl iX1_put_X1 1 (by decide) lX1_put_f15 rfl rfl rfl rfl rfl (Nat.le_of_ble_eq_true rfl) dX1_put_51 (rfl : 51 + 3 = 54) (pws_Draft_filled h1 h2) ?_
    exact z_vret C rfl dX1_put_54 hp (Nat.zero_le _) (Nat.zero_le _)
theorem c_X1_put {a r i : Nat} {z : Int} (ha : isD L K F N a r) (xr : rgD (R r)) (hi : i < 24) (hz : -1 ≤ z ∧ z ≤ 9) : MC l yX1_put wsX1_put rmX1_put G base [.ref a, .int (iI (i : Int)), .int (iI z)] (pw G X L K I F R N O) (fun v w => v = none ∧ w = pw G X L K (up2 I 3 a (I 3 a + ((if z = -1 then 0 else 1) - (if R r i = -1 then 0 else 1)))) F (up2 R r i z) N O) (fun _ _ => False) := by
  refine MC.of (cc := cX1_put) (by decide) rfl rfl (Nat.le_of_ble_eq_true rfl) ?_
  intro κ C hT hl hnm
  obtain ⟨h1, h2, h3, h4, h5, h6⟩ := id ha
  refine z_sub [0, 1, 2] (lv' := [(0, .ref a), (1, .int (iI (i : Int))), (2, .int (iI z))]) rfl ?_
  refine z_iload_n C 1 rfl rfl dX1_put_0 (rfl : 0 + 1 = 1) ?_
  refine z_if_lt (pt := 10) C dX1_put_1 (by decide) (rfl : 1 + 3 = 4) (iI_lt0 (by omega)).1 (fun q => mt (iI_lt0 (by omega)).2 q) (fun c => ?_) (fun c => ?_)
  · exact absurd c (by omega)
  refine z_iload_n C 1 rfl rfl dX1_put_4 (rfl : 4 + 1 = 5) ?_
  refine z_bipush (c := 24) C (by decide) dX1_put_5 (rfl : 5 + 2 = 7) ?_
  refine z_icmp_lt (pt := 11) C dX1_put_7 (by decide) (rfl : 7 + 3 = 10) (iI_lt (by omega) (by omega)).1 (fun q => mt (iI_lt (by omega) (by omega)).2 q) (fun c => ?_) (fun c => ?_)
  rotate_left
  · exact absurd c (by omega)
  refine z_aload_n C 0 rfl rfl dX1_put_11 (rfl : 11 + 1 = 12) ?_
  refine z_iload_n C 1 rfl rfl dX1_put_12 (rfl : 12 + 1 = 13) ?_
  refine z_callV C 0 0 (c_X1_isFilled ha xr hi) gX1_put_X1_isFilled rfl hd21_X1_isFilled ⟨Nat.le_of_ble_eq_true rfl, Nat.le_of_ble_eq_true rfl⟩ (pwm_Draft h1 h2) rfl rfl (Nat.le_of_ble_eq_true rfl) dX1_put_13 (rfl : 13 + 3 = 16) rfl rfl ⟨Nat.le_of_ble_eq_true rfl, Nat.le_of_ble_eq_true rfl⟩ (fun _ _ h => h.elim) ?_ rfl
  rintro _ _ ⟨rfl, rfl⟩
  refine z_v1 ?_
  refine z_if_eq (pt := 29) C dX1_put_16 (by decide) (rfl : 16 + 3 = 19) (iI_eq0 (by split <;> omega)).1 (fun q => mt (iI_eq0 (by split <;> omega)).2 q) (fun c => ?_) (fun c => ?_)
  · have hz1 : R r i = -1 := by
      by_cases h : R r i = -1
      · exact h
      · rw [if_neg h] at c; omega
    refine tl_X1_put C ha xr hi hz ⟨rfl, ?_⟩
    rw [if_pos hz1, Int.sub_zero]
  · have hz1 : ¬ R r i = -1 := fun h => by rw [if_pos h] at c; omega
    refine z_aload_n C 0 rfl rfl dX1_put_19 (rfl : 19 + 1 = 20) ?_
    refine z_dup C rfl dX1_put_20 (rfl : 20 + 1 = 21) ?_
    refine z_get C (pwm_Draft h1 h2) rfl iX1_put_X1 1 (by decide) lX1_put_f15 rfl rfl dX1_put_21 (rfl : 21 + 3 = 24) ?_
    refine z_iconst C dX1_put_24 (rfl : 24 + 1 = 25) ?_
    refine z_isub C dX1_put_25 (rfl : 25 + 1 = 26) rfl ?_
    refine z_put C tyX1 tyX1_ok nmX1 (pwm_Draft h1 h2) rfl iX1_put_X1 1 (by decide) lX1_put_f15 rfl rfl rfl rfl rfl (Nat.le_of_ble_eq_true rfl) dX1_put_26 (rfl : 26 + 3 = 29) (pws_Draft_filled h1 h2) ?_
    refine tl_X1_put C ha xr hi hz ⟨rfl, ?_⟩
    rw [if_neg hz1, up2_up2, up2_at]
    congr 2
    omega
abbrev rmJ7_fill_53178 : Room := { frames := 0, cells := 0, slots := 0, locals := 0 }
theorem lp_J7_fill (C : Cx κ cJ7_fill_53178 4 wsJ7_fill_53178 RJ7 none rmJ7_fill_53178 G base) {r nn : Nat} {z : Int} (f0 : Nat → Int) (h4 : r ∈ L) (h5 : K r = 7) (h6 : N r = nn) (hb : nn < 100000)
    (hp : ∀ f : Nat → Int, (∀ k, k < nn → f k = z) → post none (pw G X L K I F (va_up R r f) N O)) :
    ∀ (n i : Nat) (f : Nat → Int), i + n = nn → (∀ k, k < i → f k = z) → Z κ 4 G base mc ms post exc 0 0 5 [(2, .int (iI (i : Int))), (3, .int (iI (nn : Int))), (0, .ref r), (1, .int (iI z))] [] (pw G X L K I F (va_up R r f) N O) := by
  intro n
  induction n with
  | zero =>
    intro i f hi hf
    refine z_iload_n C 0 rfl rfl dJ7_fill_53178_5 (rfl : 5 + 1 = 6) ?_
    refine z_iload_n C 1 rfl rfl dJ7_fill_53178_6 (rfl : 6 + 1 = 7) ?_
    refine z_icmp_ge (pt := 20) C dJ7_fill_53178_7 (by decide) (rfl : 7 + 3 = 10) (iI_le (by omega) (by omega)).1 (fun q => mt (iI_le (by omega) (by omega)).2 q) (fun c => ?_) (fun c => ?_)
    · exact z_vret C rfl dJ7_fill_53178_20 (hp f (fun k hk => hf k (by omega))) (Nat.zero_le _) (Nat.zero_le _)
    · exact absurd c (by omega)
  | succ n ih =>
    intro i f hi hf
    refine z_iload_n C 0 rfl rfl dJ7_fill_53178_5 (rfl : 5 + 1 = 6) ?_
    refine z_iload_n C 1 rfl rfl dJ7_fill_53178_6 (rfl : 6 + 1 = 7) ?_
    refine z_icmp_ge (pt := 20) C dJ7_fill_53178_7 (by decide) (rfl : 7 + 3 = 10) (iI_le (by omega) (by omega)).1 (fun q => mt (iI_le (by omega) (by omega)).2 q) (fun c => ?_) (fun c => ?_)
    · exact absurd c (by omega)
    refine z_aload_n C 2 rfl rfl dJ7_fill_53178_10 (rfl : 10 + 1 = 11) ?_
    refine z_iload_n C 0 rfl rfl dJ7_fill_53178_11 (rfl : 11 + 1 = 12) ?_
    refine z_iload_n C 3 rfl rfl dJ7_fill_53178_12 (rfl : 12 + 1 = 13) ?_
    refine z_iast C (pwm_I h4 h5) ⟨by omega, by omega⟩ (by omega) dJ7_fill_53178_13 (rfl : 13 + 1 = 14) (pwt_I (i := i) h4 h5) ?_
    refine z_iinc (lv' := [(2, _), (3, _), (0, _), (1, _)]) C 0 dJ7_fill_53178_14 (rfl : 14 + 3 = 17) rfl rfl (by decide) rfl ?_
    refine z_goto (pc' := 5) C dJ7_fill_53178_17 (by decide) ?_
    refine z_sub [0, 1, 2, 3] (lv' := [(2, .int (iI ((i + 1 : Nat) : Int))), (3, .int (iI (nn : Int))), (0, .ref r), (1, .int (iI z))]) rfl ?_
    rw [up2_row, va_up_self, up_up]
    refine ih (i + 1) _ (by omega) (fun k hk => ?_)
    simp only [va_up]
    split
    · rfl
    · exact hf k (by omega)
theorem c_J7_fill {r nn : Nat} {z : Int} (h4 : r ∈ L) (h5 : K r = 7) (h6 : N r = nn) (hb : nn < 100000) : MC l yJ7_fill_53178 wsJ7_fill_53178 rmJ7_fill_53178 G base [.ref r, .int (iI z)] (pw G X L K I F R N O) (fun v w => v = none ∧ ∃ f : Nat → Int, (∀ k, k < nn → f k = z) ∧ w = pw G X L K I F (va_up R r f) N O) (fun _ _ => False) := by
  refine MC.of (cc := cJ7_fill_53178) (by decide) rfl rfl (Nat.le_of_ble_eq_true rfl) ?_
  intro κ C hT hl hnm
  refine z_sub [0, 1] (lv' := [(0, .ref r), (1, .int (iI z))]) rfl ?_
  refine z_iconst C dJ7_fill_53178_0 (rfl : 0 + 1 = 1) ?_
  refine z_istore_n (lv' := [(2, _), (0, _), (1, _)]) C rfl dJ7_fill_53178_1 (rfl : 1 + 1 = 2) (by decide) rfl ?_
  refine z_aload_n C 1 rfl rfl dJ7_fill_53178_2 (rfl : 2 + 1 = 3) ?_
  refine z_alen C 0 (pwm_I h4 h5) rfl dJ7_fill_53178_3 (rfl : 3 + 1 = 4) ?_
  rw [h6]
  refine z_istore_n (lv' := [(3, _), (2, _), (0, _), (1, _)]) C rfl dJ7_fill_53178_4 (rfl : 4 + 1 = 5) (by decide) rfl ?_
  have h := lp_J7_fill (mc := 0) (ms := 0) C (R r) h4 h5 h6 hb (z := z) (post := fun v w => v = none ∧ ∃ f : Nat → Int, (∀ k, k < nn → f k = z) ∧ w = pw G X L K I F (va_up R r f) N O) (exc := fun _ _ => False) (fun f hf => ⟨rfl, f, hf, rfl⟩) nn 0 (R r) (by omega) (fun k hk => absurd hk (by omega))
  rw [up_self] at h
  exact z_sub [1, 0, 2, 3] rfl h
abbrev rmX1_clear : Room := { frames := 1, cells := 0, slots := 0, locals := 23 }
theorem c_X1_clear {a r : Nat} (ha : isD L K F N a r) : MC l yX1_clear wsX1_clear rmX1_clear G base [.ref a] (pw G X L K I F R N O) (fun v w => v = none ∧ ∃ f : Nat → Int, (∀ k, k < 24 → f k = -1) ∧ w = pw G X L K (up2 I 3 a 0) F (va_up R r f) N O) (fun _ _ => False) := by
  refine MC.of (cc := cX1_clear) (by decide) rfl rfl (Nat.le_of_ble_eq_true rfl) ?_
  intro κ C hT hl hnm
  obtain ⟨h1, h2, h3, h4, h5, h6⟩ := id ha
  refine z_aload_n C 0 rfl rfl dX1_clear_0 (rfl : 0 + 1 = 1) ?_
  refine z_get C (pwm_Draft h1 h2) rfl iX1_clear_X1 0 (by decide) lX1_clear_f9 rfl rfl dX1_clear_1 (rfl : 1 + 3 = 4) ?_
  rw [h3]
  refine z_iconst C dX1_clear_4 (rfl : 4 + 1 = 5) ?_
  refine z_callS C 0 0 (c_J7_fill (z := -1) h4 h5 h6 (by omega)) gX1_clear_J7_fill_53178 rfl hd21_J7_fill_53178 ⟨Nat.le_of_ble_eq_true rfl, Nat.le_of_ble_eq_true rfl⟩ rfl (Nat.le_of_ble_eq_true rfl) dX1_clear_5 (rfl : 5 + 3 = 8) rfl rfl ⟨Nat.le_of_ble_eq_true rfl, Nat.le_of_ble_eq_true rfl⟩ (fun _ _ h => h.elim) ?_ rfl
  rintro _ _ ⟨rfl, f, hf, rfl⟩
  refine z_v0 ?_
  refine z_aload_n C 0 rfl rfl dX1_clear_8 (rfl : 8 + 1 = 9) ?_
  refine z_iconst C dX1_clear_9 (rfl : 9 + 1 = 10) ?_
  refine z_put C tyX1 tyX1_ok nmX1 (pwm_Draft h1 h2) rfl iX1_clear_X1 1 (by decide) lX1_clear_f15 rfl rfl rfl rfl rfl (Nat.le_of_ble_eq_true rfl) dX1_clear_10 (rfl : 10 + 3 = 13) (pws_Draft_filled h1 h2) ?_
  exact z_vret C rfl dX1_clear_13 ⟨rfl, f, hf, rfl⟩ (Nat.zero_le _) (Nat.zero_le _)
end
