theorem lJx4a65c_size_8abf5_f48 : Cond.fieldLink RJx4a65c 48 "java/util/ArrayList" "size" "I" ∈ wsJx4a65c_size_8abf5 := by decide +kernel
theorem iJx4a65c_size_8abf5_Jx4a65c : ∀ w ∈ wsJx4a65c0, w ∈ wsJx4a65c_size_8abf5 := by decide +kernel
theorem hd23_J3_checkIndex_8e157 : yJ3_checkIndex_8e157.cls ≠ "java/lang/invoke/MethodHandle" ∧ yJ3_checkIndex_8e157.cls ≠ "java/lang/invoke/VarHandle" ∧ (parseMethodDescriptor yJ3_checkIndex_8e157.desc).map (fun d => d.parameters.length) = some 3 := by decide +kernel
theorem lJx4a65c_elementData_915e3_f9 : Cond.fieldLink RJx4a65c 9 "java/util/ArrayList" "elementData" "[Ljava/lang/Object;" ∈ wsJx4a65c_elementData_915e3 := by decide +kernel
theorem iJx4a65c_elementData_915e3_Jx4a65c : ∀ w ∈ wsJx4a65c0, w ∈ wsJx4a65c_elementData_915e3 := by decide +kernel
theorem lJx4a65c_get_915e3_f48 : Cond.fieldLink RJx4a65c 48 "java/util/ArrayList" "size" "I" ∈ wsJx4a65c_get_915e3 := by decide +kernel
theorem iJx4a65c_get_915e3_Jx4a65c : ∀ w ∈ wsJx4a65c0, w ∈ wsJx4a65c_get_915e3 := by decide +kernel
theorem hd23_J15_checkIndex_7cf53 : yJ15_checkIndex_7cf53.cls ≠ "java/lang/invoke/MethodHandle" ∧ yJ15_checkIndex_7cf53.cls ≠ "java/lang/invoke/VarHandle" ∧ (parseMethodDescriptor yJ15_checkIndex_7cf53.desc).map (fun d => d.parameters.length) = some 2 := by decide +kernel
theorem hd23_Jx4a65c_elementData_915e3 : yJx4a65c_elementData_915e3.cls = RJx4a65c ∧ yJx4a65c_elementData_915e3.cls ≠ "java/lang/invoke/MethodHandle" ∧ yJx4a65c_elementData_915e3.cls ≠ "java/lang/invoke/VarHandle" ∧ (parseMethodDescriptor yJx4a65c_elementData_915e3.desc).map (fun d => d.parameters.length) = some 1 := by decide +kernel
theorem lJ8_newLength_cabcc_m194 : Cond.methodLink RJ8 194 Lib.Math.max.name ∈ wsJ8_newLength_cabcc := by decide +kernel
theorem stJ8_newLength_cabcc_max : Cond.static Lib.Math.max.name ∈ wsJ8_newLength_cabcc := by decide +kernel
theorem nJ8_newLength_cabcc_Math : Cond.initialized "java/lang/Math" ∈ wsJ8_newLength_cabcc := by decide +kernel
theorem cdJ8_newLength_cabcc_max : Cond.code Lib.Math.max.name Lib.Math.max.code 2 (some .int) ∈ wsJ8_newLength_cabcc := by decide +kernel
theorem lJ8_newLength_cabcc_k200 : Cond.constant RJ8 200 (2147483639) ∈ wsJ8_newLength_cabcc := by decide +kernel
theorem lJ7_copyOf_6403c_c110 : Cond.classLink RJ7 110 "[Ljava/lang/Object;" ∈ wsJ7_copyOf_6403c := by decide +kernel
theorem lJ7_copyOf_6403c_c2 : Cond.classLink RJ7 2 "java/lang/Object" ∈ wsJ7_copyOf_6403c := by decide +kernel
theorem lJ7_copyOf_6403c_m304 : Cond.methodLink RJ7 304 Lib.Math.min.name ∈ wsJ7_copyOf_6403c := by decide +kernel
theorem stJ7_copyOf_6403c_min : Cond.static Lib.Math.min.name ∈ wsJ7_copyOf_6403c := by decide +kernel
theorem nJ7_copyOf_6403c_Math : Cond.initialized "java/lang/Math" ∈ wsJ7_copyOf_6403c := by decide +kernel
theorem cdJ7_copyOf_6403c_min : Cond.code Lib.Math.min.name Lib.Math.min.code 2 (some .int) ∈ wsJ7_copyOf_6403c := by decide +kernel
theorem lJ7_copyOf_6403c_m150 : Cond.methodLink RJ7 150 arraycopyName ∈ wsJ7_copyOf_6403c := by decide +kernel
theorem ntJ7_copyOf_6403c_ac : Cond.native arraycopyName ∈ wsJ7_copyOf_6403c := by decide +kernel
theorem stJ7_copyOf_6403c_ac : Cond.static arraycopyName ∈ wsJ7_copyOf_6403c := by decide +kernel
theorem nJ7_copyOf_6403c_Sys : Cond.initialized "java/lang/System" ∈ wsJ7_copyOf_6403c := by decide +kernel
theorem lJ7_copyOf_1904c_m86 : Cond.methodLink RJ7 86 ⟨"java/lang/Object", "getClass", "()Ljava/lang/Class;"⟩ ∈ wsJ7_copyOf_1904c := by decide +kernel
theorem sJ7_copyOf_1904c_gc : Cond.selects "[Ljava/lang/Object;" ⟨"java/lang/Object", "getClass", "()Ljava/lang/Class;"⟩ ⟨"java/lang/Object", "getClass", "()Ljava/lang/Class;"⟩ ∈ wsJ7_copyOf_1904c := by decide +kernel
theorem vJ7_copyOf_1904c_gc : Cond.instanceMethod ⟨"java/lang/Object", "getClass", "()Ljava/lang/Class;"⟩ ∈ wsJ7_copyOf_1904c := by decide +kernel
theorem ntJ7_copyOf_1904c_gc : Cond.native ⟨"java/lang/Object", "getClass", "()Ljava/lang/Class;"⟩ ∈ wsJ7_copyOf_1904c := by decide +kernel
theorem hd23_J7_copyOf_6403c : yJ7_copyOf_6403c.cls ≠ "java/lang/invoke/MethodHandle" ∧ yJ7_copyOf_6403c.cls ≠ "java/lang/invoke/VarHandle" ∧ (parseMethodDescriptor yJ7_copyOf_6403c.desc).map (fun d => d.parameters.length) = some 3 := by decide +kernel
theorem lJx4a65c_grow_92f84_f9 : Cond.fieldLink RJx4a65c 9 "java/util/ArrayList" "elementData" "[Ljava/lang/Object;" ∈ wsJx4a65c_grow_92f84 := by decide +kernel
theorem iJx4a65c_grow_92f84_Jx4a65c : ∀ w ∈ wsJx4a65c0, w ∈ wsJx4a65c_grow_92f84 := by decide +kernel
theorem lJx4a65c_grow_92f84_f39 : Cond.fieldLink RJx4a65c 39 RJx4a65c "DEFAULTCAPACITY_EMPTY_ELEMENTDATA" "[Ljava/lang/Object;" ∈ wsJx4a65c_grow_92f84 := by decide +kernel
theorem lJx4a65c_grow_92f84_m79 : Cond.methodLink RJx4a65c 79 Lib.Math.max.name ∈ wsJx4a65c_grow_92f84 := by decide +kernel
theorem stJx4a65c_grow_92f84_max : Cond.static Lib.Math.max.name ∈ wsJx4a65c_grow_92f84 := by decide +kernel
theorem nJx4a65c_grow_92f84_Math : Cond.initialized "java/lang/Math" ∈ wsJx4a65c_grow_92f84 := by decide +kernel
theorem cdJx4a65c_grow_92f84_max : Cond.code Lib.Math.max.name Lib.Math.max.code 2 (some .int) ∈ wsJx4a65c_grow_92f84 := by decide +kernel
theorem lJx4a65c_grow_92f84_c7 : Cond.classLink RJx4a65c 7 "java/lang/Object" ∈ wsJx4a65c_grow_92f84 := by decide +kernel
theorem hd23_J8_newLength_cabcc : yJ8_newLength_cabcc.cls ≠ "java/lang/invoke/MethodHandle" ∧ yJ8_newLength_cabcc.cls ≠ "java/lang/invoke/VarHandle" ∧ (parseMethodDescriptor yJ8_newLength_cabcc.desc).map (fun d => d.parameters.length) = some 3 := by decide +kernel
theorem hd23_J7_copyOf_1904c : yJ7_copyOf_1904c.cls ≠ "java/lang/invoke/MethodHandle" ∧ yJ7_copyOf_1904c.cls ≠ "java/lang/invoke/VarHandle" ∧ (parseMethodDescriptor yJ7_copyOf_1904c.desc).map (fun d => d.parameters.length) = some 2 := by decide +kernel
theorem lJx4a65c_grow_d5877_f48 : Cond.fieldLink RJx4a65c 48 "java/util/ArrayList" "size" "I" ∈ wsJx4a65c_grow_d5877 := by decide +kernel
theorem iJx4a65c_grow_d5877_Jx4a65c : ∀ w ∈ wsJx4a65c0, w ∈ wsJx4a65c_grow_d5877 := by decide +kernel
theorem hd23_Jx4a65c_grow_92f84 : yJx4a65c_grow_92f84.cls = RJx4a65c ∧ yJx4a65c_grow_92f84.cls ≠ "java/lang/invoke/MethodHandle" ∧ yJx4a65c_grow_92f84.cls ≠ "java/lang/invoke/VarHandle" ∧ (parseMethodDescriptor yJx4a65c_grow_92f84.desc).map (fun d => d.parameters.length) = some 1 := by decide +kernel
section
variable {κ : KxT} {G : GG} {base mc ms : Nat} {post : Option Value → va_W → Prop} {exc : String → va_W → Prop} {X : va_W} {L : List Nat} {K : Nat → Nat} {I : Nat → Nat → Int} {F : Nat → Nat → Option Nat} {R : Nat → Nat → Int} {N : Nat → Nat} {O : Nat → Nat → Option Nat} {l : Launch}
abbrev rmJx4a65c_size_8abf5 : Room := { frames := 0, cells := 0, slots := 0, locals := 0 }
theorem c_AL_size {a : Nat} (ha : a ∈ L) (hk : K a = 6) : MC l yJx4a65c_size_8abf5 wsJx4a65c_size_8abf5 rmJx4a65c_size_8abf5 G base [.ref a] (pw G X L K I F R N O) (fun v w => v = some (.int (iI (I 16 a))) ∧ w = (pw G X L K I F R N O)) (fun _ _ => False) := by
  refine MC.of (cc := cJx4a65c_size_8abf5) (by decide) rfl rfl (Nat.le_of_ble_eq_true rfl) ?_
  intro κ C hT hl hnm
  refine z_aload_n C 0 rfl rfl dJx4a65c_size_8abf5_0 (rfl : 0 + 1 = 1) ?_
  refine z_get C (pwm_AL ha hk) rfl iJx4a65c_size_8abf5_Jx4a65c 2 (by decide) lJx4a65c_size_8abf5_f48 rfl rfl dJx4a65c_size_8abf5_1 (rfl : 1 + 3 = 4) ?_
  exact z_iret C rfl dJx4a65c_size_8abf5_4 ⟨rfl, rfl⟩ (Nat.le_refl _) (Nat.le_refl _)
abbrev rmJ3_checkIndex_8e157 : Room := { frames := 0, cells := 0, slots := 0, locals := 0 }
theorem c_J3_checkIndex {i n : Nat} {ws : va_W} (hi : i < n) (hn : n < 1000000) : MC l yJ3_checkIndex_8e157 wsJ3_checkIndex_8e157 rmJ3_checkIndex_8e157 G base [.int (iI (i : Int)), .int (iI (n : Int)), .null] ws (fun v w => v = some (.int (iI (i : Int))) ∧ w = ws) (fun _ _ => False) := by
  refine MC.of (cc := cJ3_checkIndex_8e157) (by decide) rfl rfl (Nat.le_of_ble_eq_true rfl) ?_
  intro κ C hT hl hnm
  refine z_sub [0, 1, 2] (lv' := [(0, .int (iI (i : Int))), (1, .int (iI (n : Int))), (2, .null)]) rfl ?_
  refine z_iload_n C 0 rfl rfl dJ3_checkIndex_8e157_0 (rfl : 0 + 1 = 1) ?_
  refine z_if_lt (pt := 9) C dJ3_checkIndex_8e157_1 (by decide) (rfl : 1 + 3 = 4) (iI_lt0 (by omega)).1 (fun q => mt (iI_lt0 (by omega)).2 q) (fun c => ?_) (fun c => ?_)
  · exact absurd c (by omega)
  refine z_iload_n C 0 rfl rfl dJ3_checkIndex_8e157_4 (rfl : 4 + 1 = 5) ?_
  refine z_iload_n C 1 rfl rfl dJ3_checkIndex_8e157_5 (rfl : 5 + 1 = 6) ?_
  refine z_icmp_lt (pt := 16) C dJ3_checkIndex_8e157_6 (by decide) (rfl : 6 + 3 = 9) (iI_lt (by omega) (by omega)).1 (fun q => mt (iI_lt (by omega) (by omega)).2 q) (fun c => ?_) (fun c => ?_)
  · refine z_iload_n C 0 rfl rfl dJ3_checkIndex_8e157_16 (rfl : 16 + 1 = 17) ?_
    exact z_iret C rfl dJ3_checkIndex_8e157_17 ⟨rfl, rfl⟩ (Nat.le_refl _) (Nat.le_refl _)
  · exact absurd c (by omega)
abbrev rmJ15_checkIndex_7cf53 : Room := { frames := 1, cells := 0, slots := 0, locals := 22 }
theorem c_J15_checkIndex {i n : Nat} {ws : va_W} (hi : i < n) (hn : n < 1000000) : MC l yJ15_checkIndex_7cf53 wsJ15_checkIndex_7cf53 rmJ15_checkIndex_7cf53 G base [.int (iI (i : Int)), .int (iI (n : Int))] ws (fun v w => v = some (.int (iI (i : Int))) ∧ w = ws) (fun _ _ => False) := by
  refine MC.of (cc := cJ15_checkIndex_7cf53) (by decide) rfl rfl (Nat.le_of_ble_eq_true rfl) ?_
  intro κ C hT hl hnm
  refine z_sub [0, 1] (lv' := [(0, .int (iI (i : Int))), (1, .int (iI (n : Int)))]) rfl ?_
  refine z_iload_n C 0 rfl rfl dJ15_checkIndex_7cf53_0 (rfl : 0 + 1 = 1) ?_
  refine z_iload_n C 1 rfl rfl dJ15_checkIndex_7cf53_1 (rfl : 1 + 1 = 2) ?_
  refine z_null C dJ15_checkIndex_7cf53_2 (rfl : 2 + 1 = 3) ?_
  refine z_callS C 0 0 (c_J3_checkIndex hi hn) gJ15_checkIndex_7cf53_J3_checkIndex_8e157 rfl hd23_J3_checkIndex_8e157 ⟨Nat.le_of_ble_eq_true rfl, Nat.le_of_ble_eq_true rfl⟩ rfl (Nat.le_of_ble_eq_true rfl) dJ15_checkIndex_7cf53_3 (rfl : 3 + 3 = 6) rfl rfl ⟨Nat.le_of_ble_eq_true rfl, Nat.le_of_ble_eq_true rfl⟩ (fun _ _ h => h.elim) ?_ rfl
  rintro _ _ ⟨rfl, rfl⟩
  refine z_v1 ?_
  exact z_iret C rfl dJ15_checkIndex_7cf53_6 ⟨rfl, rfl⟩ (Nat.le_refl _) (Nat.le_refl _)
abbrev rmJx4a65c_elementData_915e3 : Room := { frames := 0, cells := 0, slots := 0, locals := 0 }
theorem c_AL_elementData {a e i : Nat} (ha : a ∈ L) (hk : K a = 6) (hf : F 14 a = some e) (he : e ∈ L) (hke : K e = 9) (hi : i < N e) (hb : N e ≤ 200) : MC l yJx4a65c_elementData_915e3 wsJx4a65c_elementData_915e3 rmJx4a65c_elementData_915e3 G base [.ref a, .int (iI (i : Int))] (pw G X L K I F R N O) (fun v w => v = some (va_rf (O e i)) ∧ w = (pw G X L K I F R N O)) (fun _ _ => False) := by
  refine MC.of (cc := cJx4a65c_elementData_915e3) (by decide) rfl rfl (Nat.le_of_ble_eq_true rfl) ?_
  intro κ C hT hl hnm
  refine z_sub [0, 1] (lv' := [(0, .ref a), (1, .int (iI (i : Int)))]) rfl ?_
  refine z_aload_n C 0 rfl rfl dJx4a65c_elementData_915e3_0 (rfl : 0 + 1 = 1) ?_
  refine z_get C (pwm_AL ha hk) rfl iJx4a65c_elementData_915e3_Jx4a65c 1 (by decide) lJx4a65c_elementData_915e3_f9 rfl rfl dJx4a65c_elementData_915e3_1 (rfl : 1 + 3 = 4) ?_
  rw [hf]
  refine z_iload_n C 1 rfl rfl dJx4a65c_elementData_915e3_4 (rfl : 4 + 1 = 5) ?_
  refine z_aald C (r := O e i) (pwm_O he hke) ⟨by omega, by omega⟩ (by omega) rfl dJx4a65c_elementData_915e3_5 (rfl : 5 + 1 = 6) ?_
  exact z_aret C rfl (.inl ⟨_, rfl⟩) dJx4a65c_elementData_915e3_6 ⟨rfl, rfl⟩ (Nat.le_refl _) (Nat.le_refl _)
abbrev rmJx4a65c_get_915e3 : Room := { frames := 2, cells := 0, slots := 0, locals := 45 }
theorem c_AL_get {a e i n : Nat} (ha : a ∈ L) (hk : K a = 6) (hs : I 16 a = (n : Int)) (hf : F 14 a = some e) (he : e ∈ L) (hke : K e = 9) (hi : i < n) (hn : n ≤ N e) (hb : N e ≤ 200) : MC l yJx4a65c_get_915e3 wsJx4a65c_get_915e3 rmJx4a65c_get_915e3 G base [.ref a, .int (iI (i : Int))] (pw G X L K I F R N O) (fun v w => v = some (va_rf (O e i)) ∧ w = (pw G X L K I F R N O)) (fun _ _ => False) := by
  refine MC.of (cc := cJx4a65c_get_915e3) (by decide) rfl rfl (Nat.le_of_ble_eq_true rfl) ?_
  intro κ C hT hl hnm
  refine z_sub [0, 1] (lv' := [(0, .ref a), (1, .int (iI (i : Int)))]) rfl ?_
  refine z_iload_n C 1 rfl rfl dJx4a65c_get_915e3_0 (rfl : 0 + 1 = 1) ?_
  refine z_aload_n C 0 rfl rfl dJx4a65c_get_915e3_1 (rfl : 1 + 1 = 2) ?_
  refine z_get C (pwm_AL ha hk) rfl iJx4a65c_get_915e3_Jx4a65c 2 (by decide) lJx4a65c_get_915e3_f48 rfl rfl dJx4a65c_get_915e3_2 (rfl : 2 + 3 = 5) ?_
  rw [hs]
  refine z_callS C 0 0 (c_J15_checkIndex hi (by omega)) gJx4a65c_get_915e3_J15_checkIndex_7cf53 rfl hd23_J15_checkIndex_7cf53 ⟨Nat.le_of_ble_eq_true rfl, Nat.le_of_ble_eq_true rfl⟩ rfl (Nat.le_of_ble_eq_true rfl) dJx4a65c_get_915e3_5 (rfl : 5 + 3 = 8) rfl rfl ⟨Nat.le_of_ble_eq_true rfl, Nat.le_of_ble_eq_true rfl⟩ (fun _ _ h => h.elim) ?_ rfl
  rintro _ _ ⟨rfl, rfl⟩
  refine z_v1 ?_
  refine z_pop C rfl dJx4a65c_get_915e3_8 (rfl : 8 + 1 = 9) ?_
  refine z_aload_n C 0 rfl rfl dJx4a65c_get_915e3_9 (rfl : 9 + 1 = 10) ?_
  refine z_iload_n C 1 rfl rfl dJx4a65c_get_915e3_10 (rfl : 10 + 1 = 11) ?_
  refine z_callV C 0 0 (c_AL_elementData ha hk hf he hke (by omega) hb) gJx4a65c_get_915e3_Jx4a65c_elementData_915e3 rfl hd23_Jx4a65c_elementData_915e3 ⟨Nat.le_of_ble_eq_true rfl, Nat.le_of_ble_eq_true rfl⟩ (pwm_AL ha hk) rfl rfl (Nat.le_of_ble_eq_true rfl) dJx4a65c_get_915e3_11 (rfl : 11 + 3 = 14) rfl rfl ⟨Nat.le_of_ble_eq_true rfl, Nat.le_of_ble_eq_true rfl⟩ (fun _ _ h => h.elim) ?_ rfl
  rintro _ _ ⟨rfl, rfl⟩
  refine z_v1 ?_
  exact z_aret C rfl (.inl ⟨_, rfl⟩) dJx4a65c_get_915e3_14 ⟨rfl, rfl⟩ (Nat.le_refl _) (Nat.le_refl _)
abbrev rmJ8_newLength_cabcc : Room := { frames := 1, cells := 0, slots := 0, locals := 17 }
theorem c_J8_newLength {o g p : Int} {ws : va_W} (ho : 0 ≤ o ∧ o ≤ 1000) (hg : 1 ≤ g ∧ g ≤ 1000) (hp : 0 ≤ p ∧ p ≤ 1000) : MC l yJ8_newLength_cabcc wsJ8_newLength_cabcc rmJ8_newLength_cabcc G base [.int (iI o), .int (iI g), .int (iI p)] ws (fun v w => v = some (.int (iI (o + max g p))) ∧ w = ws) (fun _ _ => False) := by
  refine MC.of (cc := cJ8_newLength_cabcc) (by decide) rfl rfl (Nat.le_of_ble_eq_true rfl) ?_
  intro κ C hT hl hnm
  refine z_sub [0, 1, 2] (lv' := [(0, .int (iI o)), (1, .int (iI g)), (2, .int (iI p))]) rfl ?_
  have e : (if iI g < iI p then iI p else iI g) = iI (max g p) := by
    have e2 := iI_lt (a := g) (b := p) (by omega) (by omega)
    by_cases c : g < p
    · rw [if_pos (e2.mpr c)]; congr 1; omega
    · rw [if_neg (mt e2.mp c)]; congr 1; omega
  refine z_iload_n C 0 rfl rfl dJ8_newLength_cabcc_0 (rfl : 0 + 1 = 1) ?_
  refine z_iload_n C 1 rfl rfl dJ8_newLength_cabcc_1 (rfl : 1 + 1 = 2) ?_
  refine z_iload_n C 2 rfl rfl dJ8_newLength_cabcc_2 (rfl : 2 + 1 = 3) ?_
  refine z_mmax C lJ8_newLength_cabcc_m194 stJ8_newLength_cabcc_max nJ8_newLength_cabcc_Math cdJ8_newLength_cabcc_max (by decide) (Nat.le_of_ble_eq_true rfl) (by decide) (by first | decide | (show _ ≤ 200; omega)) dJ8_newLength_cabcc_3 (rfl : 3 + 3 = 6) ?_
  rw [e]
  refine z_iadd C dJ8_newLength_cabcc_6 (rfl : 6 + 1 = 7) rfl ?_
  refine z_istore_n (lv' := [(3, _), (0, _), (1, _), (2, _)]) C rfl dJ8_newLength_cabcc_7 (rfl : 7 + 1 = 8) (by decide) rfl ?_
  refine z_iconst C dJ8_newLength_cabcc_8 (rfl : 8 + 1 = 9) ?_
  refine z_iload_n C 0 rfl rfl dJ8_newLength_cabcc_9 (rfl : 9 + 1 = 10) ?_
  refine z_icmp_ge (pt := 21) C dJ8_newLength_cabcc_10 (by decide) (rfl : 10 + 3 = 13) (iI_le (by omega) (by omega)).1 (fun q => mt (iI_le (by omega) (by omega)).2 q) (fun c => ?_) (fun c => ?_)
  · exact absurd c (by omega)
  refine z_iload_n C 0 rfl rfl dJ8_newLength_cabcc_13 (rfl : 13 + 1 = 14) ?_
  refine z_ldc C (C.hts lJ8_newLength_cabcc_k200) dJ8_newLength_cabcc_14 (rfl : 14 + 2 = 16) ?_
  rw [show (2147483639 : Int32) = iI 2147483639 from rfl]
  refine z_icmp_gt (pt := 21) C dJ8_newLength_cabcc_16 (by decide) (rfl : 16 + 3 = 19) (iI_lt (by omega) (by omega)).1 (fun q => mt (iI_lt (by omega) (by omega)).2 q) (fun c2 => ?_) (fun c2 => ?_)
  · exact absurd c2 (by omega)
  refine z_iload_n C 0 rfl rfl dJ8_newLength_cabcc_19 (rfl : 19 + 1 = 20) ?_
  exact z_iret C rfl dJ8_newLength_cabcc_20 ⟨rfl, rfl⟩ (Nat.le_refl _) (Nat.le_refl _)
abbrev rmJ7_copyOf_6403c : Room := { frames := 1, cells := 1, slots := 200, locals := 80 }
theorem c_J7_copyOf2 {e m kk : Nat} (he : e ∈ L) (hke : K e = 9) (hm : N e ≤ m ∧ m ≤ 200) (ok : okK kk) (hel : ∀ i, i < N e → ∀ y, O e i = some y → y ∈ L ∧ K y = kk) : MC l yJ7_copyOf_6403c wsJ7_copyOf_6403c rmJ7_copyOf_6403c G base [.ref e, .int (iI (m : Int)), .ref (gmi G)] (pw G X L K I F R N O) (fun v w => ∃ (q : Nat) (f : Nat → Option Nat), q ∉ L ∧ v = some (.ref q) ∧ (∀ i, f i = if i < N e then O e i else none) ∧ w = pw G X (L ++ [q]) (va_up K q 9) I F R (va_up N q m) (va_up O q f)) (fun _ _ => False) := by
  refine MC.of (cc := cJ7_copyOf_6403c) (by decide) rfl rfl (Nat.le_of_ble_eq_true rfl) ?_
  intro κ C hT hl hnm
  refine z_sub [0, 1, 2] (lv' := [(0, .ref e), (1, .int (iI (m : Int))), (2, .ref (gmi G))]) rfl ?_
  refine z_aload_n C 2 rfl rfl dJ7_copyOf_6403c_0 (rfl : 0 + 1 = 1) ?_
  refine z_ldcM C lJ7_copyOf_6403c_c110 dJ7_copyOf_6403c_1 (rfl : 1 + 2 = 3) ?_
  refine z_acmp_ne (pt := 13) C (some (gmi G)) (some (gmi G)) dJ7_copyOf_6403c_3 (by decide) (rfl : 3 + 3 = 6) (fun c => absurd rfl c) (fun _ => ?_)
  refine z_iload_n C 1 rfl rfl dJ7_copyOf_6403c_6 (rfl : 6 + 1 = 7) ?_
  refine z_newq (N' := m) C lJ7_copyOf_6403c_c2 rfl (by omega) (by decide) (by show 0 + _ ≤ 200; omega) dJ7_copyOf_6403c_7 (rfl : 7 + 3 = 10) (fun q hq => ?_)
  have hqL : q ∉ L := pw_fresh hq
  have ne : e ≠ q := fun h => hqL (h ▸ he)
  refine z_ws (pwn_O hq) ?_
  have h0 := pwm_O (G := G) (X := X) (I := I) (F := F) (R := R) (N := va_up N q m) (O := va_up O q (fun _ => none)) (K := va_up K q 9) (L := L ++ [q]) (List.mem_append_left [q] he) ((upne he hqL).trans hke)
  have h1 := pwm_O (G := G) (X := X) (I := I) (F := F) (R := R) (N := va_up N q m) (O := va_up O q (fun _ => none)) (K := va_up K q 9) (L := L ++ [q]) (a := q) (by simp) (va_up_self _ _ _)
  rw [va_up_ne N m ne, va_up_ne O _ ne] at h0
  refine z_goto (pc' := 24) C dJ7_copyOf_6403c_10 (by decide) ?_
  refine z_astore_n (lv' := [(3, _), (0, _), (1, _), (2, _)]) C rfl dJ7_copyOf_6403c_24 (rfl : 24 + 1 = 25) (by decide) rfl ?_
  refine z_aload_n C 1 rfl rfl dJ7_copyOf_6403c_25 (rfl : 25 + 1 = 26) ?_
  refine z_iconst C dJ7_copyOf_6403c_26 (rfl : 26 + 1 = 27) ?_
  refine z_aload_n C 0 rfl rfl dJ7_copyOf_6403c_27 (rfl : 27 + 1 = 28) ?_
  refine z_iconst C dJ7_copyOf_6403c_28 (rfl : 28 + 1 = 29) ?_
  refine z_aload_n C 1 rfl rfl dJ7_copyOf_6403c_29 (rfl : 29 + 1 = 30) ?_
  refine z_alen C 2 h0 rfl dJ7_copyOf_6403c_30 (rfl : 30 + 1 = 31) ?_
  refine z_iload_n C 2 rfl rfl dJ7_copyOf_6403c_31 (rfl : 31 + 1 = 32) ?_
  refine z_mmin C lJ7_copyOf_6403c_m304 stJ7_copyOf_6403c_min nJ7_copyOf_6403c_Math cdJ7_copyOf_6403c_min (by decide) (Nat.le_of_ble_eq_true rfl) (by decide) (by first | decide | (show _ ≤ 200; omega)) dJ7_copyOf_6403c_32 (rfl : 32 + 3 = 35) ?_
  rw [if_neg (by rw [iI_lt (by omega) (by omega)]; omega)]
  refine z_copyq C (cnK kk) lJ7_copyOf_6403c_m150 ntJ7_copyOf_6403c_ac stJ7_copyOf_6403c_ac nJ7_copyOf_6403c_Sys h0 h1 ⟨by omega, by omega, by rw [va_up_self]; omega⟩ (by omega) (cnK_ok ok) (fun i hi y hy => pw_obj (List.mem_append_left [q] (hel i (by omega) y hy).1) ((upne (hel i (by omega) y hy).1 hqL).trans (hel i (by omega) y hy).2) ok) (by decide) (Nat.le_of_ble_eq_true rfl) dJ7_copyOf_6403c_35 (rfl : 35 + 3 = 38) (pwf_O (by simp) (va_up_self _ _ _)) ?_
  refine z_aload_n C 0 rfl rfl dJ7_copyOf_6403c_38 (rfl : 38 + 1 = 39) ?_
  refine z_aret (v := some q) C rfl (.inr ⟨_, rfl⟩) dJ7_copyOf_6403c_39 ⟨q, va_cpy (O e) (fun _ => none) 0 0 (N e), hqL, rfl, fun i => by simp [va_cpy], ?_⟩ (by decide) (by show 0 + m ≤ 200; omega)
  rw [up_up, va_up_self]
  rfl
abbrev rmJ7_copyOf_1904c : Room := { frames := 2, cells := 1, slots := 200, locals := 103 }
theorem c_J7_copyOf {e m kk : Nat} (he : e ∈ L) (hke : K e = 9) (hm : N e ≤ m ∧ m ≤ 200) (ok : okK kk) (hel : ∀ i, i < N e → ∀ y, O e i = some y → y ∈ L ∧ K y = kk) : MC l yJ7_copyOf_1904c wsJ7_copyOf_1904c rmJ7_copyOf_1904c G base [.ref e, .int (iI (m : Int))] (pw G X L K I F R N O) (fun v w => ∃ (q : Nat) (f : Nat → Option Nat), q ∉ L ∧ v = some (.ref q) ∧ (∀ i, f i = if i < N e then O e i else none) ∧ w = pw G X (L ++ [q]) (va_up K q 9) I F R (va_up N q m) (va_up O q f)) (fun _ _ => False) := by
  refine MC.of (cc := cJ7_copyOf_1904c) (by decide) rfl rfl (Nat.le_of_ble_eq_true rfl) ?_
  intro κ C hT hl hnm
  refine z_sub [0, 1] (lv' := [(0, .ref e), (1, .int (iI (m : Int)))]) rfl ?_
  refine z_aload_n C 0 rfl rfl dJ7_copyOf_1904c_0 (rfl : 0 + 1 = 1) ?_
  refine z_iload_n C 1 rfl rfl dJ7_copyOf_1904c_1 (rfl : 1 + 1 = 2) ?_
  refine z_aload_n C 0 rfl rfl dJ7_copyOf_1904c_2 (rfl : 2 + 1 = 3) ?_
  refine z_getC C lJ7_copyOf_1904c_m86 sJ7_copyOf_1904c_gc vJ7_copyOf_1904c_gc ntJ7_copyOf_1904c_gc (pwm_O he hke) (by decide) (Nat.le_of_ble_eq_true rfl) dJ7_copyOf_1904c_3 (rfl : 3 + 3 = 6) ?_
  refine z_callS C 1 200 (c_J7_copyOf2 he hke hm ok hel) gJ7_copyOf_1904c_J7_copyOf_6403c rfl hd23_J7_copyOf_6403c ⟨Nat.le_of_ble_eq_true rfl, Nat.le_of_ble_eq_true rfl⟩ rfl (Nat.le_of_ble_eq_true rfl) dJ7_copyOf_1904c_6 (rfl : 6 + 3 = 9) rfl rfl ⟨Nat.le_of_ble_eq_true rfl, Nat.le_of_ble_eq_true rfl⟩ (fun _ _ h => h.elim) ?_ rfl
  rintro _ _ ⟨q, f, h1, rfl, h2, rfl⟩
  refine z_v1 ?_
  exact z_aret (v := some q) C rfl (.inr ⟨_, rfl⟩) dJ7_copyOf_1904c_9 ⟨q, f, h1, rfl, h2, rfl⟩ (by decide) (by decide)
abbrev rmJx4a65c_grow_92f84 : Room := { frames := 3, cells := 1, slots := 200, locals := 124 }
theorem c_AL_growA {a : Nat} (ha : a ∈ L) (hk : K a = 6) (hf : F 14 a = some (gde G)) : MC l yJx4a65c_grow_92f84 wsJx4a65c_grow_92f84 rmJx4a65c_grow_92f84 G base [.ref a, .int (iI 1)] (pw G X L K I F R N O) (fun v w => ∃ q : Nat, q ∉ L ∧ v = some (.ref q) ∧ w = pw G X (L ++ [q]) (va_up K q 9) I (up2 F 14 a (some q)) R (va_up N q 10) (va_up O q (fun _ => none))) (fun _ _ => False) := by
  refine MC.of (cc := cJx4a65c_grow_92f84) (by decide) rfl rfl (Nat.le_of_ble_eq_true rfl) ?_
  intro κ C hT hl hnm
  refine z_sub [0, 1] (lv' := [(0, .ref a), (1, .int (iI 1))]) rfl ?_
  refine z_aload_n C 0 rfl rfl dJx4a65c_grow_92f84_0 (rfl : 0 + 1 = 1) ?_
  refine z_get C (pwm_AL ha hk) rfl iJx4a65c_grow_92f84_Jx4a65c 1 (by decide) lJx4a65c_grow_92f84_f9 rfl rfl dJx4a65c_grow_92f84_1 (rfl : 1 + 3 = 4) ?_
  rw [hf]
  refine z_delen C  dJx4a65c_grow_92f84_4 (rfl : 4 + 1 = 5) ?_
  refine z_istore_n (lv' := [(2, _), (0, _), (1, _)]) C rfl dJx4a65c_grow_92f84_5 (rfl : 5 + 1 = 6) (by decide) rfl ?_
  refine z_iload_n C 0 rfl rfl dJx4a65c_grow_92f84_6 (rfl : 6 + 1 = 7) ?_
  refine z_if_gt (pt := 20) C dJx4a65c_grow_92f84_7 (by decide) (rfl : 7 + 3 = 10) (iI_0lt (by omega)).1 (fun q => mt (iI_0lt (by omega)).2 q) (fun c => ?_) (fun c => ?_)
  · exact absurd c (by omega)
  refine z_aload_n C 1 rfl rfl dJx4a65c_grow_92f84_10 (rfl : 10 + 1 = 11) ?_
  refine z_get C (pwm_AL ha hk) rfl iJx4a65c_grow_92f84_Jx4a65c 1 (by decide) lJx4a65c_grow_92f84_f9 rfl rfl dJx4a65c_grow_92f84_11 (rfl : 11 + 3 = 14) ?_
  rw [hf]
  refine z_gets C lJx4a65c_grow_92f84_f39 dJx4a65c_grow_92f84_14 (rfl : 14 + 3 = 17) ?_
  refine z_acmp_eq (pt := 45) C (some (gde G)) (some (gde G)) dJx4a65c_grow_92f84_17 (by decide) (rfl : 17 + 3 = 20) (fun _ => ?_) (fun c => absurd rfl c)
  refine z_aload_n C 1 rfl rfl dJx4a65c_grow_92f84_45 (rfl : 45 + 1 = 46) ?_
  refine z_bipush (c := 10) C (by decide) dJx4a65c_grow_92f84_46 (rfl : 46 + 2 = 48) ?_
  refine z_iload_n C 2 rfl rfl dJx4a65c_grow_92f84_48 (rfl : 48 + 1 = 49) ?_
  refine z_mmax C lJx4a65c_grow_92f84_m79 stJx4a65c_grow_92f84_max nJx4a65c_grow_92f84_Math cdJx4a65c_grow_92f84_max (by decide) (Nat.le_of_ble_eq_true rfl) (by decide) (by first | decide | (show _ ≤ 200; omega)) dJx4a65c_grow_92f84_49 (rfl : 49 + 3 = 52) ?_
  rw [show (if iI 10 < iI 1 then iI 1 else iI 10) = iI ((10 : Nat) : Int) from rfl]
  refine z_newq (N' := 10) C lJx4a65c_grow_92f84_c7 rfl (by omega) (by decide) (by show 0 + _ ≤ 200; omega) dJx4a65c_grow_92f84_52 (rfl : 52 + 3 = 55) (fun q hq => ?_)
  have hqL : q ∉ L := pw_fresh hq
  refine z_ws (pwn_O hq) ?_
  refine z_dup_x1 C rfl rfl dJx4a65c_grow_92f84_55 (rfl : 55 + 1 = 56) ?_
  refine z_put C tyJx4a65c tyJx4a65c_ok nmJx4a65c (pwm_AL (List.mem_append_left [q] ha) ((upne ha hqL).trans hk)) rfl iJx4a65c_grow_92f84_Jx4a65c 1 (by decide) lJx4a65c_grow_92f84_f9 rfl rfl rfl rfl rfl (Nat.le_of_ble_eq_true rfl) dJx4a65c_grow_92f84_56 (rfl : 56 + 3 = 59) (pws_AL_elementData (z := some q) (List.mem_append_left [q] ha) ((upne ha hqL).trans hk)) ?_
  exact z_aret (v := some q) C rfl (.inr ⟨_, rfl⟩) dJx4a65c_grow_92f84_59 ⟨q, hqL, rfl, rfl⟩ (by decide) (by decide)
theorem c_AL_growB {a e n kk : Nat} (ha : a ∈ L) (hk : K a = 6) (hf : F 14 a = some e) (he : e ∈ L) (hke : K e = 9) (hn : N e = n) (hn2 : 2 ≤ n ∧ n ≤ 100) (ok : okK kk) (hel : ∀ i, i < N e → ∀ y, O e i = some y → y ∈ L ∧ K y = kk) : MC l yJx4a65c_grow_92f84 wsJx4a65c_grow_92f84 rmJx4a65c_grow_92f84 G base [.ref a, .int (iI ((n : Int) + 1))] (pw G X L K I F R N O) (fun v w => ∃ (q : Nat) (f : Nat → Option Nat), q ∉ L ∧ v = some (.ref q) ∧ (∀ i, f i = if i < n then O e i else none) ∧ w = pw G X (L ++ [q]) (va_up K q 9) I (up2 F 14 a (some q)) R (va_up N q (n + n / 2)) (va_up O q f)) (fun _ _ => False) := by
  refine MC.of (cc := cJx4a65c_grow_92f84) (by decide) rfl rfl (Nat.le_of_ble_eq_true rfl) ?_
  intro κ C hT hl hnm
  have esh : iI (n : Int) >>> (iI 1 &&& 31) = iI ((n / 2 : Nat) : Int) := by
    have k := pk_shrN (n := n) (by omega) ((1 : Int32) &&& 31) 1 (by decide)
    rw [Nat.pow_one] at k
    exact k
  refine z_sub [0, 1] (lv' := [(0, .ref a), (1, .int (iI ((n : Int) + 1)))]) rfl ?_
  refine z_aload_n C 0 rfl rfl dJx4a65c_grow_92f84_0 (rfl : 0 + 1 = 1) ?_
  refine z_get C (pwm_AL ha hk) rfl iJx4a65c_grow_92f84_Jx4a65c 1 (by decide) lJx4a65c_grow_92f84_f9 rfl rfl dJx4a65c_grow_92f84_1 (rfl : 1 + 3 = 4) ?_
  rw [hf]
  refine z_alen C 2 (pwm_O he hke) rfl dJx4a65c_grow_92f84_4 (rfl : 4 + 1 = 5) ?_
  rw [hn]
  refine z_istore_n (lv' := [(2, _), (0, _), (1, _)]) C rfl dJx4a65c_grow_92f84_5 (rfl : 5 + 1 = 6) (by decide) rfl ?_
  refine z_iload_n C 0 rfl rfl dJx4a65c_grow_92f84_6 (rfl : 6 + 1 = 7) ?_
  refine z_if_gt (pt := 20) C dJx4a65c_grow_92f84_7 (by decide) (rfl : 7 + 3 = 10) (iI_0lt (by omega)).1 (fun q => mt (iI_0lt (by omega)).2 q) (fun c => ?_) (fun c => ?_)
  rotate_left
  · exact absurd c (by omega)
  refine z_iload_n C 0 rfl rfl dJx4a65c_grow_92f84_20 (rfl : 20 + 1 = 21) ?_
  refine z_iload_n C 2 rfl rfl dJx4a65c_grow_92f84_21 (rfl : 21 + 1 = 22) ?_
  refine z_iload_n C 0 rfl rfl dJx4a65c_grow_92f84_22 (rfl : 22 + 1 = 23) ?_
  refine z_isub C dJx4a65c_grow_92f84_23 (rfl : 23 + 1 = 24) rfl ?_
  refine z_iload_n C 0 rfl rfl dJx4a65c_grow_92f84_24 (rfl : 24 + 1 = 25) ?_
  refine z_iconst C dJx4a65c_grow_92f84_25 (rfl : 25 + 1 = 26) ?_
  refine z_ishr C dJx4a65c_grow_92f84_26 (rfl : 26 + 1 = 27) ?_
  rw [esh]
  refine z_callS C 0 0 (c_J8_newLength (by omega) (by omega) (by omega)) gJx4a65c_grow_92f84_J8_newLength_cabcc rfl hd23_J8_newLength_cabcc ⟨Nat.le_of_ble_eq_true rfl, Nat.le_of_ble_eq_true rfl⟩ rfl (Nat.le_of_ble_eq_true rfl) dJx4a65c_grow_92f84_27 (rfl : 27 + 3 = 30) rfl rfl ⟨Nat.le_of_ble_eq_true rfl, Nat.le_of_ble_eq_true rfl⟩ (fun _ _ h => h.elim) ?_ rfl
  rintro _ _ ⟨rfl, rfl⟩
  refine z_v1 ?_
  rw [show (n : Int) + max ((n : Int) + 1 - (n : Int)) ((n / 2 : Nat) : Int) = ((n + n / 2 : Nat) : Int) by omega]
  refine z_istore_n (lv' := [(3, _), (2, _), (0, _), (1, _)]) C rfl dJx4a65c_grow_92f84_30 (rfl : 30 + 1 = 31) (by decide) rfl ?_
  refine z_aload_n C 2 rfl rfl dJx4a65c_grow_92f84_31 (rfl : 31 + 1 = 32) ?_
  refine z_aload_n C 2 rfl rfl dJx4a65c_grow_92f84_32 (rfl : 32 + 1 = 33) ?_
  refine z_get C (pwm_AL ha hk) rfl iJx4a65c_grow_92f84_Jx4a65c 1 (by decide) lJx4a65c_grow_92f84_f9 rfl rfl dJx4a65c_grow_92f84_33 (rfl : 33 + 3 = 36) ?_
  rw [hf]
  refine z_iload_n C 0 rfl rfl dJx4a65c_grow_92f84_36 (rfl : 36 + 1 = 37) ?_
  refine z_callS C 1 200 (c_J7_copyOf he hke ⟨by omega, by omega⟩ ok hel) gJx4a65c_grow_92f84_J7_copyOf_1904c rfl hd23_J7_copyOf_1904c ⟨Nat.le_of_ble_eq_true rfl, Nat.le_of_ble_eq_true rfl⟩ rfl (Nat.le_of_ble_eq_true rfl) dJx4a65c_grow_92f84_37 (rfl : 37 + 3 = 40) rfl rfl ⟨Nat.le_of_ble_eq_true rfl, Nat.le_of_ble_eq_true rfl⟩ (fun _ _ h => h.elim) ?_ rfl
  rintro _ _ ⟨q, f, hqL, rfl, h2, rfl⟩
  refine z_v1 ?_
  refine z_dup_x1 C rfl rfl dJx4a65c_grow_92f84_40 (rfl : 40 + 1 = 41) ?_
  refine z_put C tyJx4a65c tyJx4a65c_ok nmJx4a65c (pwm_AL (List.mem_append_left [q] ha) ((upne ha hqL).trans hk)) rfl iJx4a65c_grow_92f84_Jx4a65c 1 (by decide) lJx4a65c_grow_92f84_f9 rfl rfl rfl rfl rfl (Nat.le_of_ble_eq_true rfl) dJx4a65c_grow_92f84_41 (rfl : 41 + 3 = 44) (pws_AL_elementData (z := some q) (List.mem_append_left [q] ha) ((upne ha hqL).trans hk)) ?_
  exact z_aret (v := some q) C rfl (.inr ⟨_, rfl⟩) dJx4a65c_grow_92f84_44 ⟨q, f, hqL, rfl, fun i => hn ▸ h2 i, rfl⟩ (by decide) (by decide)
abbrev rmJx4a65c_grow_d5877 : Room := { frames := 4, cells := 1, slots := 200, locals := 147 }
theorem c_AL_grow0A {a : Nat} (ha : a ∈ L) (hk : K a = 6) (hs : I 16 a = 0) (hf : F 14 a = some (gde G)) : MC l yJx4a65c_grow_d5877 wsJx4a65c_grow_d5877 rmJx4a65c_grow_d5877 G base [.ref a] (pw G X L K I F R N O) (fun v w => ∃ q : Nat, q ∉ L ∧ v = some (.ref q) ∧ w = pw G X (L ++ [q]) (va_up K q 9) I (up2 F 14 a (some q)) R (va_up N q 10) (va_up O q (fun _ => none))) (fun _ _ => False) := by
  refine MC.of (cc := cJx4a65c_grow_d5877) (by decide) rfl rfl (Nat.le_of_ble_eq_true rfl) ?_
  intro κ C hT hl hnm
  refine z_aload_n C 0 rfl rfl dJx4a65c_grow_d5877_0 (rfl : 0 + 1 = 1) ?_
  refine z_aload_n C 0 rfl rfl dJx4a65c_grow_d5877_1 (rfl : 1 + 1 = 2) ?_
  refine z_get C (pwm_AL ha hk) rfl iJx4a65c_grow_d5877_Jx4a65c 2 (by decide) lJx4a65c_grow_d5877_f48 rfl rfl dJx4a65c_grow_d5877_2 (rfl : 2 + 3 = 5) ?_
  rw [hs]
  refine z_iconst C dJx4a65c_grow_d5877_5 (rfl : 5 + 1 = 6) ?_
  refine z_iadd C dJx4a65c_grow_d5877_6 (rfl : 6 + 1 = 7) rfl ?_
  refine z_callV C 1 200 (c_AL_growA ha hk hf) gJx4a65c_grow_d5877_Jx4a65c_grow_92f84 rfl hd23_Jx4a65c_grow_92f84 ⟨Nat.le_of_ble_eq_true rfl, Nat.le_of_ble_eq_true rfl⟩ (pwm_AL ha hk) rfl rfl (Nat.le_of_ble_eq_true rfl) dJx4a65c_grow_d5877_7 (rfl : 7 + 3 = 10) rfl rfl ⟨Nat.le_of_ble_eq_true rfl, Nat.le_of_ble_eq_true rfl⟩ (fun _ _ h => h.elim) ?_ rfl
  rintro _ _ ⟨q, h1, rfl, rfl⟩
  refine z_v1 ?_
  exact z_aret (v := some q) C rfl (.inr ⟨_, rfl⟩) dJx4a65c_grow_d5877_10 ⟨q, h1, rfl, rfl⟩ (by decide) (by decide)
theorem c_AL_grow0B {a e n kk : Nat} (ha : a ∈ L) (hk : K a = 6) (hs : I 16 a = (n : Int)) (hf : F 14 a = some e) (he : e ∈ L) (hke : K e = 9) (hn : N e = n) (hn2 : 2 ≤ n ∧ n ≤ 100) (ok : okK kk) (hel : ∀ i, i < N e → ∀ y, O e i = some y → y ∈ L ∧ K y = kk) : MC l yJx4a65c_grow_d5877 wsJx4a65c_grow_d5877 rmJx4a65c_grow_d5877 G base [.ref a] (pw G X L K I F R N O) (fun v w => ∃ (q : Nat) (f : Nat → Option Nat), q ∉ L ∧ v = some (.ref q) ∧ (∀ i, f i = if i < n then O e i else none) ∧ w = pw G X (L ++ [q]) (va_up K q 9) I (up2 F 14 a (some q)) R (va_up N q (n + n / 2)) (va_up O q f)) (fun _ _ => False) := by
  refine MC.of (cc := cJx4a65c_grow_d5877) (by decide) rfl rfl (Nat.le_of_ble_eq_true rfl) ?_
  intro κ C hT hl hnm
  refine z_aload_n C 0 rfl rfl dJx4a65c_grow_d5877_0 (rfl : 0 + 1 = 1) ?_
  refine z_aload_n C 0 rfl rfl dJx4a65c_grow_d5877_1 (rfl : 1 + 1 = 2) ?_
  refine z_get C (pwm_AL ha hk) rfl iJx4a65c_grow_d5877_Jx4a65c 2 (by decide) lJx4a65c_grow_d5877_f48 rfl rfl dJx4a65c_grow_d5877_2 (rfl : 2 + 3 = 5) ?_
  rw [hs]
  refine z_iconst C dJx4a65c_grow_d5877_5 (rfl : 5 + 1 = 6) ?_
  refine z_iadd C dJx4a65c_grow_d5877_6 (rfl : 6 + 1 = 7) rfl ?_
  refine z_callV C 1 200 (c_AL_growB ha hk hf he hke hn hn2 ok hel) gJx4a65c_grow_d5877_Jx4a65c_grow_92f84 rfl hd23_Jx4a65c_grow_92f84 ⟨Nat.le_of_ble_eq_true rfl, Nat.le_of_ble_eq_true rfl⟩ (pwm_AL ha hk) rfl rfl (Nat.le_of_ble_eq_true rfl) dJx4a65c_grow_d5877_7 (rfl : 7 + 3 = 10) rfl rfl ⟨Nat.le_of_ble_eq_true rfl, Nat.le_of_ble_eq_true rfl⟩ (fun _ _ h => h.elim) ?_ rfl
  rintro _ _ ⟨q, f, h1, rfl, h2, rfl⟩
  refine z_v1 ?_
  exact z_aret (v := some q) C rfl (.inr ⟨_, rfl⟩) dJx4a65c_grow_d5877_10 ⟨q, f, h1, rfl, h2, rfl⟩ (by decide) (by decide)
end
