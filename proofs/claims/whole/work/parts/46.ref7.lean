theorem lX6_giveBack_f63 : Cond.fieldLink RX6 63 "ModelCopiesModel" "back" "[Z" ∈ wsX6_giveBack := by decide +kernel
theorem iX6_giveBack_X6 : ∀ w ∈ wsX60, w ∈ wsX6_giveBack := by decide +kernel
theorem lX6_giveBack_f69 : Cond.fieldLink RX6 69 "ModelCopiesModel" "laid" "[I" ∈ wsX6_giveBack := by decide +kernel
theorem lX6_giveBack_f66 : Cond.fieldLink RX6 66 "ModelCopiesModel" "coins" "[I" ∈ wsX6_giveBack := by decide +kernel
theorem lX6_giveBack_f23 : Cond.fieldLink RX6 23 "ModelCopiesModel" "houses" "[I" ∈ wsX6_giveBack := by decide +kernel
theorem lX6_giveBack_f48 : Cond.fieldLink RX6 48 "ModelCopiesModel" "lent" "[I" ∈ wsX6_giveBack := by decide +kernel
theorem hd46_X6_gets : yX6_gets.cls = RX6 ∧ yX6_gets.cls ≠ "java/lang/invoke/MethodHandle" ∧ yX6_gets.cls ≠ "java/lang/invoke/VarHandle" ∧ (parseMethodDescriptor yX6_gets.desc).map (fun d => d.parameters.length) = some 2 := by decide +kernel
theorem hd46_X6_isLoan : yX6_isLoan.cls = RX6 ∧ yX6_isLoan.cls ≠ "java/lang/invoke/MethodHandle" ∧ yX6_isLoan.cls ≠ "java/lang/invoke/VarHandle" ∧ (parseMethodDescriptor yX6_isLoan.desc).map (fun d => d.parameters.length) = some 1 := by decide +kernel
theorem hd46_X6_goes : yX6_goes.cls = RX6 ∧ yX6_goes.cls ≠ "java/lang/invoke/MethodHandle" ∧ yX6_goes.cls ≠ "java/lang/invoke/VarHandle" ∧ (parseMethodDescriptor yX6_goes.desc).map (fun d => d.parameters.length) = some 3 := by decide +kernel
theorem lX6_giveBack_f57 : Cond.fieldLink RX6 57 "ModelCopiesModel" "pledges" "[I" ∈ wsX6_giveBack := by decide +kernel
theorem lX6_giveBack_f51 : Cond.fieldLink RX6 51 "ModelCopiesModel" "borrowers" "[I" ∈ wsX6_giveBack := by decide +kernel
theorem lX6_giveBack_f20 : Cond.fieldLink RX6 20 "ModelCopiesModel" "owners" "[I" ∈ wsX6_giveBack := by decide +kernel
theorem lX6_giveBack_f60 : Cond.fieldLink RX6 60 "ModelCopiesModel" "lates" "[I" ∈ wsX6_giveBack := by decide +kernel
theorem hd46_X6_lateNow : yX6_lateNow.cls = RX6 ∧ yX6_lateNow.cls ≠ "java/lang/invoke/MethodHandle" ∧ yX6_lateNow.cls ≠ "java/lang/invoke/VarHandle" ∧ (parseMethodDescriptor yX6_lateNow.desc).map (fun d => d.parameters.length) = some 1 := by decide +kernel
theorem lX6_workIn_f82 : Cond.fieldLink RX6 82 "ModelCopiesModel" "letters" "I" ∈ wsX6_workIn := by decide +kernel
theorem iX6_workIn_X6 : ∀ w ∈ wsX60, w ∈ wsX6_workIn := by decide +kernel
theorem lX6_workIn_f36 : Cond.fieldLink RX6 36 "ModelCopiesModel" "spots" "[I" ∈ wsX6_workIn := by decide +kernel
theorem lX6_workIn_f45 : Cond.fieldLink RX6 45 "ModelCopiesModel" "has" "[Z" ∈ wsX6_workIn := by decide +kernel
theorem lX6_workIn_f7 : Cond.fieldLink RX6 7 "ModelCopiesModel" "readings" "[I" ∈ wsX6_workIn := by decide +kernel
theorem lX6_workIn_f39 : Cond.fieldLink RX6 39 "ModelCopiesModel" "olds" "[I" ∈ wsX6_workIn := by decide +kernel
theorem lX6_workIn_f42 : Cond.fieldLink RX6 42 "ModelCopiesModel" "news" "[I" ∈ wsX6_workIn := by decide +kernel
theorem hd46_X6_isHouse : yX6_isHouse.cls ≠ "java/lang/invoke/MethodHandle" ∧ yX6_isHouse.cls ≠ "java/lang/invoke/VarHandle" ∧ (parseMethodDescriptor yX6_isHouse.desc).map (fun d => d.parameters.length) = some 1 := by decide +kernel
theorem hd46_X6_isCopy : yX6_isCopy.cls = RX6 ∧ yX6_isCopy.cls ≠ "java/lang/invoke/MethodHandle" ∧ yX6_isCopy.cls ≠ "java/lang/invoke/VarHandle" ∧ (parseMethodDescriptor yX6_isCopy.desc).map (fun d => d.parameters.length) = some 1 := by decide +kernel
theorem lX6_workIn_f23 : Cond.fieldLink RX6 23 "ModelCopiesModel" "houses" "[I" ∈ wsX6_workIn := by decide +kernel
section
variable {κ : KxT} {G : GG} {base mc ms : Nat} {post : Option Value → va_W → Prop} {exc : String → va_W → Prop} {q : Nat → Nat} {V : Nat → Nat → Int} {Y : va_W} {l : Launch}
variable {n m t : Nat}
abbrev rmX6_giveBack : Room := { frames := 3, cells := 0, slots := 0, locals := 80 }
theorem tl_X6_back (C : Cx κ cX6_giveBack 7 wsX6_giveBack RX6 (some .int) rmX6_giveBack G base) {l b o c : Nat} {lost : Int} (hw : WFV V n m t) (hl0 : l < t) (hbb : V 16 l = (b : Int)) (hcc : V 15 l = (c : Int)) (hoo : V 3 c = (o : Int)) (hlost : lost = lostOf (lateOf (V 9 0) (V 17 l)) (V 18 l))
    (hp : ∀ f : Nat → Int, gtL V m o b f → post (some (.int (iI lost))) (xm G q (va_up (nsBack V l) 13 f) ++ Y)) : Z κ 7 G base mc ms post exc 0 0 107 [(5, .int (iI (o : Int))), (4, .int (iI (b : Int))), (3, .int (iI (V 18 l))), (2, .int (iI 1)), (0, .ref (q 30)), (1, .int (iI (l : Int)))] [.int (iI lost)] (xm G q (up2 V 19 l (lateOf (V 9 0) (V 17 l))) ++ Y) := by
  have hb : n ≤ 40 ∧ m ≤ 60 ∧ t ≤ 40 ∧ 1 ≤ n := by have := hw.2.1; omega
  have rl := hw.2.2.2.2.2.2.2.2.2.1 l hl0
  have rc := hw.2.2.2.2.2.1 c (by omega)
  have eb : (V 16 l).toNat = b := by omega
  have ec : (V 15 l).toNat = c := by omega
  have eo : (V 3 c).toNat = o := by omega
  have en : nsBack V l = up2 (up2 (up2 (up2 (up2 (up2 V 19 l (lateOf (V 9 0) (V 17 l))) 20 l 1) 23 b (V 23 b - V 18 l)) 22 b (V 22 b + (V 18 l - lost))) 22 o (up2 (up2 (up2 (up2 V 19 l (lateOf (V 9 0) (V 17 l))) 20 l 1) 23 b (V 23 b - V 18 l)) 22 b (V 22 b + (V 18 l - lost)) 22 o + lost)) 4 c o := by
    unfold nsBack
    simp only [eb, ec, eo, hlost]
  refine z_istore (lv' := [(6, _), (5, _), (4, _), (3, _), (2, _), (0, _), (1, _)]) C dX6_giveBack_107 (rfl : 107 + 2 = 109) (by decide) rfl ?_
  refine z_aload_n C 5 rfl rfl dX6_giveBack_109 (rfl : 109 + 1 = 110) ?_
  refine z_get C xmm rfl iX6_giveBack_X6 20 (by decide) lX6_giveBack_f63 rfl rfl dX6_giveBack_110 (rfl : 110 + 3 = 113) ?_
  refine z_iload_n C 6 rfl rfl dX6_giveBack_113 (rfl : 113 + 1 = 114) ?_
  refine z_iconst C dX6_giveBack_114 (rfl : 114 + 1 = 115) ?_
  refine z_zast C xmm_20 ⟨by omega, by omega⟩ (by omega) (by omega) dX6_giveBack_115 (rfl : 115 + 1 = 116) (xms_20 (i := l)) ?_
  refine z_aload_n C 5 rfl rfl dX6_giveBack_116 (rfl : 116 + 1 = 117) ?_
  refine z_get C xmm rfl iX6_giveBack_X6 23 (by decide) lX6_giveBack_f69 rfl rfl dX6_giveBack_117 (rfl : 117 + 3 = 120) ?_
  refine z_iload C 2 rfl dX6_giveBack_120 (rfl : 120 + 2 = 122) ?_
  refine z_dup2 C rfl rfl dX6_giveBack_122 (rfl : 122 + 1 = 123) ?_
  refine z_iald (x := iI (V 23 (b))) C xmm_23 ⟨by omega, by omega⟩ (by omega) rfl dX6_giveBack_123 (rfl : 123 + 1 = 124) ?_
  refine z_iload_n C 3 rfl rfl dX6_giveBack_124 (rfl : 124 + 1 = 125) ?_
  refine z_isub C dX6_giveBack_125 (rfl : 125 + 1 = 126) rfl ?_
  refine z_iast C xmm_23 ⟨by omega, by omega⟩ (by omega) dX6_giveBack_126 (rfl : 126 + 1 = 127) (xms_23 (i := b)) ?_
  refine z_aload_n C 5 rfl rfl dX6_giveBack_127 (rfl : 127 + 1 = 128) ?_
  refine z_get C xmm rfl iX6_giveBack_X6 22 (by decide) lX6_giveBack_f66 rfl rfl dX6_giveBack_128 (rfl : 128 + 3 = 131) ?_
  refine z_iload C 2 rfl dX6_giveBack_131 (rfl : 131 + 2 = 133) ?_
  refine z_dup2 C rfl rfl dX6_giveBack_133 (rfl : 133 + 1 = 134) ?_
  refine z_iald (x := iI (V 22 (b))) C xmm_22 ⟨by omega, by omega⟩ (by omega) rfl dX6_giveBack_134 (rfl : 134 + 1 = 135) ?_
  refine z_iload_n C 3 rfl rfl dX6_giveBack_135 (rfl : 135 + 1 = 136) ?_
  refine z_iload C 0 rfl dX6_giveBack_136 (rfl : 136 + 2 = 138) ?_
  refine z_isub C dX6_giveBack_138 (rfl : 138 + 1 = 139) rfl ?_
  refine z_iadd C dX6_giveBack_139 (rfl : 139 + 1 = 140) rfl ?_
  refine z_iast C xmm_22 ⟨by omega, by omega⟩ (by omega) dX6_giveBack_140 (rfl : 140 + 1 = 141) (xms_22 (i := b)) ?_
  refine z_aload_n C 5 rfl rfl dX6_giveBack_141 (rfl : 141 + 1 = 142) ?_
  refine z_get C xmm rfl iX6_giveBack_X6 22 (by decide) lX6_giveBack_f66 rfl rfl dX6_giveBack_142 (rfl : 142 + 3 = 145) ?_
  refine z_iload C 1 rfl dX6_giveBack_145 (rfl : 145 + 2 = 147) ?_
  refine z_dup2 C rfl rfl dX6_giveBack_147 (rfl : 147 + 1 = 148) ?_
  refine z_iald C xmm_22 ⟨by omega, by omega⟩ (by omega) rfl dX6_giveBack_148 (rfl : 148 + 1 = 149) ?_
  refine z_iload C 0 rfl dX6_giveBack_149 (rfl : 149 + 2 = 151) ?_
  refine z_iadd C dX6_giveBack_151 (rfl : 151 + 1 = 152) rfl ?_
  refine z_iast C xmm_22 ⟨by omega, by omega⟩ (by omega) dX6_giveBack_152 (rfl : 152 + 1 = 153) (xms_22 (i := o)) ?_
  refine z_aload_n C 5 rfl rfl dX6_giveBack_153 (rfl : 153 + 1 = 154) ?_
  refine z_get C xmm rfl iX6_giveBack_X6 4 (by decide) lX6_giveBack_f23 rfl rfl dX6_giveBack_154 (rfl : 154 + 3 = 157) ?_
  refine z_aload_n C 5 rfl rfl dX6_giveBack_157 (rfl : 157 + 1 = 158) ?_
  refine z_get C xmm rfl iX6_giveBack_X6 15 (by decide) lX6_giveBack_f48 rfl rfl dX6_giveBack_158 (rfl : 158 + 3 = 161) ?_
  refine z_iload_n C 6 rfl rfl dX6_giveBack_161 (rfl : 161 + 1 = 162) ?_
  refine z_iald (x := iI (V 15 (l))) C xmm_15 ⟨by omega, by omega⟩ (by omega) rfl dX6_giveBack_162 (rfl : 162 + 1 = 163) ?_
  rw [hcc]
  refine z_iload C 1 rfl dX6_giveBack_163 (rfl : 163 + 2 = 165) ?_
  refine z_iast C xmm_4 ⟨by omega, by omega⟩ (by omega) dX6_giveBack_165 (rfl : 165 + 1 = 166) (xms_4 (i := c)) ?_
  refine z_aload_n C 5 rfl rfl dX6_giveBack_166 (rfl : 166 + 1 = 167) ?_
  refine z_iload C 1 rfl dX6_giveBack_167 (rfl : 167 + 2 = 169) ?_
  refine z_iload C 2 rfl dX6_giveBack_169 (rfl : 169 + 2 = 171) ?_
  refine z_callV C 0 0 (c_X6_gets (V := up2 (up2 (up2 (up2 (up2 (up2 V 19 l (lateOf (V 9 0) (V 17 l))) 20 l 1) 23 b (V 23 b - V 18 l)) 22 b (V 22 b + (V 18 l - lost))) 22 o (up2 (up2 (up2 (up2 V 19 l (lateOf (V 9 0) (V 17 l))) 20 l 1) 23 b (V 23 b - V 18 l)) 22 b (V 22 b + (V 18 l - lost)) 22 o + lost)) 4 c o) (m := m) (h := o) (o := b) hw.1.2.1 (by omega) (by omega) (by omega) hw.2.2.2.2.2.2.2.2.1.1) gX6_giveBack_X6_gets rfl hd46_X6_gets ⟨Nat.le_of_ble_eq_true rfl, Nat.le_of_ble_eq_true rfl⟩ xmm rfl rfl (Nat.le_of_ble_eq_true rfl) dX6_giveBack_171 (rfl : 171 + 3 = 174) rfl rfl ⟨Nat.le_of_ble_eq_true rfl, Nat.le_of_ble_eq_true rfl⟩ (fun _ _ h => h.elim) ?_ rfl
  rintro _ _ ⟨rfl, f, hf, rfl⟩
  refine z_v0 ?_
  refine z_iload C 0 rfl dX6_giveBack_174 (rfl : 174 + 2 = 176) ?_
  refine z_iret C rfl dX6_giveBack_176 ?_ (Nat.zero_le _) (Nat.zero_le _)
  rw [← en]
  exact hp f hf
theorem c_X6_giveBack {z : Int} (hz : -2147483648 ≤ z ∧ z < 2147483648) (hw : WFV V n m t) : MC l yX6_giveBack wsX6_giveBack rmX6_giveBack G base [.ref (q 30), .int (iI z)] (xm G q V ++ Y) (fun v w => ((0 ≤ z ∧ z < t) ∧ V 20 z.toNat = 0 ∧ v = some (.int (iI (lostOf (lateOf (V 9 0) (V 17 z.toNat)) (V 18 z.toNat)))) ∧ ∃ f : Nat → Int, gtL V m (V 3 (V 15 z.toNat).toNat).toNat (V 16 z.toNat).toNat f ∧ w = xm G q (va_up (nsBack (up2 V 25 0 0) z.toNat) 13 f) ++ Y) ∨ (¬ (0 ≤ z ∧ z < t) ∧ flQ G q V Y 1 v w) ∨ ((0 ≤ z ∧ z < t) ∧ ¬ V 20 z.toNat = 0 ∧ flQ G q V Y 2 v w)) (fun _ _ => False) := by
  refine MC.of (cc := cX6_giveBack) (by decide) rfl rfl (Nat.le_of_ble_eq_true rfl) ?_
  intro κ C hT hl hnm
  have hb : n ≤ 40 ∧ m ≤ 60 ∧ t ≤ 40 ∧ 1 ≤ n := by have := hw.2.1; omega
  refine z_sub [0, 1] (lv' := [(0, .ref (q 30)), (1, .int (iI z))]) rfl ?_
  refine z_aload_n C 0 rfl rfl dX6_giveBack_0 (rfl : 0 + 1 = 1) ?_
  refine z_iload_n C 1 rfl rfl dX6_giveBack_1 (rfl : 1 + 1 = 2) ?_
  refine z_callV C 0 0 (c_X6_isLoan hz hw.1.2.2 (by omega)) gX6_giveBack_X6_isLoan rfl hd46_X6_isLoan ⟨Nat.le_of_ble_eq_true rfl, Nat.le_of_ble_eq_true rfl⟩ xmm rfl rfl (Nat.le_of_ble_eq_true rfl) dX6_giveBack_2 (rfl : 2 + 3 = 5) rfl rfl ⟨Nat.le_of_ble_eq_true rfl, Nat.le_of_ble_eq_true rfl⟩ (fun _ _ h => h.elim) ?_ rfl
  rintro _ _ ⟨rfl, rfl⟩
  refine z_v1 ?_
  by_cases hP : 0 ≤ z ∧ z < t
  rotate_left
  · rw [b01_f hP]
    refine z_istore_n (lv' := [(2, _), (0, _), (1, _)]) C rfl dX6_giveBack_5 (rfl : 5 + 1 = 6) (by decide) rfl ?_
    refine z_aload_n C 1 rfl rfl dX6_giveBack_6 (rfl : 6 + 1 = 7) ?_
    refine z_iload_n C 0 rfl rfl dX6_giveBack_7 (rfl : 7 + 1 = 8) ?_
    refine z_iload_n C 0 rfl rfl dX6_giveBack_8 (rfl : 8 + 1 = 9) ?_
    refine z_if_eq (pt := 25) C dX6_giveBack_9 (by decide) (rfl : 9 + 3 = 12) (iI_eq0 (by omega)).1 (fun q => mt (iI_eq0 (by omega)).2 q) (fun c1 => ?_) (fun c1 => ?_)
    rotate_left
    · exact absurd rfl c1
    refine z_iconst C dX6_giveBack_25 (rfl : 25 + 1 = 26) ?_
    refine z_iconst C dX6_giveBack_26 (rfl : 26 + 1 = 27) ?_
    refine z_callV C 0 0 (c_goes_1 (.inl rfl) (.inr rfl)) gX6_giveBack_X6_goes rfl hd46_X6_goes ⟨Nat.le_of_ble_eq_true rfl, Nat.le_of_ble_eq_true rfl⟩ xmm rfl rfl (Nat.le_of_ble_eq_true rfl) dX6_giveBack_27 (rfl : 27 + 3 = 30) rfl rfl ⟨Nat.le_of_ble_eq_true rfl, Nat.le_of_ble_eq_true rfl⟩ (fun _ _ h => h.elim) ?_ rfl
    rintro _ _ ⟨rfl, rfl⟩
    refine z_v1 ?_
    refine z_if_ne (pt := 35) C dX6_giveBack_30 (by decide) (rfl : 30 + 3 = 33) (fun q => mt (iI_eq0 (by omega)).2 q) (iI_eq0 (by omega)).1 (fun c2 => ?_) (fun c2 => ?_)
    · exact absurd rfl c2
    refine z_iconst C dX6_giveBack_33 (rfl : 33 + 1 = 34) ?_
    exact z_iret C rfl dX6_giveBack_34 (.inr (.inl ⟨hP, rfl, rfl⟩)) (by decide) (by decide)
  rw [b01_t hP]
  obtain ⟨i, rfl⟩ : ∃ i : Nat, z = (i : Int) := ⟨z.toNat, by omega⟩
  have hi : i < t := by omega
  have tc := hw.2.2.2.2.2.2.2.2.2.2.1 i (by omega)
  have rl := hw.2.2.2.2.2.2.2.2.2.1 i hi
  have rd := hw.2.2.2.2.2.2.2.2.2.2.2
  refine z_istore_n (lv' := [(2, _), (0, _), (1, _)]) C rfl dX6_giveBack_5 (rfl : 5 + 1 = 6) (by decide) rfl ?_
  refine z_aload_n C 1 rfl rfl dX6_giveBack_6 (rfl : 6 + 1 = 7) ?_
  refine z_iload_n C 0 rfl rfl dX6_giveBack_7 (rfl : 7 + 1 = 8) ?_
  refine z_iload_n C 0 rfl rfl dX6_giveBack_8 (rfl : 8 + 1 = 9) ?_
  refine z_if_eq (pt := 25) C dX6_giveBack_9 (by decide) (rfl : 9 + 3 = 12) (iI_eq0 (by omega)).1 (fun q => mt (iI_eq0 (by omega)).2 q) (fun c1 => ?_) (fun c1 => ?_)
  · exact absurd c1 (by omega)
  refine z_aload_n C 1 rfl rfl dX6_giveBack_12 (rfl : 12 + 1 = 13) ?_
  refine z_get C xmm rfl iX6_giveBack_X6 20 (by decide) lX6_giveBack_f63 rfl rfl dX6_giveBack_13 (rfl : 13 + 3 = 16) ?_
  refine z_iload_n C 2 rfl rfl dX6_giveBack_16 (rfl : 16 + 1 = 17) ?_
  refine z_zald (x := iI (V 20 (i))) C xmm_20 ⟨by omega, by omega⟩ (by omega) rfl dX6_giveBack_17 (rfl : 17 + 1 = 18) ?_
  refine z_if_ne (pt := 25) C dX6_giveBack_18 (by decide) (rfl : 18 + 3 = 21) (fun q => mt (iI_eq0 (by omega)).2 q) (iI_eq0 (by omega)).1 (fun c3 => ?_) (fun c3 => ?_)
  · refine z_iconst C dX6_giveBack_25 (rfl : 25 + 1 = 26) ?_
    refine z_iconst C dX6_giveBack_26 (rfl : 26 + 1 = 27) ?_
    refine z_callV C 0 0 (c_goes_2 (.inr rfl)) gX6_giveBack_X6_goes rfl hd46_X6_goes ⟨Nat.le_of_ble_eq_true rfl, Nat.le_of_ble_eq_true rfl⟩ xmm rfl rfl (Nat.le_of_ble_eq_true rfl) dX6_giveBack_27 (rfl : 27 + 3 = 30) rfl rfl ⟨Nat.le_of_ble_eq_true rfl, Nat.le_of_ble_eq_true rfl⟩ (fun _ _ h => h.elim) ?_ rfl
    rintro _ _ ⟨rfl, rfl⟩
    refine z_v1 ?_
    refine z_if_ne (pt := 35) C dX6_giveBack_30 (by decide) (rfl : 30 + 3 = 33) (fun q => mt (iI_eq0 (by omega)).2 q) (iI_eq0 (by omega)).1 (fun c4 => ?_) (fun c4 => ?_)
    · exact absurd rfl c4
    refine z_iconst C dX6_giveBack_33 (rfl : 33 + 1 = 34) ?_
    exact z_iret C rfl dX6_giveBack_34 (.inr (.inr ⟨hP, c3, rfl, rfl⟩)) (by decide) (by decide)
  refine z_iconst C dX6_giveBack_21 (rfl : 21 + 1 = 22) ?_
  refine z_goto (pc' := 26) C dX6_giveBack_22 (by decide) ?_
  refine z_iconst C dX6_giveBack_26 (rfl : 26 + 1 = 27) ?_
  refine z_callV C 0 0 c_goes_ok gX6_giveBack_X6_goes rfl hd46_X6_goes ⟨Nat.le_of_ble_eq_true rfl, Nat.le_of_ble_eq_true rfl⟩ xmm rfl rfl (Nat.le_of_ble_eq_true rfl) dX6_giveBack_27 (rfl : 27 + 3 = 30) rfl rfl ⟨Nat.le_of_ble_eq_true rfl, Nat.le_of_ble_eq_true rfl⟩ (fun _ _ h => h.elim) ?_ rfl
  rintro _ _ ⟨rfl, rfl⟩
  refine z_v1 ?_
  refine z_if_ne (pt := 35) C dX6_giveBack_30 (by decide) (rfl : 30 + 3 = 33) (fun q => mt (iI_eq0 (by omega)).2 q) (iI_eq0 (by omega)).1 (fun c4 => ?_) (fun c4 => ?_)
  rotate_left
  · exact absurd c4 (by omega)
  obtain ⟨b, hbb⟩ : ∃ b : Nat, V 16 i = (b : Int) := ⟨(V 16 i).toNat, by omega⟩
  obtain ⟨c, hcc⟩ : ∃ c : Nat, V 15 i = (c : Int) := ⟨(V 15 i).toNat, by omega⟩
  have rc := hw.2.2.2.2.2.1 c (by omega)
  obtain ⟨o, hoo⟩ : ∃ o : Nat, V 3 c = (o : Int) := ⟨(V 3 c).toNat, by omega⟩
  have hlate : 0 ≤ lateOf (V 9 0) (V 17 i) ∧ lateOf (V 9 0) (V 17 i) ≤ 10000 := by simp only [lateOf]; split <;> omega
  have fin : ∀ lost : Int, lost = lostOf (lateOf (V 9 0) (V 17 i)) (V 18 i) → _ := fun lost hlost => tl_X6_back (mc := 0) (ms := 0) C (V := up2 V 25 0 0) (q := q) (Y := Y) (hw.last 0) hi hbb hcc hoo hlost (post := fun v w => ((0 ≤ (i : Int) ∧ (i : Int) < t) ∧ V 20 (i : Int).toNat = 0 ∧ v = some (.int (iI (lostOf (lateOf (V 9 0) (V 17 (i : Int).toNat)) (V 18 (i : Int).toNat)))) ∧ ∃ f : Nat → Int, gtL V m (V 3 (V 15 (i : Int).toNat).toNat).toNat (V 16 (i : Int).toNat).toNat f ∧ w = xm G q (va_up (nsBack (up2 V 25 0 0) (i : Int).toNat) 13 f) ++ Y) ∨ (¬ (0 ≤ (i : Int) ∧ (i : Int) < t) ∧ flQ G q V Y 1 v w) ∨ ((0 ≤ (i : Int) ∧ (i : Int) < t) ∧ ¬ V 20 (i : Int).toNat = 0 ∧ flQ G q V Y 2 v w)) (exc := fun _ _ => False) (fun f hf => .inl ⟨hP, c3, by rw [hlost]; rfl, f, by
    rw [show V 16 (i : Int).toNat = V 16 i from rfl, show V 15 (i : Int).toNat = V 15 i from rfl, hbb, hcc]
    rw [show V 3 (c : Int).toNat = V 3 c from rfl, hoo]
    exact hf, rfl⟩)
  refine z_aload_n C 1 rfl rfl dX6_giveBack_35 (rfl : 35 + 1 = 36) ?_
  refine z_get C xmm rfl iX6_giveBack_X6 18 (by decide) lX6_giveBack_f57 rfl rfl dX6_giveBack_36 (rfl : 36 + 3 = 39) ?_
  refine z_iload_n C 2 rfl rfl dX6_giveBack_39 (rfl : 39 + 1 = 40) ?_
  refine z_iald (x := iI (V 18 (i))) C xmm_18 ⟨by omega, by omega⟩ (by omega) rfl dX6_giveBack_40 (rfl : 40 + 1 = 41) ?_
  refine z_istore_n (lv' := [(3, _), (2, _), (0, _), (1, _)]) C rfl dX6_giveBack_41 (rfl : 41 + 1 = 42) (by decide) rfl ?_
  refine z_aload_n C 2 rfl rfl dX6_giveBack_42 (rfl : 42 + 1 = 43) ?_
  refine z_get C xmm rfl iX6_giveBack_X6 16 (by decide) lX6_giveBack_f51 rfl rfl dX6_giveBack_43 (rfl : 43 + 3 = 46) ?_
  refine z_iload_n C 3 rfl rfl dX6_giveBack_46 (rfl : 46 + 1 = 47) ?_
  refine z_iald (x := iI (V 16 (i))) C xmm_16 ⟨by omega, by omega⟩ (by omega) rfl dX6_giveBack_47 (rfl : 47 + 1 = 48) ?_
  rw [hbb]
  refine z_istore (lv' := [(4, _), (3, _), (2, _), (0, _), (1, _)]) C dX6_giveBack_48 (rfl : 48 + 2 = 50) (by decide) rfl ?_
  refine z_aload_n C 3 rfl rfl dX6_giveBack_50 (rfl : 50 + 1 = 51) ?_
  refine z_get C xmm rfl iX6_giveBack_X6 3 (by decide) lX6_giveBack_f20 rfl rfl dX6_giveBack_51 (rfl : 51 + 3 = 54) ?_
  refine z_aload_n C 3 rfl rfl dX6_giveBack_54 (rfl : 54 + 1 = 55) ?_
  refine z_get C xmm rfl iX6_giveBack_X6 15 (by decide) lX6_giveBack_f48 rfl rfl dX6_giveBack_55 (rfl : 55 + 3 = 58) ?_
  refine z_iload_n C 4 rfl rfl dX6_giveBack_58 (rfl : 58 + 1 = 59) ?_
  refine z_iald (x := iI (V 15 (i))) C xmm_15 ⟨by omega, by omega⟩ (by omega) rfl dX6_giveBack_59 (rfl : 59 + 1 = 60) ?_
  rw [hcc]
  refine z_iald (x := iI (V 3 (c))) C xmm_3 ⟨by omega, by omega⟩ (by omega) rfl dX6_giveBack_60 (rfl : 60 + 1 = 61) ?_
  rw [hoo]
  refine z_istore (lv' := [(5, _), (4, _), (3, _), (2, _), (0, _), (1, _)]) C dX6_giveBack_61 (rfl : 61 + 2 = 63) (by decide) rfl ?_
  refine z_aload_n C 4 rfl rfl dX6_giveBack_63 (rfl : 63 + 1 = 64) ?_
  refine z_get C xmm rfl iX6_giveBack_X6 19 (by decide) lX6_giveBack_f60 rfl rfl dX6_giveBack_64 (rfl : 64 + 3 = 67) ?_
  refine z_iload_n C 5 rfl rfl dX6_giveBack_67 (rfl : 67 + 1 = 68) ?_
  refine z_aload_n C 4 rfl rfl dX6_giveBack_68 (rfl : 68 + 1 = 69) ?_
  refine z_iload_n C 5 rfl rfl dX6_giveBack_69 (rfl : 69 + 1 = 70) ?_
  refine z_callV C 0 0 (c_X6_lateNow (V := up2 V 25 0 0) (c := i) (by omega) (by show 0 ≤ V 9 0 ∧ V 9 0 ≤ 10000; omega) (by show 0 ≤ V 17 i ∧ V 17 i ≤ 10000; omega)) gX6_giveBack_X6_lateNow rfl hd46_X6_lateNow ⟨Nat.le_of_ble_eq_true rfl, Nat.le_of_ble_eq_true rfl⟩ xmm rfl rfl (Nat.le_of_ble_eq_true rfl) dX6_giveBack_70 (rfl : 70 + 3 = 73) rfl rfl ⟨Nat.le_of_ble_eq_true rfl, Nat.le_of_ble_eq_true rfl⟩ (fun _ _ h => h.elim) ?_ rfl
  rintro _ _ ⟨rfl, rfl⟩
  refine z_v1 ?_
  refine z_iast C xmm_19 ⟨by omega, by omega⟩ (by omega) dX6_giveBack_73 (rfl : 73 + 1 = 74) (xms_19 (i := i)) ?_
  refine z_aload_n C 4 rfl rfl dX6_giveBack_74 (rfl : 74 + 1 = 75) ?_
  refine z_get C xmm rfl iX6_giveBack_X6 19 (by decide) lX6_giveBack_f60 rfl rfl dX6_giveBack_75 (rfl : 75 + 3 = 78) ?_
  refine z_iload_n C 5 rfl rfl dX6_giveBack_78 (rfl : 78 + 1 = 79) ?_
  refine z_iald C (x := iI (lateOf (V 9 0) (V 17 i))) xmm_19 ⟨by omega, by omega⟩ (by omega) (by show iI (up2 (up2 V 25 0 0) 19 i _ 19 i) = _; rw [up2_at]; rfl) dX6_giveBack_79 (rfl : 79 + 1 = 80) ?_
  refine z_if_ne (pt := 87) C dX6_giveBack_80 (by decide) (rfl : 80 + 3 = 83) (fun q => mt (iI_eq0 (by omega)).2 q) (iI_eq0 (by omega)).1 (fun c5 => ?_) (fun c5 => ?_)
  rotate_left
  · refine z_iconst C dX6_giveBack_83 (rfl : 83 + 1 = 84) ?_
    refine z_goto (pc' := 107) C dX6_giveBack_84 (by decide) ?_
    exact fin 0 (by rw [lostOf, if_pos c5])
  refine z_aload_n C 4 rfl rfl dX6_giveBack_87 (rfl : 87 + 1 = 88) ?_
  refine z_get C xmm rfl iX6_giveBack_X6 19 (by decide) lX6_giveBack_f60 rfl rfl dX6_giveBack_88 (rfl : 88 + 3 = 91) ?_
  refine z_iload_n C 5 rfl rfl dX6_giveBack_91 (rfl : 91 + 1 = 92) ?_
  refine z_iald C (x := iI (lateOf (V 9 0) (V 17 i))) xmm_19 ⟨by omega, by omega⟩ (by omega) (by show iI (up2 (up2 V 25 0 0) 19 i _ 19 i) = _; rw [up2_at]; rfl) dX6_giveBack_92 (rfl : 92 + 1 = 93) ?_
  refine z_bipush (c := 10) C (by decide) dX6_giveBack_93 (rfl : 93 + 2 = 95) ?_
  refine z_icmp_gt (pt := 106) C dX6_giveBack_95 (by decide) (rfl : 95 + 3 = 98) (iI_lt (by omega) (by omega)).1 (fun q => mt (iI_lt (by omega) (by omega)).2 q) (fun c6 => ?_) (fun c6 => ?_)
  · refine z_iload_n C 2 rfl rfl dX6_giveBack_106 (rfl : 106 + 1 = 107) ?_
    exact fin _ (by rw [lostOf, if_neg c5, if_neg (by omega)])
  refine z_iload_n C 2 rfl rfl dX6_giveBack_98 (rfl : 98 + 1 = 99) ?_
  refine z_iconst C dX6_giveBack_99 (rfl : 99 + 1 = 100) ?_
  refine z_iadd C dX6_giveBack_100 (rfl : 100 + 1 = 101) rfl ?_
  refine z_iconst C dX6_giveBack_101 (rfl : 101 + 1 = 102) ?_
  refine z_idiv C (by decide) dX6_giveBack_102 (rfl : 102 + 1 = 103) ?_
  refine z_topi (y := iI ((V 18 i + 1) / 2)) (iI_div2 (by omega)) ?_
  refine z_goto (pc' := 107) C dX6_giveBack_103 (by decide) ?_
  exact fin _ (by rw [lostOf, if_neg c5, if_pos (by omega)])
abbrev rmX6_workIn : Room := { frames := 3, cells := 0, slots := 0, locals := 80 }
theorem lp_X6_work (C : Cx κ cX6_workIn 8 wsX6_workIn RX6 (some .int) rmX6_workIn G base) {h c : Nat} (hw : WFV V n m t) (hc : c < n) (hh : h < 5) (hp : ∀ f : Nat → Int, wkR V h c m f → post (some (.int (iI (wkV V h (rdV V c) m).2))) (xm G q (va_up V 0 f) ++ Y)) :
    ∀ (d j : Nat) (f : Nat → Int), j + d = m → wkR V h c j f → Z κ 8 G base mc ms post exc 0 0 57 [(5, .int (iI (j : Int))), (4, .int (iI (wkV V h (rdV V c) j).2)), (3, .int (iI 1)), (0, .ref (q 30)), (1, .int (iI (h : Int))), (2, .int (iI (c : Int)))] [] (xm G q (va_up V 0 f) ++ Y) := by
  have hb : n ≤ 40 ∧ m ≤ 60 ∧ t ≤ 40 ∧ 1 ≤ n := by have := hw.2.1; omega
  intro d
  induction d with
  | zero =>
    intro j f hj hf
    have e : j = m := by omega
    subst e
    refine z_iload C 0 rfl dX6_workIn_57 (rfl : 57 + 2 = 59) ?_
    refine z_aload_n C 3 rfl rfl dX6_workIn_59 (rfl : 59 + 1 = 60) ?_
    refine z_get C xmm rfl iX6_workIn_X6 14 (by decide) lX6_workIn_f82 rfl rfl dX6_workIn_60 (rfl : 60 + 3 = 63) ?_
    refine z_topi (y := iI ((j : Int))) (congrArg iI hw.1.2.1) ?_
    refine z_icmp_ge (pt := 169) C dX6_workIn_63 (by decide) (rfl : 63 + 3 = 66) (iI_le (by omega) (by omega)).1 (fun q => mt (iI_le (by omega) (by omega)).2 q) (fun c1 => ?_) (fun c1 => ?_)
    · refine z_iload C 1 rfl dX6_workIn_169 (rfl : 169 + 2 = 171) ?_
      exact z_iret C rfl dX6_workIn_171 (hp f hf) (Nat.zero_le _) (Nat.zero_le _)
    · exact absurd c1 (by omega)
  | succ d ih =>
    intro j f hj hf
    have l := hw.2.2.2.2.2.2.2.1 j (by omega)
    have hB := hw.2.2.2.2.2.2.2.2.1.1 (60 * h + j) (by omega)
    obtain ⟨s, hs⟩ : ∃ s : Nat, V 10 j = (s : Int) := ⟨(V 10 j).toNat, by omega⟩
    have es : (V 10 j).toNat = s := by omega
    have rw1 := (wkV_rng (h := h) hw hc j (by omega)).1 s (by omega)
    have ef := hf.1 s (by omega)
    have nx : ∀ (z u a : Int) (f' : Nat → Int), z = (wkV V h (rdV V c) (j + 1)).2 → wkR V h c (j + 1) f' → Z κ 8 G base mc ms post exc 0 0 57 [(5, .int (iI ((j + 1 : Nat) : Int))), (4, .int (iI z)), (7, .int (iI u)), (6, .int (iI a)), (3, .int (iI 1)), (0, .ref (q 30)), (1, .int (iI (h : Int))), (2, .int (iI (c : Int)))] [] (xm G q (va_up V 0 f') ++ Y) := fun z u a f' hz hf' => by
      rw [hz]
      exact z_sub [0, 1, 4, 5, 6, 7] (lv' := [(5, .int (iI ((j + 1 : Nat) : Int))), (4, .int (iI (wkV V h (rdV V c) (j + 1)).2)), (3, .int (iI 1)), (0, .ref (q 30)), (1, .int (iI (h : Int))), (2, .int (iI (c : Int)))]) rfl (ih (j + 1) f' (by omega) hf')
    have keep : ¬ (V 13 (60 * h + j) = 1 ∧ (wkV V h (rdV V c) j).1 (V 10 j).toNat = V 11 j) → wkV V h (rdV V c) (j + 1) = wkV V h (rdV V c) j := fun hn => by simp only [wkV]; rw [if_neg hn]
    refine z_iload C 0 rfl dX6_workIn_57 (rfl : 57 + 2 = 59) ?_
    refine z_aload_n C 3 rfl rfl dX6_workIn_59 (rfl : 59 + 1 = 60) ?_
    refine z_get C xmm rfl iX6_workIn_X6 14 (by decide) lX6_workIn_f82 rfl rfl dX6_workIn_60 (rfl : 60 + 3 = 63) ?_
    refine z_topi (y := iI ((m : Int))) (congrArg iI hw.1.2.1) ?_
    refine z_icmp_ge (pt := 169) C dX6_workIn_63 (by decide) (rfl : 63 + 3 = 66) (iI_le (by omega) (by omega)).1 (fun q => mt (iI_le (by omega) (by omega)).2 q) (fun c1 => ?_) (fun c1 => ?_)
    · exact absurd c1 (by omega)
    refine z_bipush (c := 24) C (by decide) dX6_workIn_66 (rfl : 66 + 2 = 68) ?_
    refine z_iload_n C 5 rfl rfl dX6_workIn_68 (rfl : 68 + 1 = 69) ?_
    refine z_imul C dX6_workIn_69 (rfl : 69 + 1 = 70) rfl ?_
    refine z_aload_n C 3 rfl rfl dX6_workIn_70 (rfl : 70 + 1 = 71) ?_
    refine z_get C xmm rfl iX6_workIn_X6 10 (by decide) lX6_workIn_f36 rfl rfl dX6_workIn_71 (rfl : 71 + 3 = 74) ?_
    refine z_iload C 0 rfl dX6_workIn_74 (rfl : 74 + 2 = 76) ?_
    refine z_iald C (x := iI (V 10 j)) xmm_10 ⟨by omega, by omega⟩ (by omega) rfl dX6_workIn_76 (rfl : 76 + 1 = 77) ?_
    rw [hs]
    refine z_iadd C dX6_workIn_77 (rfl : 77 + 1 = 78) rfl ?_
    refine z_istore (lv' := [(6, _), (5, _), (4, _), (3, _), (0, _), (1, _), (2, _)]) C dX6_workIn_78 (rfl : 78 + 2 = 80) (by decide) rfl ?_
    refine z_aload_n C 4 rfl rfl dX6_workIn_80 (rfl : 80 + 1 = 81) ?_
    refine z_get C xmm rfl iX6_workIn_X6 13 (by decide) lX6_workIn_f45 rfl rfl dX6_workIn_81 (rfl : 81 + 3 = 84) ?_
    refine z_bipush (c := 60) C (by decide) dX6_workIn_84 (rfl : 84 + 2 = 86) ?_
    refine z_iload_n C 5 rfl rfl dX6_workIn_86 (rfl : 86 + 1 = 87) ?_
    refine z_imul C dX6_workIn_87 (rfl : 87 + 1 = 88) rfl ?_
    refine z_iload C 1 rfl dX6_workIn_88 (rfl : 88 + 2 = 90) ?_
    refine z_iadd C dX6_workIn_90 (rfl : 90 + 1 = 91) rfl ?_
    refine z_zald C (x := iI (V 13 (60 * h + j))) xmm_13 ⟨by omega, by omega⟩ (by omega) rfl dX6_workIn_91 (rfl : 91 + 1 = 92) ?_
    refine z_if_eq (pt := 116) C dX6_workIn_92 (by decide) (rfl : 92 + 3 = 95) (iI_eq0 (by omega)).1 (fun q => mt (iI_eq0 (by omega)).2 q) (fun c2 => ?_) (fun c2 => ?_)
    · refine z_iconst C dX6_workIn_116 (rfl : 116 + 1 = 117) ?_
      refine z_istore (lv' := [(7, _), (6, _), (5, _), (4, _), (3, _), (0, _), (1, _), (2, _)]) C dX6_workIn_117 (rfl : 117 + 2 = 119) (by decide) rfl ?_
      refine z_aload_n C 5 rfl rfl dX6_workIn_119 (rfl : 119 + 1 = 120) ?_
      refine z_get C xmm rfl iX6_workIn_X6 0 (by decide) lX6_workIn_f7 rfl rfl dX6_workIn_120 (rfl : 120 + 3 = 123) ?_
      refine z_iload C 1 rfl dX6_workIn_123 (rfl : 123 + 2 = 125) ?_
      refine z_iload C 0 rfl dX6_workIn_125 (rfl : 125 + 2 = 127) ?_
      refine z_if_eq (pt := 140) C dX6_workIn_127 (by decide) (rfl : 127 + 3 = 130) (iI_eq0 (by omega)).1 (fun q => mt (iI_eq0 (by omega)).2 q) (fun c3 => ?_) (fun c3 => ?_)
      rotate_left
      · exact absurd rfl c3
      refine z_aload_n C 5 rfl rfl dX6_workIn_140 (rfl : 140 + 1 = 141) ?_
      refine z_get C xmm rfl iX6_workIn_X6 0 (by decide) lX6_workIn_f7 rfl rfl dX6_workIn_141 (rfl : 141 + 3 = 144) ?_
      refine z_iload C 1 rfl dX6_workIn_144 (rfl : 144 + 2 = 146) ?_
      refine z_iald C (x := iI (f (24 * c + s))) xmm_0 ⟨by omega, by omega⟩ (by omega) (by show iI (va_up V 0 f 0 _) = _; rw [va_up_self]; rfl) dX6_workIn_146 (rfl : 146 + 1 = 147) ?_
      refine z_iast C xmm_0 ⟨by omega, by omega⟩ (by omega) dX6_workIn_147 (rfl : 147 + 1 = 148) (xms_0 (i := 24 * c + s)) ?_
      rw [up2_row, va_up_self, up_up, up_self]
      refine z_iload C 3 rfl dX6_workIn_148 (rfl : 148 + 2 = 150) ?_
      refine z_iload C 0 rfl dX6_workIn_150 (rfl : 150 + 2 = 152) ?_
      refine z_if_eq (pt := 159) C dX6_workIn_152 (by decide) (rfl : 152 + 3 = 155) (iI_eq0 (by omega)).1 (fun q => mt (iI_eq0 (by omega)).2 q) (fun c4 => ?_) (fun c4 => ?_)
      rotate_left
      · exact absurd rfl c4
      refine z_iconst C dX6_workIn_159 (rfl : 159 + 1 = 160) ?_
      refine z_iadd C dX6_workIn_160 (rfl : 160 + 1 = 161) rfl ?_
      refine z_istore (lv' := [(4, _), (7, _), (6, _), (5, _), (3, _), (0, _), (1, _), (2, _)]) C dX6_workIn_161 (rfl : 161 + 2 = 163) (by decide) rfl ?_
      refine z_iinc (lv' := [(5, _), (4, _), (7, _), (6, _), (3, _), (0, _), (1, _), (2, _)]) C 3 dX6_workIn_163 (rfl : 163 + 3 = 166) rfl rfl (by decide) rfl ?_
      refine z_goto (pc' := 57) C dX6_workIn_166 (by decide) ?_
      refine nx _ 0 _ f ?_ ⟨fun k hk => ?_, hf.2⟩
      · rw [keep (by omega)]; omega
      · rw [keep (by omega)]; exact hf.1 k hk
    refine z_aload_n C 4 rfl rfl dX6_workIn_95 (rfl : 95 + 1 = 96) ?_
    refine z_get C xmm rfl iX6_workIn_X6 0 (by decide) lX6_workIn_f7 rfl rfl dX6_workIn_96 (rfl : 96 + 3 = 99) ?_
    refine z_iload C 0 rfl dX6_workIn_99 (rfl : 99 + 2 = 101) ?_
    refine z_iald C (x := iI (f (24 * c + s))) xmm_0 ⟨by omega, by omega⟩ (by omega) (by show iI (va_up V 0 f 0 _) = _; rw [va_up_self]; rfl) dX6_workIn_101 (rfl : 101 + 1 = 102) ?_
    refine z_aload_n C 4 rfl rfl dX6_workIn_102 (rfl : 102 + 1 = 103) ?_
    refine z_get C xmm rfl iX6_workIn_X6 11 (by decide) lX6_workIn_f39 rfl rfl dX6_workIn_103 (rfl : 103 + 3 = 106) ?_
    refine z_iload C 1 rfl dX6_workIn_106 (rfl : 106 + 2 = 108) ?_
    refine z_iald C (x := iI (V 11 j)) xmm_11 ⟨by omega, by omega⟩ (by omega) rfl dX6_workIn_108 (rfl : 108 + 1 = 109) ?_
    refine z_icmp_ne (pt := 116) C dX6_workIn_109 (by decide) (rfl : 109 + 3 = 112) (fun q => mt (iI_eq (by omega) (by omega)).2 q) (iI_eq (by omega) (by omega)).1 (fun c5 => ?_) (fun c5 => ?_)
    · refine z_iconst C dX6_workIn_116 (rfl : 116 + 1 = 117) ?_
      refine z_istore (lv' := [(7, _), (6, _), (5, _), (4, _), (3, _), (0, _), (1, _), (2, _)]) C dX6_workIn_117 (rfl : 117 + 2 = 119) (by decide) rfl ?_
      refine z_aload_n C 5 rfl rfl dX6_workIn_119 (rfl : 119 + 1 = 120) ?_
      refine z_get C xmm rfl iX6_workIn_X6 0 (by decide) lX6_workIn_f7 rfl rfl dX6_workIn_120 (rfl : 120 + 3 = 123) ?_
      refine z_iload C 1 rfl dX6_workIn_123 (rfl : 123 + 2 = 125) ?_
      refine z_iload C 0 rfl dX6_workIn_125 (rfl : 125 + 2 = 127) ?_
      refine z_if_eq (pt := 140) C dX6_workIn_127 (by decide) (rfl : 127 + 3 = 130) (iI_eq0 (by omega)).1 (fun q => mt (iI_eq0 (by omega)).2 q) (fun c3 => ?_) (fun c3 => ?_)
      rotate_left
      · exact absurd rfl c3
      refine z_aload_n C 5 rfl rfl dX6_workIn_140 (rfl : 140 + 1 = 141) ?_
      refine z_get C xmm rfl iX6_workIn_X6 0 (by decide) lX6_workIn_f7 rfl rfl dX6_workIn_141 (rfl : 141 + 3 = 144) ?_
      refine z_iload C 1 rfl dX6_workIn_144 (rfl : 144 + 2 = 146) ?_
      refine z_iald C (x := iI (f (24 * c + s))) xmm_0 ⟨by omega, by omega⟩ (by omega) (by show iI (va_up V 0 f 0 _) = _; rw [va_up_self]; rfl) dX6_workIn_146 (rfl : 146 + 1 = 147) ?_
      refine z_iast C xmm_0 ⟨by omega, by omega⟩ (by omega) dX6_workIn_147 (rfl : 147 + 1 = 148) (xms_0 (i := 24 * c + s)) ?_
      rw [up2_row, va_up_self, up_up, up_self]
      refine z_iload C 3 rfl dX6_workIn_148 (rfl : 148 + 2 = 150) ?_
      refine z_iload C 0 rfl dX6_workIn_150 (rfl : 150 + 2 = 152) ?_
      refine z_if_eq (pt := 159) C dX6_workIn_152 (by decide) (rfl : 152 + 3 = 155) (iI_eq0 (by omega)).1 (fun q => mt (iI_eq0 (by omega)).2 q) (fun c4 => ?_) (fun c4 => ?_)
      rotate_left
      · exact absurd rfl c4
      refine z_iconst C dX6_workIn_159 (rfl : 159 + 1 = 160) ?_
      refine z_iadd C dX6_workIn_160 (rfl : 160 + 1 = 161) rfl ?_
      refine z_istore (lv' := [(4, _), (7, _), (6, _), (5, _), (3, _), (0, _), (1, _), (2, _)]) C dX6_workIn_161 (rfl : 161 + 2 = 163) (by decide) rfl ?_
      refine z_iinc (lv' := [(5, _), (4, _), (7, _), (6, _), (3, _), (0, _), (1, _), (2, _)]) C 3 dX6_workIn_163 (rfl : 163 + 3 = 166) rfl rfl (by decide) rfl ?_
      refine z_goto (pc' := 57) C dX6_workIn_166 (by decide) ?_
      have hn : ¬ (V 13 (60 * h + j) = 1 ∧ (wkV V h (rdV V c) j).1 (V 10 j).toNat = V 11 j) := fun hx => c5 (by rw [ef, ← es]; exact hx.2)
      refine nx _ 0 _ f ?_ ⟨fun k hk => ?_, hf.2⟩
      · rw [keep hn]; omega
      · rw [keep hn]; exact hf.1 k hk
    · have hy : V 13 (60 * h + j) = 1 ∧ (wkV V h (rdV V c) j).1 (V 10 j).toNat = V 11 j := ⟨hB.resolve_left c2, by rw [es, ← ef]; exact c5⟩
      refine z_iconst C dX6_workIn_112 (rfl : 112 + 1 = 113) ?_
      refine z_goto (pc' := 117) C dX6_workIn_113 (by decide) ?_
      refine z_istore (lv' := [(7, _), (6, _), (5, _), (4, _), (3, _), (0, _), (1, _), (2, _)]) C dX6_workIn_117 (rfl : 117 + 2 = 119) (by decide) rfl ?_
      refine z_aload_n C 5 rfl rfl dX6_workIn_119 (rfl : 119 + 1 = 120) ?_
      refine z_get C xmm rfl iX6_workIn_X6 0 (by decide) lX6_workIn_f7 rfl rfl dX6_workIn_120 (rfl : 120 + 3 = 123) ?_
      refine z_iload C 1 rfl dX6_workIn_123 (rfl : 123 + 2 = 125) ?_
      refine z_iload C 0 rfl dX6_workIn_125 (rfl : 125 + 2 = 127) ?_
      refine z_if_eq (pt := 140) C dX6_workIn_127 (by decide) (rfl : 127 + 3 = 130) (iI_eq0 (by omega)).1 (fun q => mt (iI_eq0 (by omega)).2 q) (fun c3 => ?_) (fun c3 => ?_)
      · exact absurd c3 (by omega)
      refine z_aload_n C 5 rfl rfl dX6_workIn_130 (rfl : 130 + 1 = 131) ?_
      refine z_get C xmm rfl iX6_workIn_X6 12 (by decide) lX6_workIn_f42 rfl rfl dX6_workIn_131 (rfl : 131 + 3 = 134) ?_
      refine z_iload C 2 rfl dX6_workIn_134 (rfl : 134 + 2 = 136) ?_
      refine z_iald C (x := iI (V 12 j)) xmm_12 ⟨by omega, by omega⟩ (by omega) rfl dX6_workIn_136 (rfl : 136 + 1 = 137) ?_
      refine z_goto (pc' := 147) C dX6_workIn_137 (by decide) ?_
      refine z_iast C xmm_0 ⟨by omega, by omega⟩ (by omega) dX6_workIn_147 (rfl : 147 + 1 = 148) (xms_0 (i := 24 * c + s)) ?_
      rw [up2_row, va_up_self, up_up]
      refine z_iload C 3 rfl dX6_workIn_148 (rfl : 148 + 2 = 150) ?_
      refine z_iload C 0 rfl dX6_workIn_150 (rfl : 150 + 2 = 152) ?_
      refine z_if_eq (pt := 159) C dX6_workIn_152 (by decide) (rfl : 152 + 3 = 155) (iI_eq0 (by omega)).1 (fun q => mt (iI_eq0 (by omega)).2 q) (fun c4 => ?_) (fun c4 => ?_)
      · exact absurd c4 (by omega)
      refine z_iconst C dX6_workIn_155 (rfl : 155 + 1 = 156) ?_
      refine z_goto (pc' := 160) C dX6_workIn_156 (by decide) ?_
      refine z_iadd C dX6_workIn_160 (rfl : 160 + 1 = 161) rfl ?_
      refine z_istore (lv' := [(4, _), (7, _), (6, _), (5, _), (3, _), (0, _), (1, _), (2, _)]) C dX6_workIn_161 (rfl : 161 + 2 = 163) (by decide) rfl ?_
      refine z_iinc (lv' := [(5, _), (4, _), (7, _), (6, _), (3, _), (0, _), (1, _), (2, _)]) C 3 dX6_workIn_163 (rfl : 163 + 3 = 166) rfl rfl (by decide) rfl ?_
      refine z_goto (pc' := 57) C dX6_workIn_166 (by decide) ?_
      refine nx _ 1 _ _ ?_ ⟨fun k hk => ?_, fun i hi => ?_⟩
      · simp only [wkV]; rw [if_pos hy]
      · simp only [wkV]
        rw [if_pos hy, es]
        show _ = va_up (wkV V h (rdV V c) j).1 s (V 12 j) k
        by_cases e : k = s
        · subst e; rw [va_up_self, va_up_self]
        · rw [va_up_ne _ _ (by omega), va_up_ne _ _ e]; exact hf.1 k hk
      · rw [va_up_ne _ _ (hi s (by omega))]; exact hf.2 i hi
theorem c_X6_workIn {h c : Int} (hh : -2147483648 ≤ h ∧ h < 2147483648) (hc : -2147483648 ≤ c ∧ c < 2147483648) (hw : WFV V n m t) : MC l yX6_workIn wsX6_workIn rmX6_workIn G base [.ref (q 30), .int (iI h), .int (iI c)] (xm G q V ++ Y) (fun v w => (((0 ≤ h ∧ h < 5) ∧ 0 ≤ c ∧ c < n) ∧ V 4 c.toNat = h ∧ v = some (.int (iI (wkV V h.toNat (rdV V c.toNat) m).2)) ∧ ∃ f : Nat → Int, wkR V h.toNat c.toNat m f ∧ w = xm G q (va_up (up2 V 25 0 0) 0 f) ++ Y) ∨ (¬ ((0 ≤ h ∧ h < 5) ∧ 0 ≤ c ∧ c < n) ∧ flQ G q V Y 1 v w) ∨ (((0 ≤ h ∧ h < 5) ∧ 0 ≤ c ∧ c < n) ∧ ¬ V 4 c.toNat = h ∧ flQ G q V Y 2 v w)) (fun _ _ => False) := by
  refine MC.of (cc := cX6_workIn) (by decide) rfl rfl (Nat.le_of_ble_eq_true rfl) ?_
  intro κ C hT hl hnm
  have hb : n ≤ 40 ∧ m ≤ 60 ∧ t ≤ 40 ∧ 1 ≤ n := by have := hw.2.1; omega
  refine z_sub [0, 1, 2] (lv' := [(0, .ref (q 30)), (1, .int (iI h)), (2, .int (iI c))]) rfl ?_
  refine z_iload_n C 1 rfl rfl dX6_workIn_0 (rfl : 0 + 1 = 1) ?_
  refine z_callS C 0 0 (c_X6_isHouse hh) gX6_workIn_X6_isHouse rfl hd46_X6_isHouse ⟨Nat.le_of_ble_eq_true rfl, Nat.le_of_ble_eq_true rfl⟩ rfl (Nat.le_of_ble_eq_true rfl) dX6_workIn_1 (rfl : 1 + 3 = 4) rfl rfl ⟨Nat.le_of_ble_eq_true rfl, Nat.le_of_ble_eq_true rfl⟩ (fun _ _ h => h.elim) ?_ rfl
  rintro _ _ ⟨rfl, rfl⟩
  refine z_v1 ?_
  by_cases k1 : 0 ≤ h ∧ h < 5
  rotate_left
  · rw [b01_f k1]
    refine z_if_eq (pt := 19) C dX6_workIn_4 (by decide) (rfl : 4 + 3 = 7) (iI_eq0 (by omega)).1 (fun q => mt (iI_eq0 (by omega)).2 q) (fun c1 => ?_) (fun c1 => ?_)
    rotate_left
    · exact absurd rfl c1
    refine z_iconst C dX6_workIn_19 (rfl : 19 + 1 = 20) ?_
    refine z_istore_n (lv' := [(3, _), (0, _), (1, _), (2, _)]) C rfl dX6_workIn_20 (rfl : 20 + 1 = 21) (by decide) rfl ?_
    refine z_aload_n C 1 rfl rfl dX6_workIn_21 (rfl : 21 + 1 = 22) ?_
    refine z_iload_n C 0 rfl rfl dX6_workIn_22 (rfl : 22 + 1 = 23) ?_
    refine z_iload_n C 0 rfl rfl dX6_workIn_23 (rfl : 23 + 1 = 24) ?_
    refine z_if_eq (pt := 41) C dX6_workIn_24 (by decide) (rfl : 24 + 3 = 27) (iI_eq0 (by omega)).1 (fun q => mt (iI_eq0 (by omega)).2 q) (fun c2 => ?_) (fun c2 => ?_)
    rotate_left
    · exact absurd rfl c2
    refine z_iconst C dX6_workIn_41 (rfl : 41 + 1 = 42) ?_
    refine z_iconst C dX6_workIn_42 (rfl : 42 + 1 = 43) ?_
    refine z_callV C 0 0 (c_goes_1 (.inl rfl) (.inr rfl)) gX6_workIn_X6_goes rfl hd46_X6_goes ⟨Nat.le_of_ble_eq_true rfl, Nat.le_of_ble_eq_true rfl⟩ xmm rfl rfl (Nat.le_of_ble_eq_true rfl) dX6_workIn_43 (rfl : 43 + 3 = 46) rfl rfl ⟨Nat.le_of_ble_eq_true rfl, Nat.le_of_ble_eq_true rfl⟩ (fun _ _ h => h.elim) ?_ rfl
    rintro _ _ ⟨rfl, rfl⟩
    refine z_v1 ?_
    refine z_if_ne (pt := 51) C dX6_workIn_46 (by decide) (rfl : 46 + 3 = 49) (fun q => mt (iI_eq0 (by omega)).2 q) (iI_eq0 (by omega)).1 (fun c3 => ?_) (fun c3 => ?_)
    · exact absurd rfl c3
    refine z_iconst C dX6_workIn_49 (rfl : 49 + 1 = 50) ?_
    exact z_iret C rfl dX6_workIn_50 (.inr (.inl ⟨fun h => k1 h.1, rfl, rfl⟩)) (by decide) (by decide)
  rw [b01_t k1]
  refine z_if_eq (pt := 19) C dX6_workIn_4 (by decide) (rfl : 4 + 3 = 7) (iI_eq0 (by omega)).1 (fun q => mt (iI_eq0 (by omega)).2 q) (fun c1 => ?_) (fun c1 => ?_)
  · exact absurd c1 (by omega)
  refine z_aload_n C 0 rfl rfl dX6_workIn_7 (rfl : 7 + 1 = 8) ?_
  refine z_iload_n C 2 rfl rfl dX6_workIn_8 (rfl : 8 + 1 = 9) ?_
  refine z_callV C 0 0 (c_X6_isCopy hc hw.1.1 (by omega)) gX6_workIn_X6_isCopy rfl hd46_X6_isCopy ⟨Nat.le_of_ble_eq_true rfl, Nat.le_of_ble_eq_true rfl⟩ xmm rfl rfl (Nat.le_of_ble_eq_true rfl) dX6_workIn_9 (rfl : 9 + 3 = 12) rfl rfl ⟨Nat.le_of_ble_eq_true rfl, Nat.le_of_ble_eq_true rfl⟩ (fun _ _ h => h.elim) ?_ rfl
  rintro _ _ ⟨rfl, rfl⟩
  refine z_v1 ?_
  by_cases k2 : 0 ≤ c ∧ c < n
  rotate_left
  · rw [b01_f k2]
    refine z_if_eq (pt := 19) C dX6_workIn_12 (by decide) (rfl : 12 + 3 = 15) (iI_eq0 (by omega)).1 (fun q => mt (iI_eq0 (by omega)).2 q) (fun c1 => ?_) (fun c1 => ?_)
    rotate_left
    · exact absurd rfl c1
    refine z_iconst C dX6_workIn_19 (rfl : 19 + 1 = 20) ?_
    refine z_istore_n (lv' := [(3, _), (0, _), (1, _), (2, _)]) C rfl dX6_workIn_20 (rfl : 20 + 1 = 21) (by decide) rfl ?_
    refine z_aload_n C 1 rfl rfl dX6_workIn_21 (rfl : 21 + 1 = 22) ?_
    refine z_iload_n C 0 rfl rfl dX6_workIn_22 (rfl : 22 + 1 = 23) ?_
    refine z_iload_n C 0 rfl rfl dX6_workIn_23 (rfl : 23 + 1 = 24) ?_
    refine z_if_eq (pt := 41) C dX6_workIn_24 (by decide) (rfl : 24 + 3 = 27) (iI_eq0 (by omega)).1 (fun q => mt (iI_eq0 (by omega)).2 q) (fun c2 => ?_) (fun c2 => ?_)
    rotate_left
    · exact absurd rfl c2
    refine z_iconst C dX6_workIn_41 (rfl : 41 + 1 = 42) ?_
    refine z_iconst C dX6_workIn_42 (rfl : 42 + 1 = 43) ?_
    refine z_callV C 0 0 (c_goes_1 (.inl rfl) (.inr rfl)) gX6_workIn_X6_goes rfl hd46_X6_goes ⟨Nat.le_of_ble_eq_true rfl, Nat.le_of_ble_eq_true rfl⟩ xmm rfl rfl (Nat.le_of_ble_eq_true rfl) dX6_workIn_43 (rfl : 43 + 3 = 46) rfl rfl ⟨Nat.le_of_ble_eq_true rfl, Nat.le_of_ble_eq_true rfl⟩ (fun _ _ h => h.elim) ?_ rfl
    rintro _ _ ⟨rfl, rfl⟩
    refine z_v1 ?_
    refine z_if_ne (pt := 51) C dX6_workIn_46 (by decide) (rfl : 46 + 3 = 49) (fun q => mt (iI_eq0 (by omega)).2 q) (iI_eq0 (by omega)).1 (fun c3 => ?_) (fun c3 => ?_)
    · exact absurd rfl c3
    refine z_iconst C dX6_workIn_49 (rfl : 49 + 1 = 50) ?_
    exact z_iret C rfl dX6_workIn_50 (.inr (.inl ⟨fun h => k2 h.2, rfl, rfl⟩)) (by decide) (by decide)
  rw [b01_t k2]
  refine z_if_eq (pt := 19) C dX6_workIn_12 (by decide) (rfl : 12 + 3 = 15) (iI_eq0 (by omega)).1 (fun q => mt (iI_eq0 (by omega)).2 q) (fun c2 => ?_) (fun c2 => ?_)
  · exact absurd c2 (by omega)
  obtain ⟨h, rfl⟩ : ∃ i : Nat, h = (i : Int) := ⟨h.toNat, by omega⟩
  obtain ⟨c, rfl⟩ : ∃ i : Nat, c = (i : Int) := ⟨c.toNat, by omega⟩
  have r1 := hw.2.2.2.2.2.1 c (by omega)
  refine z_iconst C dX6_workIn_15 (rfl : 15 + 1 = 16) ?_
  refine z_goto (pc' := 20) C dX6_workIn_16 (by decide) ?_
  refine z_istore_n (lv' := [(3, _), (0, _), (1, _), (2, _)]) C rfl dX6_workIn_20 (rfl : 20 + 1 = 21) (by decide) rfl ?_
  refine z_aload_n C 1 rfl rfl dX6_workIn_21 (rfl : 21 + 1 = 22) ?_
  refine z_iload_n C 0 rfl rfl dX6_workIn_22 (rfl : 22 + 1 = 23) ?_
  refine z_iload_n C 0 rfl rfl dX6_workIn_23 (rfl : 23 + 1 = 24) ?_
  refine z_if_eq (pt := 41) C dX6_workIn_24 (by decide) (rfl : 24 + 3 = 27) (iI_eq0 (by omega)).1 (fun q => mt (iI_eq0 (by omega)).2 q) (fun c3 => ?_) (fun c3 => ?_)
  · exact absurd c3 (by omega)
  refine z_aload_n C 1 rfl rfl dX6_workIn_27 (rfl : 27 + 1 = 28) ?_
  refine z_get C xmm rfl iX6_workIn_X6 4 (by decide) lX6_workIn_f23 rfl rfl dX6_workIn_28 (rfl : 28 + 3 = 31) ?_
  refine z_iload_n C 3 rfl rfl dX6_workIn_31 (rfl : 31 + 1 = 32) ?_
  refine z_iald (x := iI (V 4 (c))) C xmm_4 ⟨by omega, by omega⟩ (by omega) rfl dX6_workIn_32 (rfl : 32 + 1 = 33) ?_
  refine z_iload_n C 2 rfl rfl dX6_workIn_33 (rfl : 33 + 1 = 34) ?_
  refine z_icmp_ne (pt := 41) C dX6_workIn_34 (by decide) (rfl : 34 + 3 = 37) (fun q => mt (iI_eq (by omega) (by omega)).2 q) (iI_eq (by omega) (by omega)).1 (fun c4 => ?_) (fun c4 => ?_)
  · refine z_iconst C dX6_workIn_41 (rfl : 41 + 1 = 42) ?_
    refine z_iconst C dX6_workIn_42 (rfl : 42 + 1 = 43) ?_
    refine z_callV C 0 0 (c_goes_2 (.inr rfl)) gX6_workIn_X6_goes rfl hd46_X6_goes ⟨Nat.le_of_ble_eq_true rfl, Nat.le_of_ble_eq_true rfl⟩ xmm rfl rfl (Nat.le_of_ble_eq_true rfl) dX6_workIn_43 (rfl : 43 + 3 = 46) rfl rfl ⟨Nat.le_of_ble_eq_true rfl, Nat.le_of_ble_eq_true rfl⟩ (fun _ _ h => h.elim) ?_ rfl
    rintro _ _ ⟨rfl, rfl⟩
    refine z_v1 ?_
    refine z_if_ne (pt := 51) C dX6_workIn_46 (by decide) (rfl : 46 + 3 = 49) (fun q => mt (iI_eq0 (by omega)).2 q) (iI_eq0 (by omega)).1 (fun c5 => ?_) (fun c5 => ?_)
    · exact absurd rfl c5
    refine z_iconst C dX6_workIn_49 (rfl : 49 + 1 = 50) ?_
    exact z_iret C rfl dX6_workIn_50 (.inr (.inr ⟨⟨k1, k2⟩, c4, rfl, rfl⟩)) (by decide) (by decide)
  refine z_iconst C dX6_workIn_37 (rfl : 37 + 1 = 38) ?_
  refine z_goto (pc' := 42) C dX6_workIn_38 (by decide) ?_
  refine z_iconst C dX6_workIn_42 (rfl : 42 + 1 = 43) ?_
  refine z_callV C 0 0 c_goes_ok gX6_workIn_X6_goes rfl hd46_X6_goes ⟨Nat.le_of_ble_eq_true rfl, Nat.le_of_ble_eq_true rfl⟩ xmm rfl rfl (Nat.le_of_ble_eq_true rfl) dX6_workIn_43 (rfl : 43 + 3 = 46) rfl rfl ⟨Nat.le_of_ble_eq_true rfl, Nat.le_of_ble_eq_true rfl⟩ (fun _ _ h => h.elim) ?_ rfl
  rintro _ _ ⟨rfl, rfl⟩
  refine z_v1 ?_
  refine z_if_ne (pt := 51) C dX6_workIn_46 (by decide) (rfl : 46 + 3 = 49) (fun q => mt (iI_eq0 (by omega)).2 q) (iI_eq0 (by omega)).1 (fun c5 => ?_) (fun c5 => ?_)
  rotate_left
  · exact absurd c5 (by omega)
  refine z_iconst C dX6_workIn_51 (rfl : 51 + 1 = 52) ?_
  refine z_istore (lv' := [(4, _), (3, _), (0, _), (1, _), (2, _)]) C dX6_workIn_52 (rfl : 52 + 2 = 54) (by decide) rfl ?_
  refine z_iconst C dX6_workIn_54 (rfl : 54 + 1 = 55) ?_
  refine z_istore (lv' := [(5, _), (4, _), (3, _), (0, _), (1, _), (2, _)]) C dX6_workIn_55 (rfl : 55 + 2 = 57) (by decide) rfl ?_
  have e7 : ∀ j, wkV (up2 V 25 0 0) h (rdV (up2 V 25 0 0) c) j = wkV V h (rdV V c) j := by
    intro j
    induction j with
    | zero => rfl
    | succ j ih => simp only [wkV, ih]; rfl
  have hh := lp_X6_work (mc := 0) (ms := 0) C (V := up2 V 25 0 0) (q := q) (Y := Y) (h := h) (c := c) (hw.last 0) (by omega) (by omega) (post := fun v w => (((0 ≤ (h : Int) ∧ (h : Int) < 5) ∧ 0 ≤ (c : Int) ∧ (c : Int) < n) ∧ V 4 (c : Int).toNat = h ∧ v = some (.int (iI (wkV V (h : Int).toNat (rdV V (c : Int).toNat) m).2)) ∧ ∃ f : Nat → Int, wkR V (h : Int).toNat (c : Int).toNat m f ∧ w = xm G q (va_up (up2 V 25 0 0) 0 f) ++ Y) ∨ (¬ ((0 ≤ (h : Int) ∧ (h : Int) < 5) ∧ 0 ≤ (c : Int) ∧ (c : Int) < n) ∧ flQ G q V Y 1 v w) ∨ (((0 ≤ (h : Int) ∧ (h : Int) < 5) ∧ 0 ≤ (c : Int) ∧ (c : Int) < n) ∧ ¬ V 4 (c : Int).toNat = h ∧ flQ G q V Y 2 v w)) (exc := fun _ _ => False) (fun f hf => .inl ⟨⟨k1, k2⟩, c4, by rw [e7]; rfl, f, ⟨fun k hk => (hf.1 k hk).trans (congrArg (fun z => z.1 k) (e7 m)), hf.2⟩, rfl⟩) m 0 (up2 V 25 0 0 0) (by omega) ⟨fun k hk => rfl, fun _ _ => rfl⟩
  rw [up_self] at hh
  exact hh
end
