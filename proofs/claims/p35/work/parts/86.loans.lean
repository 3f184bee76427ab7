theorem hd86_X5_letter : yX5_letter.cls = RX5 ∧ yX5_letter.cls ≠ "java/lang/invoke/MethodHandle" ∧ yX5_letter.cls ≠ "java/lang/invoke/VarHandle" ∧ (parseMethodDescriptor yX5_letter.desc).map (fun d => d.parameters.length) = some 1 := by decide +kernel
theorem hd86_X5_hasLetter : yX5_hasLetter.cls = RX5 ∧ yX5_hasLetter.cls ≠ "java/lang/invoke/MethodHandle" ∧ yX5_hasLetter.cls ≠ "java/lang/invoke/VarHandle" ∧ (parseMethodDescriptor yX5_hasLetter.desc).map (fun d => d.parameters.length) = some 2 := by decide +kernel
theorem hd86_X5_late : yX5_late.cls = RX5 ∧ yX5_late.cls ≠ "java/lang/invoke/MethodHandle" ∧ yX5_late.cls ≠ "java/lang/invoke/VarHandle" ∧ (parseMethodDescriptor yX5_late.desc).map (fun d => d.parameters.length) = some 1 := by decide +kernel
theorem hd86_L_late : yL_late.cls ≠ "java/lang/invoke/MethodHandle" ∧ yL_late.cls ≠ "java/lang/invoke/VarHandle" ∧ (parseMethodDescriptor yL_late.desc).map (fun d => d.parameters.length) = some 3 := by decide +kernel
theorem hd86_X5_isBack : yX5_isBack.cls = RX5 ∧ yX5_isBack.cls ≠ "java/lang/invoke/MethodHandle" ∧ yX5_isBack.cls ≠ "java/lang/invoke/VarHandle" ∧ (parseMethodDescriptor yX5_isBack.desc).map (fun d => d.parameters.length) = some 1 := by decide +kernel
theorem hd86_X5_slips : yX5_slips.cls = RX5 ∧ yX5_slips.cls ≠ "java/lang/invoke/MethodHandle" ∧ yX5_slips.cls ≠ "java/lang/invoke/VarHandle" ∧ (parseMethodDescriptor yX5_slips.desc).map (fun d => d.parameters.length) = some 1 := by decide +kernel
theorem hd86_X5_coins : yX5_coins.cls = RX5 ∧ yX5_coins.cls ≠ "java/lang/invoke/MethodHandle" ∧ yX5_coins.cls ≠ "java/lang/invoke/VarHandle" ∧ (parseMethodDescriptor yX5_coins.desc).map (fun d => d.parameters.length) = some 1 := by decide +kernel
theorem hd86_X5_laidDown : yX5_laidDown.cls = RX5 ∧ yX5_laidDown.cls ≠ "java/lang/invoke/MethodHandle" ∧ yX5_laidDown.cls ≠ "java/lang/invoke/VarHandle" ∧ (parseMethodDescriptor yX5_laidDown.desc).map (fun d => d.parameters.length) = some 1 := by decide +kernel
theorem hd86_X5_day : yX5_day.cls = RX5 ∧ yX5_day.cls ≠ "java/lang/invoke/MethodHandle" ∧ yX5_day.cls ≠ "java/lang/invoke/VarHandle" ∧ (parseMethodDescriptor yX5_day.desc).map (fun d => d.parameters.length) = some 0 := by decide +kernel
theorem hd86_X5_letters : yX5_letters.cls = RX5 ∧ yX5_letters.cls ≠ "java/lang/invoke/MethodHandle" ∧ yX5_letters.cls ≠ "java/lang/invoke/VarHandle" ∧ (parseMethodDescriptor yX5_letters.desc).map (fun d => d.parameters.length) = some 0 := by decide +kernel
theorem hd86_X5_loans : yX5_loans.cls = RX5 ∧ yX5_loans.cls ≠ "java/lang/invoke/MethodHandle" ∧ yX5_loans.cls ≠ "java/lang/invoke/VarHandle" ∧ (parseMethodDescriptor yX5_loans.desc).map (fun d => d.parameters.length) = some 0 := by decide +kernel
/-! what the law says of the loans, the letters, the houses and the scribes -/
section
variable {κ : KxT} {G : GG} {base mc ms : Nat} {post : Option Value → va_W → Prop} {exc : String → va_W → Prop} {L : List Nat} {K : Nat → Nat} {I : Nat → Nat → Int} {F : Nat → Nat → Option Nat} {R : Nat → Nat → Int} {N : Nat → Nat} {O : Nat → Nat → Option Nat} {l : Launch} {q : Nat → Nat} {V : Nat → Nat → Int} {B : Nat → Nat → Int64} {A : Nat → Nat → Int} {n m t : Nat} {T : Nat → Nat} {g : Nat → Nat → Nat}
variable {de : Nat}
abbrev rmL_areLoans : Room := { frames := 9, cells := 170, slots := 1000, locals := 260 }
theorem lp_L_al1 (C : Cx κ cL_areLoans 10 wsL_areLoans RL (some .boolean) rmL_areLoans G base) {z : Int} (hz : 0 ≤ z ∧ z < 20000000) (h : RX de L K I F R N O T g V n m t) (hI : LInv V n m t) (hW : LWr V n m t B A)
    (kk : Z κ 10 G base mc ms post exc (3 * m) (18 * m) 123 [(9, .int (iI (m : Int))), (8, .int (iI 1)), (0, .ref (g 6 0)), (1, .ref (q 3)), (2, .ref (q 4)), (3, .ref (q 5)), (4, .ref (q 6)), (5, .ref (q 7)), (6, .ref (q 8)), (7, .int (iI z))] [] (pw G (lwW G q B A) L K I F R N O)) :
    ∀ (d i : Nat), i + d = m → Z κ 10 G base mc ms post exc (3 * i) (18 * i) 43 [(9, .int (iI (i : Int))), (8, .int (iI 1)), (0, .ref (g 6 0)), (1, .ref (q 3)), (2, .ref (q 4)), (3, .ref (q 5)), (4, .ref (q 6)), (5, .ref (q 7)), (6, .ref (q 8)), (7, .int (iI z))] [] (pw G (lwW G q B A) L K I F R N O) := by
  obtain ⟨hm, -, -, -, hl3, hx4, -⟩ := hW
  have hb := hI.2.2.1
  intro d
  induction d with
  | zero =>
    intro i hi
    have e : i = m := by omega
    subst e
    refine z_iload C 0 rfl dL_areLoans_43 (rfl : 43 + 2 = 45) ?_
    refine z_aload C 8 rfl dL_areLoans_45 (rfl : 45 + 2 = 47) ?_
    refine z_iconst C dL_areLoans_47 (rfl : 47 + 1 = 48) ?_
    refine z_iald C lwm_8 ⟨by omega, by omega⟩ (by omega) (rdA hm.2.2.2.1 (by omega)) dL_areLoans_48 (rfl : 48 + 1 = 49) ?_
    refine z_icmp_ge (pt := 123) C dL_areLoans_49 (by decide) (rfl : 49 + 3 = 52) (iI_le (by omega) (by omega)).1 (fun q => mt (iI_le (by omega) (by omega)).2 q) (fun c1 => ?_) (fun c1 => ?_)
    · exact kk
    · exact absurd c1 (by omega)
  | succ d ih =>
    intro i hi
    have him : i < m := by omega
    have hle := hI.1.2.2.2.2.2.2.2.1 i him
    refine z_iload C 0 rfl dL_areLoans_43 (rfl : 43 + 2 = 45) ?_
    refine z_aload C 8 rfl dL_areLoans_45 (rfl : 45 + 2 = 47) ?_
    refine z_iconst C dL_areLoans_47 (rfl : 47 + 1 = 48) ?_
    refine z_iald C lwm_8 ⟨by omega, by omega⟩ (by omega) (rdA hm.2.2.2.1 (by omega)) dL_areLoans_48 (rfl : 48 + 1 = 49) ?_
    refine z_icmp_ge (pt := 123) C dL_areLoans_49 (by decide) (rfl : 49 + 3 = 52) (iI_le (by omega) (by omega)).1 (fun q => mt (iI_le (by omega) (by omega)).2 q) (fun c1 => ?_) (fun c1 => ?_)
    · exact absurd c1 (by omega)
    refine z_iload C 1 rfl dL_areLoans_52 (rfl : 52 + 2 = 54) ?_
    refine z_if_eq (pt := 123) C dL_areLoans_54 (by decide) (rfl : 54 + 3 = 57) (iI_eq0 (by decide)).1 (fun q => mt (iI_eq0 (by decide)).2 q) (fun c2 => ?_) (fun c2 => ?_)
    · exact absurd c2 (by decide)
    refine z_aload_n C 2 rfl rfl dL_areLoans_57 (rfl : 57 + 1 = 58) ?_
    refine z_iload C 0 rfl dL_areLoans_58 (rfl : 58 + 2 = 60) ?_
    refine z_callV C (3 * i + 1) (18 * i + 6) (c_X5_letter (z := (i : Int)) ⟨by omega, by omega⟩ h hI.1) gL_areLoans_X5_letter rfl hd86_X5_letter ⟨Nat.le_of_ble_eq_true rfl, Nat.le_of_ble_eq_true rfl⟩ (pwm_MC h.1.x8.1 h.1.x8.2.1) rfl rfl (Nat.le_of_ble_eq_true rfl) dL_areLoans_60 (rfl : 60 + 3 = 63) rfl rfl ⟨by show 3 * i + 1 ≤ 170; omega, by show 18 * i + 6 ≤ 1000; omega⟩ (fun E w hE => rdE_no (⟨by omega, by omega⟩) hE) ?_ rfl
    rintro _ _ ⟨rfl, -, rfl⟩
    refine z_v1 ?_
    refine z_aload_n C 3 rfl rfl dL_areLoans_63 (rfl : 63 + 1 = 64) ?_
    refine z_iload C 0 rfl dL_areLoans_64 (rfl : 64 + 2 = 66) ?_
    refine z_iald C lwm_3 ⟨by omega, by omega⟩ (by omega) (rdA (hl3 i him) (by omega)) dL_areLoans_66 (rfl : 66 + 1 = 67) ?_
    refine z_same (pt := 114) C rfl dL_areLoans_67 (by decide) (rfl : 67 + 3 = 70) ?_
    obtain ⟨k, ek⟩ : ∃ k : Nat, ((i : Int) + z) % 5 = (k : Int) := ⟨(((i : Int) + z) % 5).toNat, by omega⟩
    have hk : k < 5 := by omega
    refine z_aload_n C 2 rfl rfl dL_areLoans_70 (rfl : 70 + 1 = 71) ?_
    refine z_iload C 0 rfl dL_areLoans_71 (rfl : 71 + 2 = 73) ?_
    refine z_iload C 9 rfl dL_areLoans_73 (rfl : 73 + 2 = 75) ?_
    refine z_iadd C dL_areLoans_75 (rfl : 75 + 1 = 76) rfl ?_
    refine z_iconst C dL_areLoans_76 (rfl : 76 + 1 = 77) ?_
    refine z_irem C ⟨by omega, by omega⟩ ⟨by omega, by omega⟩ rfl dL_areLoans_77 (rfl : 77 + 1 = 78) ?_
    refine z_topi (y := iI (k : Int)) (congrArg iI ek) ?_
    refine z_iload C 0 rfl dL_areLoans_78 (rfl : 78 + 2 = 80) ?_
    refine z_callV C (3 * i + 3) (18 * i + 18) (c_X5_hasLetter (z := (k : Int)) (p := (i : Int)) ⟨by omega, by omega⟩ ⟨by omega, by omega⟩ h hI.1) gL_areLoans_X5_hasLetter rfl hd86_X5_hasLetter ⟨Nat.le_of_ble_eq_true rfl, Nat.le_of_ble_eq_true rfl⟩ (pwm_MC h.1.x8.1 h.1.x8.2.1) rfl rfl (Nat.le_of_ble_eq_true rfl) dL_areLoans_80 (rfl : 80 + 3 = 83) rfl rfl ⟨by show 3 * i + 3 ≤ 170; omega, by show 18 * i + 18 ≤ 1000; omega⟩ (fun E w hE => rdE_no (⟨⟨by omega, by omega⟩, by omega, by omega⟩) hE) ?_ rfl
    rintro _ _ ⟨rfl, -, rfl⟩
    refine z_v1 ?_
    have hv := hI.1.2.2.2.2.2.2.2.2.1.1 (60 * k + i) (by omega)
    have hx := hx4 k hk i (by omega)
    have fin : Z κ 10 G base mc ms post exc (3 * (i + 1)) (18 * (i + 1)) 110 [(9, .int (iI (i : Int))), (8, .int (iI 1)), (0, .ref (g 6 0)), (1, .ref (q 3)), (2, .ref (q 4)), (3, .ref (q 5)), (4, .ref (q 6)), (5, .ref (q 7)), (6, .ref (q 8)), (7, .int (iI z))] [] (pw G (lwW G q B A) L K I F R N O) := by
      refine z_iconst C dL_areLoans_110 (rfl : 110 + 1 = 111) ?_
      refine z_goto (pc' := 115) C dL_areLoans_111 (by decide) ?_
      refine z_istore (lv' := [(8, _), (9, _), (0, _), (1, _), (2, _), (3, _), (4, _), (5, _), (6, _), (7, _)]) C dL_areLoans_115 (rfl : 115 + 2 = 117) (by decide) rfl ?_
      refine z_iinc (lv' := [(9, _), (8, _), (0, _), (1, _), (2, _), (3, _), (4, _), (5, _), (6, _), (7, _)]) C 1 dL_areLoans_117 (rfl : 117 + 3 = 120) rfl rfl (by decide) rfl ?_
      refine z_goto (pc' := 43) C dL_areLoans_120 (by decide) ?_
      exact z_sub [0, 1, 2, 3, 4, 5, 6, 7, 8, 9] rfl (ih (i + 1) (by omega))
    refine z_aload_n C 4 rfl rfl dL_areLoans_83 (rfl : 83 + 1 = 84) ?_
    refine z_iload C 0 rfl dL_areLoans_84 (rfl : 84 + 2 = 86) ?_
    refine z_iload C 9 rfl dL_areLoans_86 (rfl : 86 + 2 = 88) ?_
    refine z_iadd C dL_areLoans_88 (rfl : 88 + 1 = 89) rfl ?_
    refine z_iconst C dL_areLoans_89 (rfl : 89 + 1 = 90) ?_
    refine z_irem C ⟨by omega, by omega⟩ ⟨by omega, by omega⟩ rfl dL_areLoans_90 (rfl : 90 + 1 = 91) ?_
    refine z_topi (y := iI (k : Int)) (congrArg iI ek) ?_
    refine z_lald (x := B 4 (k)) C lwm_4 ⟨by omega, by omega⟩ (by omega) (congrArg (B 4) (by omega)) dL_areLoans_91 (rfl : 91 + 1 = 92) ?_
    refine z_iload C 0 rfl dL_areLoans_92 (rfl : 92 + 2 = 94) ?_
    refine z_lshr C rfl dL_areLoans_94 (rfl : 94 + 1 = 95) ?_
    refine z_lconst (v := 1) C (by decide) dL_areLoans_95 (rfl : 95 + 1 = 96) ?_
    refine z_land C dL_areLoans_96 (rfl : 96 + 1 = 97) ?_
    refine z_lconst (v := 1) C (by decide) dL_areLoans_97 (rfl : 97 + 1 = 98) ?_
    refine z_lcmp C dL_areLoans_98 (rfl : 98 + 1 = 99) (fun c3 => ?_) (fun c3 c hc => ?_)
    · have e1 := hx.mp ((lbt_t1 _ (by omega)).mp c3)
      refine z_if_ne (pt := 106) C dL_areLoans_99 (by decide) (rfl : 99 + 3 = 102) (fun q => mt (iI_eq0 (by decide)).2 q) (iI_eq0 (by decide)).1 (fun c4 => ?_) (fun c4 => ?_)
      · exact absurd rfl c4
      refine z_iconst C dL_areLoans_102 (rfl : 102 + 1 = 103) ?_
      refine z_goto (pc' := 107) C dL_areLoans_103 (by decide) ?_
      refine z_same (pt := 114) C (congrArg iI e1) dL_areLoans_107 (by decide) (rfl : 107 + 3 = 110) ?_
      exact fin
    · have e1 : V 13 (60 * k + i) = 0 := by
        rcases hv with q1 | q1
        · exact q1
        · exact absurd ((lbt_t1 _ (by omega)).mpr (hx.mpr q1)) c3
      refine z_if_ne (pt := 106) C dL_areLoans_99 (by decide) (rfl : 99 + 3 = 102) (fun q => mt (iI_eq0 (by omega)).2 q) (iI_eq0 (by omega)).1 (fun c4 => ?_) (fun c4 => ?_)
      rotate_left
      · omega
      refine z_iconst C dL_areLoans_106 (rfl : 106 + 1 = 107) ?_
      refine z_same (pt := 114) C (congrArg iI e1) dL_areLoans_107 (by decide) (rfl : 107 + 3 = 110) ?_
      exact fin
theorem lp_L_al2 (C : Cx κ cL_areLoans 10 wsL_areLoans RL (some .boolean) rmL_areLoans G base) {z : Int} (hz : 0 ≤ z ∧ z < 20000000) (h : RX de L K I F R N O T g V n m t) (hI : LInv V n m t) (hW : LWr V n m t B A)
    (kk : Z κ 10 G base mc ms post exc (3 * m + 2 * t) (18 * m + 12 * t) 197 [(9, .int (iI (t : Int))), (8, .int (iI 1)), (0, .ref (g 6 0)), (1, .ref (q 3)), (2, .ref (q 4)), (3, .ref (q 5)), (4, .ref (q 6)), (5, .ref (q 7)), (6, .ref (q 8)), (7, .int (iI z))] [] (pw G (lwW G q B A) L K I F R N O)) :
    ∀ (d i : Nat), i + d = t → Z κ 10 G base mc ms post exc (3 * m + 2 * i) (18 * m + 12 * i) 126 [(9, .int (iI (i : Int))), (8, .int (iI 1)), (0, .ref (g 6 0)), (1, .ref (q 3)), (2, .ref (q 4)), (3, .ref (q 5)), (4, .ref (q 6)), (5, .ref (q 7)), (6, .ref (q 8)), (7, .int (iI z))] [] (pw G (lwW G q B A) L K I F R N O) := by
  obtain ⟨hm, -, -, -, -, -, ho, -⟩ := hW
  have hb := hI.2.2.1
  intro d
  induction d with
  | zero =>
    intro i hi
    have e : i = t := by omega
    subst e
    refine z_iload C 0 rfl dL_areLoans_126 (rfl : 126 + 2 = 128) ?_
    refine z_aload C 8 rfl dL_areLoans_128 (rfl : 128 + 2 = 130) ?_
    refine z_iconst C dL_areLoans_130 (rfl : 130 + 1 = 131) ?_
    refine z_iald C lwm_8 ⟨by omega, by omega⟩ (by omega) (rdA hm.2.2.2.2 (by omega)) dL_areLoans_131 (rfl : 131 + 1 = 132) ?_
    refine z_icmp_ge (pt := 197) C dL_areLoans_132 (by decide) (rfl : 132 + 3 = 135) (iI_le (by omega) (by omega)).1 (fun q => mt (iI_le (by omega) (by omega)).2 q) (fun c1 => ?_) (fun c1 => ?_)
    · exact kk
    · exact absurd c1 (by omega)
  | succ d ih =>
    intro i hi
    have hit : i < t := by omega
    have h20 := hI.1.2.2.2.2.2.2.2.2.2.2.1 i (by omega)
    have fin : Z κ 10 G base mc ms post exc (3 * m + 2 * i + 1) (18 * m + 12 * i + 6) 167 [(9, .int (iI (i : Int))), (8, .int (iI 1)), (0, .ref (g 6 0)), (1, .ref (q 3)), (2, .ref (q 4)), (3, .ref (q 5)), (4, .ref (q 6)), (5, .ref (q 7)), (6, .ref (q 8)), (7, .int (iI z))] [] (pw G (lwW G q B A) L K I F R N O) := by
      refine z_aload_n C 2 rfl rfl dL_areLoans_167 (rfl : 167 + 1 = 168) ?_
      refine z_iload C 0 rfl dL_areLoans_168 (rfl : 168 + 2 = 170) ?_
      refine z_callV C (3 * m + 2 * i + 1 + 1) (18 * m + 12 * i + 6 + 6) (c_X5_late (z := (i : Int)) ⟨by omega, by omega⟩ h hI.1) gL_areLoans_X5_late rfl hd86_X5_late ⟨Nat.le_of_ble_eq_true rfl, Nat.le_of_ble_eq_true rfl⟩ (pwm_MC h.1.x8.1 h.1.x8.2.1) rfl rfl (Nat.le_of_ble_eq_true rfl) dL_areLoans_170 (rfl : 170 + 3 = 173) rfl rfl ⟨by show 3 * m + 2 * i + 1 + 1 ≤ 170; omega, by show 18 * m + 12 * i + 6 + 6 ≤ 1000; omega⟩ (fun E w hE => rdE_no (⟨by omega, by omega⟩) hE) ?_ rfl
      rintro _ _ ⟨rfl, -, rfl⟩
      refine z_v1 ?_
      refine z_aload_n C 5 rfl rfl dL_areLoans_173 (rfl : 173 + 1 = 174) ?_
      refine z_aload C 8 rfl dL_areLoans_174 (rfl : 174 + 2 = 176) ?_
      refine z_iload C 0 rfl dL_areLoans_176 (rfl : 176 + 2 = 178) ?_
      refine z_callS C (3 * m + 2 * i + 1 + 1) (18 * m + 12 * i + 6 + 6) (c_L_late hit hI hm ho) gL_areLoans_L_late rfl hd86_L_late ⟨Nat.le_of_ble_eq_true rfl, Nat.le_of_ble_eq_true rfl⟩ rfl (Nat.le_of_ble_eq_true rfl) dL_areLoans_178 (rfl : 178 + 3 = 181) rfl rfl ⟨by show 3 * m + 2 * i + 1 + 1 ≤ 170; omega, by show 18 * m + 12 * i + 6 + 6 ≤ 1000; omega⟩ (fun _ _ h => h.elim) ?_ rfl
      rintro _ _ ⟨rfl, rfl⟩
      refine z_v1 ?_
      refine z_same (pt := 188) C rfl dL_areLoans_181 (by decide) (rfl : 181 + 3 = 184) ?_
      refine z_iconst C dL_areLoans_184 (rfl : 184 + 1 = 185) ?_
      refine z_goto (pc' := 189) C dL_areLoans_185 (by decide) ?_
      refine z_istore (lv' := [(8, _), (9, _), (0, _), (1, _), (2, _), (3, _), (4, _), (5, _), (6, _), (7, _)]) C dL_areLoans_189 (rfl : 189 + 2 = 191) (by decide) rfl ?_
      refine z_iinc (lv' := [(9, _), (8, _), (0, _), (1, _), (2, _), (3, _), (4, _), (5, _), (6, _), (7, _)]) C 1 dL_areLoans_191 (rfl : 191 + 3 = 194) rfl rfl (by decide) rfl ?_
      refine z_goto (pc' := 126) C dL_areLoans_194 (by decide) ?_
      exact z_sub [0, 1, 2, 3, 4, 5, 6, 7, 8, 9] rfl (ih (i + 1) (by omega))
    refine z_iload C 0 rfl dL_areLoans_126 (rfl : 126 + 2 = 128) ?_
    refine z_aload C 8 rfl dL_areLoans_128 (rfl : 128 + 2 = 130) ?_
    refine z_iconst C dL_areLoans_130 (rfl : 130 + 1 = 131) ?_
    refine z_iald C lwm_8 ⟨by omega, by omega⟩ (by omega) (rdA hm.2.2.2.2 (by omega)) dL_areLoans_131 (rfl : 131 + 1 = 132) ?_
    refine z_icmp_ge (pt := 197) C dL_areLoans_132 (by decide) (rfl : 132 + 3 = 135) (iI_le (by omega) (by omega)).1 (fun q => mt (iI_le (by omega) (by omega)).2 q) (fun c1 => ?_) (fun c1 => ?_)
    · exact absurd c1 (by omega)
    refine z_iload C 1 rfl dL_areLoans_135 (rfl : 135 + 2 = 137) ?_
    refine z_if_eq (pt := 197) C dL_areLoans_137 (by decide) (rfl : 137 + 3 = 140) (iI_eq0 (by decide)).1 (fun q => mt (iI_eq0 (by decide)).2 q) (fun c2 => ?_) (fun c2 => ?_)
    · exact absurd c2 (by decide)
    refine z_aload_n C 2 rfl rfl dL_areLoans_140 (rfl : 140 + 1 = 141) ?_
    refine z_iload C 0 rfl dL_areLoans_141 (rfl : 141 + 2 = 143) ?_
    refine z_callV C (3 * m + 2 * i + 1) (18 * m + 12 * i + 6) (c_X5_isBack (z := (i : Int)) ⟨by omega, by omega⟩ h hI.1) gL_areLoans_X5_isBack rfl hd86_X5_isBack ⟨Nat.le_of_ble_eq_true rfl, Nat.le_of_ble_eq_true rfl⟩ (pwm_MC h.1.x8.1 h.1.x8.2.1) rfl rfl (Nat.le_of_ble_eq_true rfl) dL_areLoans_143 (rfl : 143 + 3 = 146) rfl rfl ⟨by show 3 * m + 2 * i + 1 ≤ 170; omega, by show 18 * m + 12 * i + 6 ≤ 1000; omega⟩ (fun E w hE => rdE_no (⟨by omega, by omega⟩) hE) ?_ rfl
    rintro _ _ ⟨rfl, -, rfl⟩
    refine z_v1 ?_
    refine z_aload_n C 5 rfl rfl dL_areLoans_146 (rfl : 146 + 1 = 147) ?_
    refine z_bipush (c := 6) C (by decide) dL_areLoans_147 (rfl : 147 + 2 = 149) ?_
    refine z_iload C 0 rfl dL_areLoans_149 (rfl : 149 + 2 = 151) ?_
    refine z_imul C dL_areLoans_151 (rfl : 151 + 1 = 152) rfl ?_
    refine z_iconst C dL_areLoans_152 (rfl : 152 + 1 = 153) ?_
    refine z_iadd C dL_areLoans_153 (rfl : 153 + 1 = 154) rfl ?_
    refine z_iald C lwm_5 ⟨by omega, by omega⟩ (by omega) (rdA (ho i hit).2.2.2.2.2 (by omega)) dL_areLoans_154 (rfl : 154 + 1 = 155) ?_
    refine z_iconst C dL_areLoans_155 (rfl : 155 + 1 = 156) ?_
    refine z_icmp_ne (pt := 163) C dL_areLoans_156 (by decide) (rfl : 156 + 3 = 159) (fun q => mt (iI_eq (by omega) (by omega)).2 q) (iI_eq (by omega) (by omega)).1 (fun c3 => ?_) (fun c3 => ?_)
    · refine z_iconst C dL_areLoans_163 (rfl : 163 + 1 = 164) ?_
      refine z_same (pt := 188) C (congrArg iI (h20.resolve_right c3)) dL_areLoans_164 (by decide) (rfl : 164 + 3 = 167) ?_
      exact fin
    · refine z_iconst C dL_areLoans_159 (rfl : 159 + 1 = 160) ?_
      refine z_goto (pc' := 164) C dL_areLoans_160 (by decide) ?_
      refine z_same (pt := 188) C (congrArg iI c3) dL_areLoans_164 (by decide) (rfl : 164 + 3 = 167) ?_
      exact fin
theorem lp_L_al3 (C : Cx κ cL_areLoans 10 wsL_areLoans RL (some .boolean) rmL_areLoans G base) {z : Int} {ce sl : Nat} (hz : 0 ≤ z ∧ z < 20000000) (h : RX de L K I F R N O T g V n m t) (hI : LInv V n m t) (hW : LWr V n m t B A) (hce : ce ≤ 140) (hsl : sl ≤ 840)
    (hq : post (some (.int (iI 1))) (pw G (lwW G q B A) L K I F R N O)) (hmc : mc = 170) (hms : ms = 1000) :
    ∀ (d i : Nat), i + d = 6 → Z κ 10 G base mc ms post exc (ce + 3 * i) (sl + 18 * i) 200 [(9, .int (iI (i : Int))), (8, .int (iI 1)), (0, .ref (g 6 0)), (1, .ref (q 3)), (2, .ref (q 4)), (3, .ref (q 5)), (4, .ref (q 6)), (5, .ref (q 7)), (6, .ref (q 8)), (7, .int (iI z))] [] (pw G (lwW G q B A) L K I F R N O) := by
  obtain ⟨hm, -, -, -, -, -, -, hn, hp⟩ := hW
  intro d
  induction d with
  | zero =>
    intro i hi
    have e : i = 6 := by omega
    subst e
    refine z_iload C 0 rfl dL_areLoans_200 (rfl : 200 + 2 = 202) ?_
    refine z_bipush (c := 6) C (by decide) dL_areLoans_202 (rfl : 202 + 2 = 204) ?_
    refine z_icmp_ge (pt := 275) C dL_areLoans_204 (by decide) (rfl : 204 + 3 = 207) (iI_le (by omega) (by omega)).1 (fun q => mt (iI_le (by omega) (by omega)).2 q) (fun c1 => ?_) (fun c1 => ?_)
    · refine z_iload C 1 rfl dL_areLoans_275 (rfl : 275 + 2 = 277) ?_
      exact z_zret C rfl (.inr rfl) dL_areLoans_277 hq (by omega) (by omega)
    · exact absurd c1 (by omega)
  | succ d ih =>
    intro i hi
    have hi6 : i < 6 := by omega
    have fin : Z κ 10 G base mc ms post exc (ce + 3 * (i + 1)) (sl + 18 * (i + 1)) 262 [(9, .int (iI (i : Int))), (8, .int (iI 1)), (0, .ref (g 6 0)), (1, .ref (q 3)), (2, .ref (q 4)), (3, .ref (q 5)), (4, .ref (q 6)), (5, .ref (q 7)), (6, .ref (q 8)), (7, .int (iI z))] [] (pw G (lwW G q B A) L K I F R N O) := by
      refine z_iconst C dL_areLoans_262 (rfl : 262 + 1 = 263) ?_
      refine z_goto (pc' := 267) C dL_areLoans_263 (by decide) ?_
      refine z_istore (lv' := [(8, _), (9, _), (0, _), (1, _), (2, _), (3, _), (4, _), (5, _), (6, _), (7, _)]) C dL_areLoans_267 (rfl : 267 + 2 = 269) (by decide) rfl ?_
      refine z_iinc (lv' := [(9, _), (8, _), (0, _), (1, _), (2, _), (3, _), (4, _), (5, _), (6, _), (7, _)]) C 1 dL_areLoans_269 (rfl : 269 + 3 = 272) rfl rfl (by decide) rfl ?_
      refine z_goto (pc' := 200) C dL_areLoans_272 (by decide) ?_
      exact z_sub [0, 1, 2, 3, 4, 5, 6, 7, 8, 9] rfl (ih (i + 1) (by omega))
    refine z_iload C 0 rfl dL_areLoans_200 (rfl : 200 + 2 = 202) ?_
    refine z_bipush (c := 6) C (by decide) dL_areLoans_202 (rfl : 202 + 2 = 204) ?_
    refine z_icmp_ge (pt := 275) C dL_areLoans_204 (by decide) (rfl : 204 + 3 = 207) (iI_le (by omega) (by omega)).1 (fun q => mt (iI_le (by omega) (by omega)).2 q) (fun c1 => ?_) (fun c1 => ?_)
    · exact absurd c1 (by omega)
    refine z_iload C 1 rfl dL_areLoans_207 (rfl : 207 + 2 = 209) ?_
    refine z_if_eq (pt := 275) C dL_areLoans_209 (by decide) (rfl : 209 + 3 = 212) (iI_eq0 (by decide)).1 (fun q => mt (iI_eq0 (by decide)).2 q) (fun c2 => ?_) (fun c2 => ?_)
    · exact absurd c2 (by decide)
    refine z_aload_n C 2 rfl rfl dL_areLoans_212 (rfl : 212 + 1 = 213) ?_
    refine z_iload C 0 rfl dL_areLoans_213 (rfl : 213 + 2 = 215) ?_
    refine z_callV C (ce + 3 * i + 1) (sl + 18 * i + 6) (c_X5_slips (z := (i : Int)) ⟨by omega, by omega⟩ h hI.1) gL_areLoans_X5_slips rfl hd86_X5_slips ⟨Nat.le_of_ble_eq_true rfl, Nat.le_of_ble_eq_true rfl⟩ (pwm_MC h.1.x8.1 h.1.x8.2.1) rfl rfl (Nat.le_of_ble_eq_true rfl) dL_areLoans_215 (rfl : 215 + 3 = 218) rfl rfl ⟨by show ce + 3 * i + 1 ≤ 170; omega, by show sl + 18 * i + 6 ≤ 1000; omega⟩ (fun E w hE => rdE_no (⟨by omega, by omega⟩) hE) ?_ rfl
    rintro _ _ ⟨rfl, -, rfl⟩
    refine z_v1 ?_
    refine z_aload C 7 rfl dL_areLoans_218 (rfl : 218 + 2 = 220) ?_
    refine z_iload C 0 rfl dL_areLoans_220 (rfl : 220 + 2 = 222) ?_
    refine z_iald C lwm_7 ⟨by omega, by omega⟩ (by omega) (rdA (hp i hi6) (by omega)) dL_areLoans_222 (rfl : 222 + 1 = 223) ?_
    refine z_same (pt := 266) C rfl dL_areLoans_223 (by decide) (rfl : 223 + 3 = 226) ?_
    refine z_iload C 0 rfl dL_areLoans_226 (rfl : 226 + 2 = 228) ?_
    refine z_iconst C dL_areLoans_228 (rfl : 228 + 1 = 229) ?_
    refine z_icmp_eq (pt := 262) C dL_areLoans_229 (by decide) (rfl : 229 + 3 = 232) (iI_eq (by omega) (by omega)).1 (fun q => mt (iI_eq (by omega) (by omega)).2 q) (fun c3 => ?_) (fun c3 => ?_)
    · exact z_widen (by omega) (by omega) fin
    have hi5 : i < 5 := by omega
    refine z_aload_n C 2 rfl rfl dL_areLoans_232 (rfl : 232 + 1 = 233) ?_
    refine z_iload C 0 rfl dL_areLoans_233 (rfl : 233 + 2 = 235) ?_
    refine z_callV C (ce + 3 * i + 1 + 1) (sl + 18 * i + 6 + 6) (c_X5_coins (z := (i : Int)) ⟨by omega, by omega⟩ h hI.1) gL_areLoans_X5_coins rfl hd86_X5_coins ⟨Nat.le_of_ble_eq_true rfl, Nat.le_of_ble_eq_true rfl⟩ (pwm_MC h.1.x8.1 h.1.x8.2.1) rfl rfl (Nat.le_of_ble_eq_true rfl) dL_areLoans_235 (rfl : 235 + 3 = 238) rfl rfl ⟨by show ce + 3 * i + 1 + 1 ≤ 170; omega, by show sl + 18 * i + 6 + 6 ≤ 1000; omega⟩ (fun E w hE => rdE_no (⟨by omega, by omega⟩) hE) ?_ rfl
    rintro _ _ ⟨rfl, -, rfl⟩
    refine z_v1 ?_
    refine z_aload C 6 rfl dL_areLoans_238 (rfl : 238 + 2 = 240) ?_
    refine z_iload C 0 rfl dL_areLoans_240 (rfl : 240 + 2 = 242) ?_
    refine z_iald C lwm_6 ⟨by omega, by omega⟩ (by omega) (rdA (hn i hi5).1 (by omega)) dL_areLoans_242 (rfl : 242 + 1 = 243) ?_
    refine z_same (pt := 266) C rfl dL_areLoans_243 (by decide) (rfl : 243 + 3 = 246) ?_
    refine z_aload_n C 2 rfl rfl dL_areLoans_246 (rfl : 246 + 1 = 247) ?_
    refine z_iload C 0 rfl dL_areLoans_247 (rfl : 247 + 2 = 249) ?_
    refine z_callV C (ce + 3 * i + 1 + 1 + 1) (sl + 18 * i + 6 + 6 + 6) (c_X5_laidDown (z := (i : Int)) ⟨by omega, by omega⟩ h hI.1) gL_areLoans_X5_laidDown rfl hd86_X5_laidDown ⟨Nat.le_of_ble_eq_true rfl, Nat.le_of_ble_eq_true rfl⟩ (pwm_MC h.1.x8.1 h.1.x8.2.1) rfl rfl (Nat.le_of_ble_eq_true rfl) dL_areLoans_249 (rfl : 249 + 3 = 252) rfl rfl ⟨by show ce + 3 * i + 1 + 1 + 1 ≤ 170; omega, by show sl + 18 * i + 6 + 6 + 6 ≤ 1000; omega⟩ (fun E w hE => rdE_no (⟨by omega, by omega⟩) hE) ?_ rfl
    rintro _ _ ⟨rfl, -, rfl⟩
    refine z_v1 ?_
    refine z_aload C 6 rfl dL_areLoans_252 (rfl : 252 + 2 = 254) ?_
    refine z_iconst C dL_areLoans_254 (rfl : 254 + 1 = 255) ?_
    refine z_iload C 0 rfl dL_areLoans_255 (rfl : 255 + 2 = 257) ?_
    refine z_iadd C dL_areLoans_257 (rfl : 257 + 1 = 258) rfl ?_
    refine z_iald C lwm_6 ⟨by omega, by omega⟩ (by omega) (rdA (hn i hi5).2 (by omega)) dL_areLoans_258 (rfl : 258 + 1 = 259) ?_
    refine z_same (pt := 266) C rfl dL_areLoans_259 (by decide) (rfl : 259 + 3 = 262) ?_
    exact fin
theorem c_L_areLoans {z : Int} (hz : 0 ≤ z ∧ z < 20000000) (h : RX de L K I F R N O T g V n m t) (hI : LInv V n m t) (hW : LWr V n m t B A) : MC l yL_areLoans wsL_areLoans rmL_areLoans G base [.ref (g 6 0), .ref (q 3), .ref (q 4), .ref (q 5), .ref (q 6), .ref (q 7), .ref (q 8), .int (iI z)] (pw G (lwW G q B A) L K I F R N O) (fun v w => v = some (.int (iI 1)) ∧ w = (pw G (lwW G q B A) L K I F R N O)) (fun _ _ => False) := by
  refine MC.of (cc := cL_areLoans) (by decide) rfl rfl (Nat.le_of_ble_eq_true rfl) ?_
  intro κ C hT hl hnm
  have hb := hI.2.2.1
  refine z_sub [0, 1, 2, 3, 4, 5, 6, 7] (lv' := [(0, .ref (g 6 0)), (1, .ref (q 3)), (2, .ref (q 4)), (3, .ref (q 5)), (4, .ref (q 6)), (5, .ref (q 7)), (6, .ref (q 8)), (7, .int (iI z))]) rfl ?_
  refine z_aload_n C 0 rfl rfl dL_areLoans_0 (rfl : 0 + 1 = 1) ?_
  refine z_callV C 0 0 (c_X5_day h hI.1) gL_areLoans_X5_day rfl hd86_X5_day ⟨Nat.le_of_ble_eq_true rfl, Nat.le_of_ble_eq_true rfl⟩ (pwm_MC h.1.x8.1 h.1.x8.2.1) rfl rfl (Nat.le_of_ble_eq_true rfl) dL_areLoans_1 (rfl : 1 + 3 = 4) rfl rfl ⟨Nat.le_of_ble_eq_true rfl, Nat.le_of_ble_eq_true rfl⟩ (fun _ _ h => h.elim) ?_ rfl
  rintro _ _ ⟨rfl, rfl⟩
  refine z_v1 ?_
  refine z_aload C 6 rfl dL_areLoans_4 (rfl : 4 + 2 = 6) ?_
  refine z_iconst C dL_areLoans_6 (rfl : 6 + 1 = 7) ?_
  refine z_iald C lwm_8 ⟨by omega, by omega⟩ (by omega) (rdA hW.1.2.2.1 (by omega)) dL_areLoans_7 (rfl : 7 + 1 = 8) ?_
  refine z_same (pt := 37) C rfl dL_areLoans_8 (by decide) (rfl : 8 + 3 = 11) ?_
  refine z_aload_n C 0 rfl rfl dL_areLoans_11 (rfl : 11 + 1 = 12) ?_
  refine z_callV C 0 0 (c_X5_letters h hI.1) gL_areLoans_X5_letters rfl hd86_X5_letters ⟨Nat.le_of_ble_eq_true rfl, Nat.le_of_ble_eq_true rfl⟩ (pwm_MC h.1.x8.1 h.1.x8.2.1) rfl rfl (Nat.le_of_ble_eq_true rfl) dL_areLoans_12 (rfl : 12 + 3 = 15) rfl rfl ⟨Nat.le_of_ble_eq_true rfl, Nat.le_of_ble_eq_true rfl⟩ (fun _ _ h => h.elim) ?_ rfl
  rintro _ _ ⟨rfl, rfl⟩
  refine z_v1 ?_
  refine z_aload C 6 rfl dL_areLoans_15 (rfl : 15 + 2 = 17) ?_
  refine z_iconst C dL_areLoans_17 (rfl : 17 + 1 = 18) ?_
  refine z_iald C lwm_8 ⟨by omega, by omega⟩ (by omega) (rdA hW.1.2.2.2.1 (by omega)) dL_areLoans_18 (rfl : 18 + 1 = 19) ?_
  refine z_same (pt := 37) C rfl dL_areLoans_19 (by decide) (rfl : 19 + 3 = 22) ?_
  refine z_aload_n C 0 rfl rfl dL_areLoans_22 (rfl : 22 + 1 = 23) ?_
  refine z_callV C 0 0 (c_X5_loans h hI.1) gL_areLoans_X5_loans rfl hd86_X5_loans ⟨Nat.le_of_ble_eq_true rfl, Nat.le_of_ble_eq_true rfl⟩ (pwm_MC h.1.x8.1 h.1.x8.2.1) rfl rfl (Nat.le_of_ble_eq_true rfl) dL_areLoans_23 (rfl : 23 + 3 = 26) rfl rfl ⟨Nat.le_of_ble_eq_true rfl, Nat.le_of_ble_eq_true rfl⟩ (fun _ _ h => h.elim) ?_ rfl
  rintro _ _ ⟨rfl, rfl⟩
  refine z_v1 ?_
  refine z_aload C 6 rfl dL_areLoans_26 (rfl : 26 + 2 = 28) ?_
  refine z_iconst C dL_areLoans_28 (rfl : 28 + 1 = 29) ?_
  refine z_iald C lwm_8 ⟨by omega, by omega⟩ (by omega) (rdA hW.1.2.2.2.2 (by omega)) dL_areLoans_29 (rfl : 29 + 1 = 30) ?_
  refine z_same (pt := 37) C rfl dL_areLoans_30 (by decide) (rfl : 30 + 3 = 33) ?_
  refine z_iconst C dL_areLoans_33 (rfl : 33 + 1 = 34) ?_
  refine z_goto (pc' := 38) C dL_areLoans_34 (by decide) ?_
  refine z_istore (lv' := [(8, _), (0, _), (1, _), (2, _), (3, _), (4, _), (5, _), (6, _), (7, _)]) C dL_areLoans_38 (rfl : 38 + 2 = 40) (by decide) rfl ?_
  refine z_iconst C dL_areLoans_40 (rfl : 40 + 1 = 41) ?_
  refine z_istore (lv' := [(9, _), (8, _), (0, _), (1, _), (2, _), (3, _), (4, _), (5, _), (6, _), (7, _)]) C dL_areLoans_41 (rfl : 41 + 2 = 43) (by decide) rfl ?_
  refine z_sub [0, 1, 2, 3, 4, 5, 6, 7, 8, 9] (lv' := [(9, .int (iI ((0 : Nat) : Int))), (8, .int (iI 1)), (0, .ref (g 6 0)), (1, .ref (q 3)), (2, .ref (q 4)), (3, .ref (q 5)), (4, .ref (q 6)), (5, .ref (q 7)), (6, .ref (q 8)), (7, .int (iI z))]) rfl ?_
  refine lp_L_al1 C hz h hI hW ?_ m 0 (by omega)
  refine z_iconst C dL_areLoans_123 (rfl : 123 + 1 = 124) ?_
  refine z_istore (lv' := [(9, _), (8, _), (0, _), (1, _), (2, _), (3, _), (4, _), (5, _), (6, _), (7, _)]) C dL_areLoans_124 (rfl : 124 + 2 = 126) (by decide) rfl ?_
  refine z_sub [0, 1, 2, 3, 4, 5, 6, 7, 8, 9] (lv' := [(9, .int (iI ((0 : Nat) : Int))), (8, .int (iI 1)), (0, .ref (g 6 0)), (1, .ref (q 3)), (2, .ref (q 4)), (3, .ref (q 5)), (4, .ref (q 6)), (5, .ref (q 7)), (6, .ref (q 8)), (7, .int (iI z))]) rfl ?_
  refine lp_L_al2 C hz h hI hW ?_ t 0 (by omega)
  refine z_iconst C dL_areLoans_197 (rfl : 197 + 1 = 198) ?_
  refine z_istore (lv' := [(9, _), (8, _), (0, _), (1, _), (2, _), (3, _), (4, _), (5, _), (6, _), (7, _)]) C dL_areLoans_198 (rfl : 198 + 2 = 200) (by decide) rfl ?_
  refine z_sub [0, 1, 2, 3, 4, 5, 6, 7, 8, 9] (lv' := [(9, .int (iI ((0 : Nat) : Int))), (8, .int (iI 1)), (0, .ref (g 6 0)), (1, .ref (q 3)), (2, .ref (q 4)), (3, .ref (q 5)), (4, .ref (q 6)), (5, .ref (q 7)), (6, .ref (q 8)), (7, .int (iI z))]) rfl ?_
  exact lp_L_al3 (ce := 3 * m + 2 * t) (sl := 18 * m + 12 * t) C hz h hI hW (by omega) (by omega) ⟨rfl, rfl⟩ rfl rfl 6 0 (by omega)
end
