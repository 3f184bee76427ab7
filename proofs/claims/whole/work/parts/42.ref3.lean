theorem lX6_lateNow_f111 : Cond.fieldLink RX6 111 "ModelCopiesModel" "day" "I" ∈ wsX6_lateNow := by decide +kernel
theorem iX6_lateNow_X6 : ∀ w ∈ wsX60, w ∈ wsX6_lateNow := by decide +kernel
theorem lX6_lateNow_f54 : Cond.fieldLink RX6 54 "ModelCopiesModel" "lasts" "[I" ∈ wsX6_lateNow := by decide +kernel
theorem hd42_X6_share : yX6_share.cls = RX6 ∧ yX6_share.cls ≠ "java/lang/invoke/MethodHandle" ∧ yX6_share.cls ≠ "java/lang/invoke/VarHandle" ∧ (parseMethodDescriptor yX6_share.desc).map (fun d => d.parameters.length) = some 2 := by decide +kernel
theorem hd42_X6_errorsOf : yX6_errorsOf.cls = RX6 ∧ yX6_errorsOf.cls ≠ "java/lang/invoke/MethodHandle" ∧ yX6_errorsOf.cls ≠ "java/lang/invoke/VarHandle" ∧ (parseMethodDescriptor yX6_errorsOf.desc).map (fun d => d.parameters.length) = some 1 := by decide +kernel
theorem lX6_guesses_f13 : Cond.fieldLink RX6 13 "ModelCopiesModel" "models" "[I" ∈ wsX6_guesses := by decide +kernel
theorem iX6_guesses_X6 : ∀ w ∈ wsX60, w ∈ wsX6_guesses := by decide +kernel
theorem lX6_guesses_f16 : Cond.fieldLink RX6 16 "ModelCopiesModel" "told" "[Z" ∈ wsX6_guesses := by decide +kernel
theorem hd42_X6_isCopy : yX6_isCopy.cls = RX6 ∧ yX6_isCopy.cls ≠ "java/lang/invoke/MethodHandle" ∧ yX6_isCopy.cls ≠ "java/lang/invoke/VarHandle" ∧ (parseMethodDescriptor yX6_isCopy.desc).map (fun d => d.parameters.length) = some 1 := by decide +kernel
theorem hd42_X6_goes : yX6_goes.cls = RX6 ∧ yX6_goes.cls ≠ "java/lang/invoke/MethodHandle" ∧ yX6_goes.cls ≠ "java/lang/invoke/VarHandle" ∧ (parseMethodDescriptor yX6_goes.desc).map (fun d => d.parameters.length) = some 3 := by decide +kernel
theorem lX6_houseOf_f23 : Cond.fieldLink RX6 23 "ModelCopiesModel" "houses" "[I" ∈ wsX6_houseOf := by decide +kernel
theorem iX6_houseOf_X6 : ∀ w ∈ wsX60, w ∈ wsX6_houseOf := by decide +kernel
theorem lX6_ownerOf_f20 : Cond.fieldLink RX6 20 "ModelCopiesModel" "owners" "[I" ∈ wsX6_ownerOf := by decide +kernel
theorem iX6_ownerOf_X6 : ∀ w ∈ wsX60, w ∈ wsX6_ownerOf := by decide +kernel
theorem hd42_X6_isScribe : yX6_isScribe.cls ≠ "java/lang/invoke/MethodHandle" ∧ yX6_isScribe.cls ≠ "java/lang/invoke/VarHandle" ∧ (parseMethodDescriptor yX6_isScribe.desc).map (fun d => d.parameters.length) = some 1 := by decide +kernel
theorem lX6_slips_f33 : Cond.fieldLink RX6 33 "ModelCopiesModel" "slips" "[I" ∈ wsX6_slips := by decide +kernel
theorem iX6_slips_X6 : ∀ w ∈ wsX60, w ∈ wsX6_slips := by decide +kernel
theorem hd42_X6_isHouse : yX6_isHouse.cls ≠ "java/lang/invoke/MethodHandle" ∧ yX6_isHouse.cls ≠ "java/lang/invoke/VarHandle" ∧ (parseMethodDescriptor yX6_isHouse.desc).map (fun d => d.parameters.length) = some 1 := by decide +kernel
theorem lX6_coins_f66 : Cond.fieldLink RX6 66 "ModelCopiesModel" "coins" "[I" ∈ wsX6_coins := by decide +kernel
theorem iX6_coins_X6 : ∀ w ∈ wsX60, w ∈ wsX6_coins := by decide +kernel
theorem lX6_laidDown_f69 : Cond.fieldLink RX6 69 "ModelCopiesModel" "laid" "[I" ∈ wsX6_laidDown := by decide +kernel
theorem iX6_laidDown_X6 : ∀ w ∈ wsX60, w ∈ wsX6_laidDown := by decide +kernel
theorem hd42_X6_guesses : yX6_guesses.cls = RX6 ∧ yX6_guesses.cls ≠ "java/lang/invoke/MethodHandle" ∧ yX6_guesses.cls ≠ "java/lang/invoke/VarHandle" ∧ (parseMethodDescriptor yX6_guesses.desc).map (fun d => d.parameters.length) = some 1 := by decide +kernel
theorem lX6_toldModel_f16 : Cond.fieldLink RX6 16 "ModelCopiesModel" "told" "[Z" ∈ wsX6_toldModel := by decide +kernel
theorem iX6_toldModel_X6 : ∀ w ∈ wsX60, w ∈ wsX6_toldModel := by decide +kernel
theorem lX6_toldModel_f13 : Cond.fieldLink RX6 13 "ModelCopiesModel" "models" "[I" ∈ wsX6_toldModel := by decide +kernel
theorem hd42_X6_isLetter : yX6_isLetter.cls = RX6 ∧ yX6_isLetter.cls ≠ "java/lang/invoke/MethodHandle" ∧ yX6_isLetter.cls ≠ "java/lang/invoke/VarHandle" ∧ (parseMethodDescriptor yX6_isLetter.desc).map (fun d => d.parameters.length) = some 1 := by decide +kernel
theorem lX6_letter_f36 : Cond.fieldLink RX6 36 "ModelCopiesModel" "spots" "[I" ∈ wsX6_letter := by decide +kernel
theorem iX6_letter_X6 : ∀ w ∈ wsX60, w ∈ wsX6_letter := by decide +kernel
theorem lX6_letter_f39 : Cond.fieldLink RX6 39 "ModelCopiesModel" "olds" "[I" ∈ wsX6_letter := by decide +kernel
theorem lX6_letter_f42 : Cond.fieldLink RX6 42 "ModelCopiesModel" "news" "[I" ∈ wsX6_letter := by decide +kernel
theorem hd42_X6_isLoan : yX6_isLoan.cls = RX6 ∧ yX6_isLoan.cls ≠ "java/lang/invoke/MethodHandle" ∧ yX6_isLoan.cls ≠ "java/lang/invoke/VarHandle" ∧ (parseMethodDescriptor yX6_isLoan.desc).map (fun d => d.parameters.length) = some 1 := by decide +kernel
theorem lX6_isBack_f63 : Cond.fieldLink RX6 63 "ModelCopiesModel" "back" "[Z" ∈ wsX6_isBack := by decide +kernel
theorem iX6_isBack_X6 : ∀ w ∈ wsX60, w ∈ wsX6_isBack := by decide +kernel
theorem lX6_late_f63 : Cond.fieldLink RX6 63 "ModelCopiesModel" "back" "[Z" ∈ wsX6_late := by decide +kernel
theorem iX6_late_X6 : ∀ w ∈ wsX60, w ∈ wsX6_late := by decide +kernel
theorem hd42_X6_lateNow : yX6_lateNow.cls = RX6 ∧ yX6_lateNow.cls ≠ "java/lang/invoke/MethodHandle" ∧ yX6_lateNow.cls ≠ "java/lang/invoke/VarHandle" ∧ (parseMethodDescriptor yX6_lateNow.desc).map (fun d => d.parameters.length) = some 1 := by decide +kernel
theorem lX6_late_f60 : Cond.fieldLink RX6 60 "ModelCopiesModel" "lates" "[I" ∈ wsX6_late := by decide +kernel
theorem lX6_day_f75 : Cond.fieldLink RX6 75 "ModelCopiesModel" "last" "I" ∈ wsX6_day := by decide +kernel
theorem iX6_day_X6 : ∀ w ∈ wsX60, w ∈ wsX6_day := by decide +kernel
theorem lX6_day_f111 : Cond.fieldLink RX6 111 "ModelCopiesModel" "day" "I" ∈ wsX6_day := by decide +kernel
theorem lX6_copies_f75 : Cond.fieldLink RX6 75 "ModelCopiesModel" "last" "I" ∈ wsX6_copies := by decide +kernel
theorem iX6_copies_X6 : ∀ w ∈ wsX60, w ∈ wsX6_copies := by decide +kernel
theorem lX6_copies_f26 : Cond.fieldLink RX6 26 "ModelCopiesModel" "copies" "I" ∈ wsX6_copies := by decide +kernel
theorem lX6_letters_f75 : Cond.fieldLink RX6 75 "ModelCopiesModel" "last" "I" ∈ wsX6_letters := by decide +kernel
theorem iX6_letters_X6 : ∀ w ∈ wsX60, w ∈ wsX6_letters := by decide +kernel
theorem lX6_letters_f82 : Cond.fieldLink RX6 82 "ModelCopiesModel" "letters" "I" ∈ wsX6_letters := by decide +kernel
theorem lX6_loans_f75 : Cond.fieldLink RX6 75 "ModelCopiesModel" "last" "I" ∈ wsX6_loans := by decide +kernel
theorem iX6_loans_X6 : ∀ w ∈ wsX60, w ∈ wsX6_loans := by decide +kernel
theorem lX6_loans_f85 : Cond.fieldLink RX6 85 "ModelCopiesModel" "loans" "I" ∈ wsX6_loans := by decide +kernel
section
variable {κ : KxT} {G : GG} {base mc ms : Nat} {post : Option Value → va_W → Prop} {exc : String → va_W → Prop} {q : Nat → Nat} {V : Nat → Nat → Int} {Y : va_W} {l : Launch}
variable {n m t : Nat}
abbrev rmX6_lateNow : Room := { frames := 0, cells := 0, slots := 0, locals := 0 }
theorem c_goes_ok : MC l yX6_goes wsX6_goes rmX6_goes G base [.ref (q 30), .int (iI 1), .int (iI 1), .int (iI 1)] (xm G q V ++ Y) (fun v w => v = some (.int (iI 1)) ∧ w = xm G q (up2 V 25 0 0) ++ Y) (fun _ _ => False) := c_X6_goes (.inr rfl) (.inr rfl) (.inr rfl)
theorem c_goes_1 {b c : Int} (hb : b = 0 ∨ b = 1) (hc : c = 0 ∨ c = 1) : MC l yX6_goes wsX6_goes rmX6_goes G base [.ref (q 30), .int (iI 0), .int (iI b), .int (iI c)] (xm G q V ++ Y) (fun v w => v = some (.int (iI 0)) ∧ w = xm G q (up2 V 25 0 1) ++ Y) (fun _ _ => False) := c_X6_goes (.inl rfl) hb hc
theorem c_goes_2 {c : Int} (hc : c = 0 ∨ c = 1) : MC l yX6_goes wsX6_goes rmX6_goes G base [.ref (q 30), .int (iI 1), .int (iI 0), .int (iI c)] (xm G q V ++ Y) (fun v w => v = some (.int (iI 0)) ∧ w = xm G q (up2 V 25 0 2) ++ Y) (fun _ _ => False) := c_X6_goes (.inr rfl) (.inl rfl) hc
theorem c_goes_3 : MC l yX6_goes wsX6_goes rmX6_goes G base [.ref (q 30), .int (iI 1), .int (iI 1), .int (iI 0)] (xm G q V ++ Y) (fun v w => v = some (.int (iI 0)) ∧ w = xm G q (up2 V 25 0 3) ++ Y) (fun _ _ => False) := c_X6_goes (.inr rfl) (.inr rfl) (.inl rfl)
theorem c_X6_lateNow {c : Nat} (hc : c < 40) (hd : 0 ≤ V 9 0 ∧ V 9 0 ≤ 10000) (hl0 : 0 ≤ V 17 c ∧ V 17 c ≤ 10000) : MC l yX6_lateNow wsX6_lateNow rmX6_lateNow G base [.ref (q 30), .int (iI (c : Int))] (xm G q V ++ Y) (fun v w => v = some (.int (iI (lateOf (V 9 0) (V 17 c)))) ∧ w = (xm G q V ++ Y)) (fun _ _ => False) := by
  refine MC.of (cc := cX6_lateNow) (by decide) rfl rfl (Nat.le_of_ble_eq_true rfl) ?_
  intro κ C hT hl hnm
  refine z_sub [0, 1] (lv' := [(0, .ref (q 30)), (1, .int (iI (c : Int)))]) rfl ?_
  refine z_aload_n C 0 rfl rfl dX6_lateNow_0 (rfl : 0 + 1 = 1) ?_
  refine z_get C xmm rfl iX6_lateNow_X6 9 (by decide) lX6_lateNow_f111 rfl rfl dX6_lateNow_1 (rfl : 1 + 3 = 4) ?_
  refine z_aload_n C 0 rfl rfl dX6_lateNow_4 (rfl : 4 + 1 = 5) ?_
  refine z_get C xmm rfl iX6_lateNow_X6 17 (by decide) lX6_lateNow_f54 rfl rfl dX6_lateNow_5 (rfl : 5 + 3 = 8) ?_
  refine z_iload_n C 1 rfl rfl dX6_lateNow_8 (rfl : 8 + 1 = 9) ?_
  refine z_iald (x := iI (V 17 (c))) C xmm_17 ⟨by omega, by omega⟩ (by omega) rfl dX6_lateNow_9 (rfl : 9 + 1 = 10) ?_
  refine z_icmp_le (pt := 27) C dX6_lateNow_10 (by decide) (rfl : 10 + 3 = 13) (iI_le (by omega) (by omega)).1 (fun q => mt (iI_le (by omega) (by omega)).2 q) (fun c1 => ?_) (fun c1 => ?_)
  · refine z_iconst C dX6_lateNow_27 (rfl : 27 + 1 = 28) ?_
    exact z_iret C rfl dX6_lateNow_28 ⟨by rw [lateOf, if_neg (by omega)], rfl⟩ (by decide) (by decide)
  refine z_aload_n C 0 rfl rfl dX6_lateNow_13 (rfl : 13 + 1 = 14) ?_
  refine z_get C xmm rfl iX6_lateNow_X6 9 (by decide) lX6_lateNow_f111 rfl rfl dX6_lateNow_14 (rfl : 14 + 3 = 17) ?_
  refine z_aload_n C 0 rfl rfl dX6_lateNow_17 (rfl : 17 + 1 = 18) ?_
  refine z_get C xmm rfl iX6_lateNow_X6 17 (by decide) lX6_lateNow_f54 rfl rfl dX6_lateNow_18 (rfl : 18 + 3 = 21) ?_
  refine z_iload_n C 1 rfl rfl dX6_lateNow_21 (rfl : 21 + 1 = 22) ?_
  refine z_iald (x := iI (V 17 (c))) C xmm_17 ⟨by omega, by omega⟩ (by omega) rfl dX6_lateNow_22 (rfl : 22 + 1 = 23) ?_
  refine z_isub C dX6_lateNow_23 (rfl : 23 + 1 = 24) rfl ?_
  refine z_goto (pc' := 28) C dX6_lateNow_24 (by decide) ?_
  exact z_iret C rfl dX6_lateNow_28 ⟨by rw [lateOf, if_pos (by omega)], rfl⟩ (by decide) (by decide)
abbrev rmX6_guesses : Room := { frames := 1, cells := 0, slots := 0, locals := 30 }
theorem lp_X6_gs (C : Cx κ cX6_guesses 6 wsX6_guesses RX6 (some .int) rmX6_guesses G base) {c : Nat} (hw : WFV V n m t) (hc : c < n) (h0 : ¬ c = 0) (hp : post (some (.int (iI ((bstV V c c).1 : Int)))) (xm G q V ++ Y)) :
    ∀ (d k : Nat), k + d = c → Z κ 6 G base mc ms post exc 0 0 27 [(4, .int (iI (k : Int))), (3, .int (iI (bstV V c k).2)), (2, .int (iI ((bstV V c k).1 : Int))), (0, .ref (q 30)), (1, .int (iI (c : Int)))] [] (xm G q V ++ Y) := by
  obtain ⟨-, ⟨hn, -, -⟩, hr, -⟩ := id hw
  intro d
  induction d with
  | zero =>
    intro k hk
    have e : k = c := by omega
    subst e
    refine z_iload C 0 rfl dX6_guesses_27 (rfl : 27 + 2 = 29) ?_
    refine z_iload_n C 4 rfl rfl dX6_guesses_29 (rfl : 29 + 1 = 30) ?_
    refine z_icmp_ge (pt := 74) C dX6_guesses_30 (by decide) (rfl : 30 + 3 = 33) (iI_le (by omega) (by omega)).1 (fun q => mt (iI_le (by omega) (by omega)).2 q) (fun c1 => ?_) (fun c1 => ?_)
    · refine z_iload_n C 2 rfl rfl dX6_guesses_74 (rfl : 74 + 1 = 75) ?_
      exact z_iret C rfl dX6_guesses_75 hp (Nat.zero_le _) (Nat.zero_le _)
    · exact absurd c1 (by omega)
  | succ d ih =>
    intro k hk
    have rw1 := wV_rng V c k
    have rb := bstV_rng V c k
    have nx : ∀ (x y : Int), x = ((bstV V c (k + 1)).1 : Int) → y = (bstV V c (k + 1)).2 → Z κ 6 G base mc ms post exc 0 0 27 [(4, .int (iI ((k + 1 : Nat) : Int))), (3, .int (iI y)), (2, .int (iI x)), (0, .ref (q 30)), (1, .int (iI (c : Int)))] [] (xm G q V ++ Y) := fun x y h1 h2 => by rw [h1, h2]; exact ih (k + 1) (by omega)
    refine z_iload C 0 rfl dX6_guesses_27 (rfl : 27 + 2 = 29) ?_
    refine z_iload_n C 4 rfl rfl dX6_guesses_29 (rfl : 29 + 1 = 30) ?_
    refine z_icmp_ge (pt := 74) C dX6_guesses_30 (by decide) (rfl : 30 + 3 = 33) (iI_le (by omega) (by omega)).1 (fun q => mt (iI_le (by omega) (by omega)).2 q) (fun c1 => ?_) (fun c1 => ?_)
    · exact absurd c1 (by omega)
    refine z_iconst C dX6_guesses_33 (rfl : 33 + 1 = 34) ?_
    refine z_aload_n C 3 rfl rfl dX6_guesses_34 (rfl : 34 + 1 = 35) ?_
    refine z_iload_n C 4 rfl rfl dX6_guesses_35 (rfl : 35 + 1 = 36) ?_
    refine z_iload C 0 rfl dX6_guesses_36 (rfl : 36 + 2 = 38) ?_
    refine z_callV C 0 0 (c_X6_share (a := c) (b := k) (by omega) (by omega) hr) gX6_guesses_X6_share rfl hd42_X6_share ⟨Nat.le_of_ble_eq_true rfl, Nat.le_of_ble_eq_true rfl⟩ xmm rfl rfl (Nat.le_of_ble_eq_true rfl) dX6_guesses_38 (rfl : 38 + 3 = 41) rfl rfl ⟨Nat.le_of_ble_eq_true rfl, Nat.le_of_ble_eq_true rfl⟩ (fun _ _ h => h.elim) ?_ rfl
    rintro _ _ ⟨rfl, rfl⟩
    refine z_v1 ?_
    refine z_imul C dX6_guesses_41 (rfl : 41 + 1 = 42) rfl ?_
    refine z_aload_n C 3 rfl rfl dX6_guesses_42 (rfl : 42 + 1 = 43) ?_
    refine z_iload C 0 rfl dX6_guesses_43 (rfl : 43 + 2 = 45) ?_
    refine z_callV C 0 0 (c_X6_errorsOf (c := k) (by omega) hr) gX6_guesses_X6_errorsOf rfl hd42_X6_errorsOf ⟨Nat.le_of_ble_eq_true rfl, Nat.le_of_ble_eq_true rfl⟩ xmm rfl rfl (Nat.le_of_ble_eq_true rfl) dX6_guesses_45 (rfl : 45 + 3 = 48) rfl rfl ⟨Nat.le_of_ble_eq_true rfl, Nat.le_of_ble_eq_true rfl⟩ (fun _ _ h => h.elim) ?_ rfl
    rintro _ _ ⟨rfl, rfl⟩
    refine z_v1 ?_
    refine z_isub C dX6_guesses_48 (rfl : 48 + 1 = 49) rfl ?_
    rw [show 3 * shV V c k - shV V k k = wV V c k from rfl]
    refine z_istore (lv' := [(5, _), (4, _), (3, _), (2, _), (0, _), (1, _)]) C dX6_guesses_49 (rfl : 49 + 2 = 51) (by decide) rfl ?_
    refine z_iload C 1 rfl dX6_guesses_51 (rfl : 51 + 2 = 53) ?_
    refine z_if_eq (pt := 62) C dX6_guesses_53 (by decide) (rfl : 53 + 3 = 56) (iI_eq0 (by omega)).1 (fun q => mt (iI_eq0 (by omega)).2 q) (fun c2 => ?_) (fun c2 => ?_)
    · have hk0 : k = 0 := by omega
      refine z_iload C 1 rfl dX6_guesses_62 (rfl : 62 + 2 = 64) ?_
      refine z_istore_n (lv' := [(2, _), (5, _), (4, _), (3, _), (0, _), (1, _)]) C rfl dX6_guesses_64 (rfl : 64 + 1 = 65) (by decide) rfl ?_
      refine z_iload C 1 rfl dX6_guesses_65 (rfl : 65 + 2 = 67) ?_
      refine z_istore_n (lv' := [(3, _), (2, _), (5, _), (4, _), (0, _), (1, _)]) C rfl dX6_guesses_67 (rfl : 67 + 1 = 68) (by decide) rfl ?_
      refine z_iinc (lv' := [(4, _), (3, _), (2, _), (5, _), (0, _), (1, _)]) C 3 dX6_guesses_68 (rfl : 68 + 3 = 71) rfl rfl (by decide) rfl ?_
      refine z_goto (pc' := 27) C dX6_guesses_71 (by decide) ?_
      refine z_sub [0, 1, 2, 4, 5] (lv' := [(4, .int (iI ((k + 1 : Nat) : Int))), (3, .int (iI (wV V c k))), (2, .int (iI (k : Int))), (0, .ref (q 30)), (1, .int (iI (c : Int)))]) rfl ?_
      exact nx _ _ (by simp only [bstV]; rw [if_pos (.inl hk0)]) (by simp only [bstV]; rw [if_pos (.inl hk0)])
    refine z_iload C 0 rfl dX6_guesses_56 (rfl : 56 + 2 = 58) ?_
    refine z_iload_n C 2 rfl rfl dX6_guesses_58 (rfl : 58 + 1 = 59) ?_
    refine z_icmp_le (pt := 68) C dX6_guesses_59 (by decide) (rfl : 59 + 3 = 62) (iI_le (by omega) (by omega)).1 (fun q => mt (iI_le (by omega) (by omega)).2 q) (fun c3 => ?_) (fun c3 => ?_)
    · refine z_iinc (lv' := [(4, _), (5, _), (3, _), (2, _), (0, _), (1, _)]) C 1 dX6_guesses_68 (rfl : 68 + 3 = 71) rfl rfl (by decide) rfl ?_
      refine z_goto (pc' := 27) C dX6_guesses_71 (by decide) ?_
      refine z_sub [0, 2, 3, 4, 5] (lv' := [(4, .int (iI ((k + 1 : Nat) : Int))), (3, .int (iI (bstV V c k).2)), (2, .int (iI ((bstV V c k).1 : Int))), (0, .ref (q 30)), (1, .int (iI (c : Int)))]) rfl ?_
      exact nx _ _ (by simp only [bstV]; rw [if_neg (by omega)]) (by simp only [bstV]; rw [if_neg (by omega)])
    · refine z_iload C 1 rfl dX6_guesses_62 (rfl : 62 + 2 = 64) ?_
      refine z_istore_n (lv' := [(2, _), (5, _), (4, _), (3, _), (0, _), (1, _)]) C rfl dX6_guesses_64 (rfl : 64 + 1 = 65) (by decide) rfl ?_
      refine z_iload C 1 rfl dX6_guesses_65 (rfl : 65 + 2 = 67) ?_
      refine z_istore_n (lv' := [(3, _), (2, _), (5, _), (4, _), (0, _), (1, _)]) C rfl dX6_guesses_67 (rfl : 67 + 1 = 68) (by decide) rfl ?_
      refine z_iinc (lv' := [(4, _), (3, _), (2, _), (5, _), (0, _), (1, _)]) C 3 dX6_guesses_68 (rfl : 68 + 3 = 71) rfl rfl (by decide) rfl ?_
      refine z_goto (pc' := 27) C dX6_guesses_71 (by decide) ?_
      refine z_sub [0, 1, 2, 4, 5] (lv' := [(4, .int (iI ((k + 1 : Nat) : Int))), (3, .int (iI (wV V c k))), (2, .int (iI (k : Int))), (0, .ref (q 30)), (1, .int (iI (c : Int)))]) rfl ?_
      exact nx _ _ (by simp only [bstV]; rw [if_pos (by omega)]) (by simp only [bstV]; rw [if_pos (by omega)])
theorem c_X6_guesses {c : Nat} (hw : WFV V n m t) (hc : c < n) : MC l yX6_guesses wsX6_guesses rmX6_guesses G base [.ref (q 30), .int (iI (c : Int))] (xm G q V ++ Y) (fun v w => v = some (.int (iI (gsV V c))) ∧ w = (xm G q V ++ Y)) (fun _ _ => False) := by
  refine MC.of (cc := cX6_guesses) (by decide) rfl rfl (Nat.le_of_ble_eq_true rfl) ?_
  intro κ C hT hl hnm
  obtain ⟨-, ⟨hn, -, -⟩, hr, -, ⟨-, ht⟩, -⟩ := id hw
  have tc := ht c (by omega)
  refine z_sub [0, 1] (lv' := [(0, .ref (q 30)), (1, .int (iI (c : Int)))]) rfl ?_
  refine z_iload_n C 1 rfl rfl dX6_guesses_0 (rfl : 0 + 1 = 1) ?_
  refine z_if_eq (pt := 13) C dX6_guesses_1 (by decide) (rfl : 1 + 3 = 4) (iI_eq0 (by omega)).1 (fun q => mt (iI_eq0 (by omega)).2 q) (fun c1 => ?_) (fun c1 => ?_)
  · refine z_aload_n C 0 rfl rfl dX6_guesses_13 (rfl : 13 + 1 = 14) ?_
    refine z_get C xmm rfl iX6_guesses_X6 1 (by decide) lX6_guesses_f13 rfl rfl dX6_guesses_14 (rfl : 14 + 3 = 17) ?_
    refine z_iload_n C 1 rfl rfl dX6_guesses_17 (rfl : 17 + 1 = 18) ?_
    refine z_iald (x := iI (V 1 (c))) C xmm_1 ⟨by omega, by omega⟩ (by omega) rfl dX6_guesses_18 (rfl : 18 + 1 = 19) ?_
    exact z_iret C rfl dX6_guesses_19 ⟨by rw [gsV, if_pos (.inl (by omega))], rfl⟩ (by decide) (by decide)
  refine z_aload_n C 0 rfl rfl dX6_guesses_4 (rfl : 4 + 1 = 5) ?_
  refine z_get C xmm rfl iX6_guesses_X6 2 (by decide) lX6_guesses_f16 rfl rfl dX6_guesses_5 (rfl : 5 + 3 = 8) ?_
  refine z_iload_n C 1 rfl rfl dX6_guesses_8 (rfl : 8 + 1 = 9) ?_
  refine z_zald (x := iI (V 2 (c))) C xmm_2 ⟨by omega, by omega⟩ (by omega) rfl dX6_guesses_9 (rfl : 9 + 1 = 10) ?_
  refine z_if_eq (pt := 20) C dX6_guesses_10 (by decide) (rfl : 10 + 3 = 13) (iI_eq0 (by omega)).1 (fun q => mt (iI_eq0 (by omega)).2 q) (fun c2 => ?_) (fun c2 => ?_)
  rotate_left
  · refine z_aload_n C 0 rfl rfl dX6_guesses_13 (rfl : 13 + 1 = 14) ?_
    refine z_get C xmm rfl iX6_guesses_X6 1 (by decide) lX6_guesses_f13 rfl rfl dX6_guesses_14 (rfl : 14 + 3 = 17) ?_
    refine z_iload_n C 1 rfl rfl dX6_guesses_17 (rfl : 17 + 1 = 18) ?_
    refine z_iald (x := iI (V 1 (c))) C xmm_1 ⟨by omega, by omega⟩ (by omega) rfl dX6_guesses_18 (rfl : 18 + 1 = 19) ?_
    exact z_iret C rfl dX6_guesses_19 ⟨by rw [gsV, if_pos (.inr (by omega))], rfl⟩ (by decide) (by decide)
  refine z_iconst C dX6_guesses_20 (rfl : 20 + 1 = 21) ?_
  refine z_istore_n (lv' := [(2, _), (0, _), (1, _)]) C rfl dX6_guesses_21 (rfl : 21 + 1 = 22) (by decide) rfl ?_
  refine z_iconst C dX6_guesses_22 (rfl : 22 + 1 = 23) ?_
  refine z_istore_n (lv' := [(3, _), (2, _), (0, _), (1, _)]) C rfl dX6_guesses_23 (rfl : 23 + 1 = 24) (by decide) rfl ?_
  refine z_iconst C dX6_guesses_24 (rfl : 24 + 1 = 25) ?_
  refine z_istore (lv' := [(4, _), (3, _), (2, _), (0, _), (1, _)]) C dX6_guesses_25 (rfl : 25 + 2 = 27) (by decide) rfl ?_
  refine lp_X6_gs C hw hc (by omega) ⟨?_, rfl⟩ c 0 (by omega)
  rw [gsV, if_neg (by omega)]

abbrev rmX6_houseOf : Room := { frames := 3, cells := 0, slots := 0, locals := 80 }
theorem c_X6_houseOf {z : Int} (hz : -2147483648 ≤ z ∧ z < 2147483648) (hw : WFV V n m t) : MC l yX6_houseOf wsX6_houseOf rmX6_houseOf G base [.ref (q 30), .int (iI z)] (xm G q V ++ Y) (rdQ G q V Y (0 ≤ z ∧ z < n) (V 4 z.toNat)) (fun _ _ => False) := by
  refine MC.of (cc := cX6_houseOf) (by decide) rfl rfl (Nat.le_of_ble_eq_true rfl) ?_
  intro κ C hT hl hnm
  have hb : n ≤ 1000 ∧ m ≤ 1000 ∧ t ≤ 1000 := by have := hw.2.1; omega
  refine z_sub [0, 1] (lv' := [(0, .ref (q 30)), (1, .int (iI z))]) rfl ?_
  refine z_aload_n C 0 rfl rfl dX6_houseOf_0 (rfl : 0 + 1 = 1) ?_
  refine z_aload_n C 0 rfl rfl dX6_houseOf_1 (rfl : 1 + 1 = 2) ?_
  refine z_iload_n C 1 rfl rfl dX6_houseOf_2 (rfl : 2 + 1 = 3) ?_
  refine z_callV C 0 0 (c_X6_isCopy hz hw.1.1 (by omega)) gX6_houseOf_X6_isCopy rfl hd42_X6_isCopy ⟨Nat.le_of_ble_eq_true rfl, Nat.le_of_ble_eq_true rfl⟩ xmm rfl rfl (Nat.le_of_ble_eq_true rfl) dX6_houseOf_3 (rfl : 3 + 3 = 6) rfl rfl ⟨Nat.le_of_ble_eq_true rfl, Nat.le_of_ble_eq_true rfl⟩ (fun _ _ h => h.elim) ?_ rfl
  rintro _ _ ⟨rfl, rfl⟩
  refine z_v1 ?_
  refine z_iconst C dX6_houseOf_6 (rfl : 6 + 1 = 7) ?_
  refine z_iconst C dX6_houseOf_7 (rfl : 7 + 1 = 8) ?_
  by_cases hP : 0 ≤ z ∧ z < n
  · rw [b01_t hP]
    obtain ⟨i, rfl⟩ : ∃ i : Nat, z = (i : Int) := ⟨z.toNat, by omega⟩
    have hi : i < n := by omega
    refine z_callV C 0 0 c_goes_ok gX6_houseOf_X6_goes rfl hd42_X6_goes ⟨Nat.le_of_ble_eq_true rfl, Nat.le_of_ble_eq_true rfl⟩ xmm rfl rfl (Nat.le_of_ble_eq_true rfl) dX6_houseOf_8 (rfl : 8 + 3 = 11) rfl rfl ⟨Nat.le_of_ble_eq_true rfl, Nat.le_of_ble_eq_true rfl⟩ (fun _ _ h => h.elim) ?_ rfl
    rintro _ _ ⟨rfl, rfl⟩
    refine z_v1 ?_
    refine z_if_eq (pt := 23) C dX6_houseOf_11 (by decide) (rfl : 11 + 3 = 14) (iI_eq0 (by omega)).1 (fun q => mt (iI_eq0 (by omega)).2 q) (fun c1 => ?_) (fun c1 => ?_)
    · exact absurd c1 (by omega)
    have hn := hw.2.1
    refine z_aload_n C 0 rfl rfl dX6_houseOf_14 (rfl : 14 + 1 = 15) ?_
    refine z_get C xmm rfl iX6_houseOf_X6 4 (by decide) lX6_houseOf_f23 rfl rfl dX6_houseOf_15 (rfl : 15 + 3 = 18) ?_
    refine z_iload_n C 1 rfl rfl dX6_houseOf_18 (rfl : 18 + 1 = 19) ?_
    refine z_iald (x := iI (V 4 (i))) C xmm_4 ⟨by omega, by omega⟩ (by omega) rfl dX6_houseOf_19 (rfl : 19 + 1 = 20) ?_
    refine z_goto (pc' := 24) C dX6_houseOf_20 (by decide) ?_
    exact z_iret C rfl dX6_houseOf_24 (.inl ⟨hP, rfl, rfl⟩) (by decide) (by decide)
  · rw [b01_f hP]
    refine z_callV C 0 0 (c_goes_1 (.inr rfl) (.inr rfl)) gX6_houseOf_X6_goes rfl hd42_X6_goes ⟨Nat.le_of_ble_eq_true rfl, Nat.le_of_ble_eq_true rfl⟩ xmm rfl rfl (Nat.le_of_ble_eq_true rfl) dX6_houseOf_8 (rfl : 8 + 3 = 11) rfl rfl ⟨Nat.le_of_ble_eq_true rfl, Nat.le_of_ble_eq_true rfl⟩ (fun _ _ h => h.elim) ?_ rfl
    rintro _ _ ⟨rfl, rfl⟩
    refine z_v1 ?_
    refine z_if_eq (pt := 23) C dX6_houseOf_11 (by decide) (rfl : 11 + 3 = 14) (iI_eq0 (by omega)).1 (fun q => mt (iI_eq0 (by omega)).2 q) (fun c1 => ?_) (fun c1 => ?_)
    rotate_left
    · exact absurd rfl c1
    refine z_iconst C dX6_houseOf_23 (rfl : 23 + 1 = 24) ?_
    exact z_iret C rfl dX6_houseOf_24 (.inr ⟨hP, rfl, rfl⟩) (by decide) (by decide)
abbrev rmX6_ownerOf : Room := { frames := 3, cells := 0, slots := 0, locals := 80 }
theorem c_X6_ownerOf {z : Int} (hz : -2147483648 ≤ z ∧ z < 2147483648) (hw : WFV V n m t) : MC l yX6_ownerOf wsX6_ownerOf rmX6_ownerOf G base [.ref (q 30), .int (iI z)] (xm G q V ++ Y) (rdQ G q V Y (0 ≤ z ∧ z < n) (V 3 z.toNat)) (fun _ _ => False) := by
  refine MC.of (cc := cX6_ownerOf) (by decide) rfl rfl (Nat.le_of_ble_eq_true rfl) ?_
  intro κ C hT hl hnm
  have hb : n ≤ 1000 ∧ m ≤ 1000 ∧ t ≤ 1000 := by have := hw.2.1; omega
  refine z_sub [0, 1] (lv' := [(0, .ref (q 30)), (1, .int (iI z))]) rfl ?_
  refine z_aload_n C 0 rfl rfl dX6_ownerOf_0 (rfl : 0 + 1 = 1) ?_
  refine z_aload_n C 0 rfl rfl dX6_ownerOf_1 (rfl : 1 + 1 = 2) ?_
  refine z_iload_n C 1 rfl rfl dX6_ownerOf_2 (rfl : 2 + 1 = 3) ?_
  refine z_callV C 0 0 (c_X6_isCopy hz hw.1.1 (by omega)) gX6_ownerOf_X6_isCopy rfl hd42_X6_isCopy ⟨Nat.le_of_ble_eq_true rfl, Nat.le_of_ble_eq_true rfl⟩ xmm rfl rfl (Nat.le_of_ble_eq_true rfl) dX6_ownerOf_3 (rfl : 3 + 3 = 6) rfl rfl ⟨Nat.le_of_ble_eq_true rfl, Nat.le_of_ble_eq_true rfl⟩ (fun _ _ h => h.elim) ?_ rfl
  rintro _ _ ⟨rfl, rfl⟩
  refine z_v1 ?_
  refine z_iconst C dX6_ownerOf_6 (rfl : 6 + 1 = 7) ?_
  refine z_iconst C dX6_ownerOf_7 (rfl : 7 + 1 = 8) ?_
  by_cases hP : 0 ≤ z ∧ z < n
  · rw [b01_t hP]
    obtain ⟨i, rfl⟩ : ∃ i : Nat, z = (i : Int) := ⟨z.toNat, by omega⟩
    have hi : i < n := by omega
    refine z_callV C 0 0 c_goes_ok gX6_ownerOf_X6_goes rfl hd42_X6_goes ⟨Nat.le_of_ble_eq_true rfl, Nat.le_of_ble_eq_true rfl⟩ xmm rfl rfl (Nat.le_of_ble_eq_true rfl) dX6_ownerOf_8 (rfl : 8 + 3 = 11) rfl rfl ⟨Nat.le_of_ble_eq_true rfl, Nat.le_of_ble_eq_true rfl⟩ (fun _ _ h => h.elim) ?_ rfl
    rintro _ _ ⟨rfl, rfl⟩
    refine z_v1 ?_
    refine z_if_eq (pt := 23) C dX6_ownerOf_11 (by decide) (rfl : 11 + 3 = 14) (iI_eq0 (by omega)).1 (fun q => mt (iI_eq0 (by omega)).2 q) (fun c1 => ?_) (fun c1 => ?_)
    · exact absurd c1 (by omega)
    have hn := hw.2.1
    refine z_aload_n C 0 rfl rfl dX6_ownerOf_14 (rfl : 14 + 1 = 15) ?_
    refine z_get C xmm rfl iX6_ownerOf_X6 3 (by decide) lX6_ownerOf_f20 rfl rfl dX6_ownerOf_15 (rfl : 15 + 3 = 18) ?_
    refine z_iload_n C 1 rfl rfl dX6_ownerOf_18 (rfl : 18 + 1 = 19) ?_
    refine z_iald (x := iI (V 3 (i))) C xmm_3 ⟨by omega, by omega⟩ (by omega) rfl dX6_ownerOf_19 (rfl : 19 + 1 = 20) ?_
    refine z_goto (pc' := 24) C dX6_ownerOf_20 (by decide) ?_
    exact z_iret C rfl dX6_ownerOf_24 (.inl ⟨hP, rfl, rfl⟩) (by decide) (by decide)
  · rw [b01_f hP]
    refine z_callV C 0 0 (c_goes_1 (.inr rfl) (.inr rfl)) gX6_ownerOf_X6_goes rfl hd42_X6_goes ⟨Nat.le_of_ble_eq_true rfl, Nat.le_of_ble_eq_true rfl⟩ xmm rfl rfl (Nat.le_of_ble_eq_true rfl) dX6_ownerOf_8 (rfl : 8 + 3 = 11) rfl rfl ⟨Nat.le_of_ble_eq_true rfl, Nat.le_of_ble_eq_true rfl⟩ (fun _ _ h => h.elim) ?_ rfl
    rintro _ _ ⟨rfl, rfl⟩
    refine z_v1 ?_
    refine z_if_eq (pt := 23) C dX6_ownerOf_11 (by decide) (rfl : 11 + 3 = 14) (iI_eq0 (by omega)).1 (fun q => mt (iI_eq0 (by omega)).2 q) (fun c1 => ?_) (fun c1 => ?_)
    rotate_left
    · exact absurd rfl c1
    refine z_iconst C dX6_ownerOf_23 (rfl : 23 + 1 = 24) ?_
    exact z_iret C rfl dX6_ownerOf_24 (.inr ⟨hP, rfl, rfl⟩) (by decide) (by decide)
abbrev rmX6_slips : Room := { frames := 3, cells := 0, slots := 0, locals := 80 }
theorem c_X6_slips {z : Int} (hz : -2147483648 ≤ z ∧ z < 2147483648) (hw : WFV V n m t) : MC l yX6_slips wsX6_slips rmX6_slips G base [.ref (q 30), .int (iI z)] (xm G q V ++ Y) (rdQ G q V Y (0 ≤ z ∧ z < 6) (V 8 z.toNat)) (fun _ _ => False) := by
  refine MC.of (cc := cX6_slips) (by decide) rfl rfl (Nat.le_of_ble_eq_true rfl) ?_
  intro κ C hT hl hnm
  have hb : n ≤ 1000 ∧ m ≤ 1000 ∧ t ≤ 1000 := by have := hw.2.1; omega
  refine z_sub [0, 1] (lv' := [(0, .ref (q 30)), (1, .int (iI z))]) rfl ?_
  refine z_aload_n C 0 rfl rfl dX6_slips_0 (rfl : 0 + 1 = 1) ?_
  refine z_iload_n C 1 rfl rfl dX6_slips_1 (rfl : 1 + 1 = 2) ?_
  refine z_callS C 0 0 (c_X6_isScribe hz) gX6_slips_X6_isScribe rfl hd42_X6_isScribe ⟨Nat.le_of_ble_eq_true rfl, Nat.le_of_ble_eq_true rfl⟩ rfl (Nat.le_of_ble_eq_true rfl) dX6_slips_2 (rfl : 2 + 3 = 5) rfl rfl ⟨Nat.le_of_ble_eq_true rfl, Nat.le_of_ble_eq_true rfl⟩ (fun _ _ h => h.elim) ?_ rfl
  rintro _ _ ⟨rfl, rfl⟩
  refine z_v1 ?_
  refine z_iconst C dX6_slips_5 (rfl : 5 + 1 = 6) ?_
  refine z_iconst C dX6_slips_6 (rfl : 6 + 1 = 7) ?_
  by_cases hP : 0 ≤ z ∧ z < 6
  · rw [b01_t hP]
    obtain ⟨i, rfl⟩ : ∃ i : Nat, z = (i : Int) := ⟨z.toNat, by omega⟩
    have hi : i < 6 := by omega
    refine z_callV C 0 0 c_goes_ok gX6_slips_X6_goes rfl hd42_X6_goes ⟨Nat.le_of_ble_eq_true rfl, Nat.le_of_ble_eq_true rfl⟩ xmm rfl rfl (Nat.le_of_ble_eq_true rfl) dX6_slips_7 (rfl : 7 + 3 = 10) rfl rfl ⟨Nat.le_of_ble_eq_true rfl, Nat.le_of_ble_eq_true rfl⟩ (fun _ _ h => h.elim) ?_ rfl
    rintro _ _ ⟨rfl, rfl⟩
    refine z_v1 ?_
    refine z_if_eq (pt := 22) C dX6_slips_10 (by decide) (rfl : 10 + 3 = 13) (iI_eq0 (by omega)).1 (fun q => mt (iI_eq0 (by omega)).2 q) (fun c1 => ?_) (fun c1 => ?_)
    · exact absurd c1 (by omega)
    refine z_aload_n C 0 rfl rfl dX6_slips_13 (rfl : 13 + 1 = 14) ?_
    refine z_get C xmm rfl iX6_slips_X6 8 (by decide) lX6_slips_f33 rfl rfl dX6_slips_14 (rfl : 14 + 3 = 17) ?_
    refine z_iload_n C 1 rfl rfl dX6_slips_17 (rfl : 17 + 1 = 18) ?_
    refine z_iald (x := iI (V 8 (i))) C xmm_8 ⟨by omega, by omega⟩ (by omega) rfl dX6_slips_18 (rfl : 18 + 1 = 19) ?_
    refine z_goto (pc' := 23) C dX6_slips_19 (by decide) ?_
    exact z_iret C rfl dX6_slips_23 (.inl ⟨hP, rfl, rfl⟩) (by decide) (by decide)
  · rw [b01_f hP]
    refine z_callV C 0 0 (c_goes_1 (.inr rfl) (.inr rfl)) gX6_slips_X6_goes rfl hd42_X6_goes ⟨Nat.le_of_ble_eq_true rfl, Nat.le_of_ble_eq_true rfl⟩ xmm rfl rfl (Nat.le_of_ble_eq_true rfl) dX6_slips_7 (rfl : 7 + 3 = 10) rfl rfl ⟨Nat.le_of_ble_eq_true rfl, Nat.le_of_ble_eq_true rfl⟩ (fun _ _ h => h.elim) ?_ rfl
    rintro _ _ ⟨rfl, rfl⟩
    refine z_v1 ?_
    refine z_if_eq (pt := 22) C dX6_slips_10 (by decide) (rfl : 10 + 3 = 13) (iI_eq0 (by omega)).1 (fun q => mt (iI_eq0 (by omega)).2 q) (fun c1 => ?_) (fun c1 => ?_)
    rotate_left
    · exact absurd rfl c1
    refine z_iconst C dX6_slips_22 (rfl : 22 + 1 = 23) ?_
    exact z_iret C rfl dX6_slips_23 (.inr ⟨hP, rfl, rfl⟩) (by decide) (by decide)
abbrev rmX6_coins : Room := { frames := 3, cells := 0, slots := 0, locals := 80 }
theorem c_X6_coins {z : Int} (hz : -2147483648 ≤ z ∧ z < 2147483648) (hw : WFV V n m t) : MC l yX6_coins wsX6_coins rmX6_coins G base [.ref (q 30), .int (iI z)] (xm G q V ++ Y) (rdQ G q V Y (0 ≤ z ∧ z < 5) (V 22 z.toNat)) (fun _ _ => False) := by
  refine MC.of (cc := cX6_coins) (by decide) rfl rfl (Nat.le_of_ble_eq_true rfl) ?_
  intro κ C hT hl hnm
  have hb : n ≤ 1000 ∧ m ≤ 1000 ∧ t ≤ 1000 := by have := hw.2.1; omega
  refine z_sub [0, 1] (lv' := [(0, .ref (q 30)), (1, .int (iI z))]) rfl ?_
  refine z_aload_n C 0 rfl rfl dX6_coins_0 (rfl : 0 + 1 = 1) ?_
  refine z_iload_n C 1 rfl rfl dX6_coins_1 (rfl : 1 + 1 = 2) ?_
  refine z_callS C 0 0 (c_X6_isHouse hz) gX6_coins_X6_isHouse rfl hd42_X6_isHouse ⟨Nat.le_of_ble_eq_true rfl, Nat.le_of_ble_eq_true rfl⟩ rfl (Nat.le_of_ble_eq_true rfl) dX6_coins_2 (rfl : 2 + 3 = 5) rfl rfl ⟨Nat.le_of_ble_eq_true rfl, Nat.le_of_ble_eq_true rfl⟩ (fun _ _ h => h.elim) ?_ rfl
  rintro _ _ ⟨rfl, rfl⟩
  refine z_v1 ?_
  refine z_iconst C dX6_coins_5 (rfl : 5 + 1 = 6) ?_
  refine z_iconst C dX6_coins_6 (rfl : 6 + 1 = 7) ?_
  by_cases hP : 0 ≤ z ∧ z < 5
  · rw [b01_t hP]
    obtain ⟨i, rfl⟩ : ∃ i : Nat, z = (i : Int) := ⟨z.toNat, by omega⟩
    have hi : i < 5 := by omega
    refine z_callV C 0 0 c_goes_ok gX6_coins_X6_goes rfl hd42_X6_goes ⟨Nat.le_of_ble_eq_true rfl, Nat.le_of_ble_eq_true rfl⟩ xmm rfl rfl (Nat.le_of_ble_eq_true rfl) dX6_coins_7 (rfl : 7 + 3 = 10) rfl rfl ⟨Nat.le_of_ble_eq_true rfl, Nat.le_of_ble_eq_true rfl⟩ (fun _ _ h => h.elim) ?_ rfl
    rintro _ _ ⟨rfl, rfl⟩
    refine z_v1 ?_
    refine z_if_eq (pt := 22) C dX6_coins_10 (by decide) (rfl : 10 + 3 = 13) (iI_eq0 (by omega)).1 (fun q => mt (iI_eq0 (by omega)).2 q) (fun c1 => ?_) (fun c1 => ?_)
    · exact absurd c1 (by omega)
    refine z_aload_n C 0 rfl rfl dX6_coins_13 (rfl : 13 + 1 = 14) ?_
    refine z_get C xmm rfl iX6_coins_X6 22 (by decide) lX6_coins_f66 rfl rfl dX6_coins_14 (rfl : 14 + 3 = 17) ?_
    refine z_iload_n C 1 rfl rfl dX6_coins_17 (rfl : 17 + 1 = 18) ?_
    refine z_iald (x := iI (V 22 (i))) C xmm_22 ⟨by omega, by omega⟩ (by omega) rfl dX6_coins_18 (rfl : 18 + 1 = 19) ?_
    refine z_goto (pc' := 23) C dX6_coins_19 (by decide) ?_
    exact z_iret C rfl dX6_coins_23 (.inl ⟨hP, rfl, rfl⟩) (by decide) (by decide)
  · rw [b01_f hP]
    refine z_callV C 0 0 (c_goes_1 (.inr rfl) (.inr rfl)) gX6_coins_X6_goes rfl hd42_X6_goes ⟨Nat.le_of_ble_eq_true rfl, Nat.le_of_ble_eq_true rfl⟩ xmm rfl rfl (Nat.le_of_ble_eq_true rfl) dX6_coins_7 (rfl : 7 + 3 = 10) rfl rfl ⟨Nat.le_of_ble_eq_true rfl, Nat.le_of_ble_eq_true rfl⟩ (fun _ _ h => h.elim) ?_ rfl
    rintro _ _ ⟨rfl, rfl⟩
    refine z_v1 ?_
    refine z_if_eq (pt := 22) C dX6_coins_10 (by decide) (rfl : 10 + 3 = 13) (iI_eq0 (by omega)).1 (fun q => mt (iI_eq0 (by omega)).2 q) (fun c1 => ?_) (fun c1 => ?_)
    rotate_left
    · exact absurd rfl c1
    refine z_iconst C dX6_coins_22 (rfl : 22 + 1 = 23) ?_
    exact z_iret C rfl dX6_coins_23 (.inr ⟨hP, rfl, rfl⟩) (by decide) (by decide)
abbrev rmX6_laidDown : Room := { frames := 3, cells := 0, slots := 0, locals := 80 }
theorem c_X6_laidDown {z : Int} (hz : -2147483648 ≤ z ∧ z < 2147483648) (hw : WFV V n m t) : MC l yX6_laidDown wsX6_laidDown rmX6_laidDown G base [.ref (q 30), .int (iI z)] (xm G q V ++ Y) (rdQ G q V Y (0 ≤ z ∧ z < 5) (V 23 z.toNat)) (fun _ _ => False) := by
  refine MC.of (cc := cX6_laidDown) (by decide) rfl rfl (Nat.le_of_ble_eq_true rfl) ?_
  intro κ C hT hl hnm
  have hb : n ≤ 1000 ∧ m ≤ 1000 ∧ t ≤ 1000 := by have := hw.2.1; omega
  refine z_sub [0, 1] (lv' := [(0, .ref (q 30)), (1, .int (iI z))]) rfl ?_
  refine z_aload_n C 0 rfl rfl dX6_laidDown_0 (rfl : 0 + 1 = 1) ?_
  refine z_iload_n C 1 rfl rfl dX6_laidDown_1 (rfl : 1 + 1 = 2) ?_
  refine z_callS C 0 0 (c_X6_isHouse hz) gX6_laidDown_X6_isHouse rfl hd42_X6_isHouse ⟨Nat.le_of_ble_eq_true rfl, Nat.le_of_ble_eq_true rfl⟩ rfl (Nat.le_of_ble_eq_true rfl) dX6_laidDown_2 (rfl : 2 + 3 = 5) rfl rfl ⟨Nat.le_of_ble_eq_true rfl, Nat.le_of_ble_eq_true rfl⟩ (fun _ _ h => h.elim) ?_ rfl
  rintro _ _ ⟨rfl, rfl⟩
  refine z_v1 ?_
  refine z_iconst C dX6_laidDown_5 (rfl : 5 + 1 = 6) ?_
  refine z_iconst C dX6_laidDown_6 (rfl : 6 + 1 = 7) ?_
  by_cases hP : 0 ≤ z ∧ z < 5
  · rw [b01_t hP]
    obtain ⟨i, rfl⟩ : ∃ i : Nat, z = (i : Int) := ⟨z.toNat, by omega⟩
    have hi : i < 5 := by omega
    refine z_callV C 0 0 c_goes_ok gX6_laidDown_X6_goes rfl hd42_X6_goes ⟨Nat.le_of_ble_eq_true rfl, Nat.le_of_ble_eq_true rfl⟩ xmm rfl rfl (Nat.le_of_ble_eq_true rfl) dX6_laidDown_7 (rfl : 7 + 3 = 10) rfl rfl ⟨Nat.le_of_ble_eq_true rfl, Nat.le_of_ble_eq_true rfl⟩ (fun _ _ h => h.elim) ?_ rfl
    rintro _ _ ⟨rfl, rfl⟩
    refine z_v1 ?_
    refine z_if_eq (pt := 22) C dX6_laidDown_10 (by decide) (rfl : 10 + 3 = 13) (iI_eq0 (by omega)).1 (fun q => mt (iI_eq0 (by omega)).2 q) (fun c1 => ?_) (fun c1 => ?_)
    · exact absurd c1 (by omega)
    refine z_aload_n C 0 rfl rfl dX6_laidDown_13 (rfl : 13 + 1 = 14) ?_
    refine z_get C xmm rfl iX6_laidDown_X6 23 (by decide) lX6_laidDown_f69 rfl rfl dX6_laidDown_14 (rfl : 14 + 3 = 17) ?_
    refine z_iload_n C 1 rfl rfl dX6_laidDown_17 (rfl : 17 + 1 = 18) ?_
    refine z_iald (x := iI (V 23 (i))) C xmm_23 ⟨by omega, by omega⟩ (by omega) rfl dX6_laidDown_18 (rfl : 18 + 1 = 19) ?_
    refine z_goto (pc' := 23) C dX6_laidDown_19 (by decide) ?_
    exact z_iret C rfl dX6_laidDown_23 (.inl ⟨hP, rfl, rfl⟩) (by decide) (by decide)
  · rw [b01_f hP]
    refine z_callV C 0 0 (c_goes_1 (.inr rfl) (.inr rfl)) gX6_laidDown_X6_goes rfl hd42_X6_goes ⟨Nat.le_of_ble_eq_true rfl, Nat.le_of_ble_eq_true rfl⟩ xmm rfl rfl (Nat.le_of_ble_eq_true rfl) dX6_laidDown_7 (rfl : 7 + 3 = 10) rfl rfl ⟨Nat.le_of_ble_eq_true rfl, Nat.le_of_ble_eq_true rfl⟩ (fun _ _ h => h.elim) ?_ rfl
    rintro _ _ ⟨rfl, rfl⟩
    refine z_v1 ?_
    refine z_if_eq (pt := 22) C dX6_laidDown_10 (by decide) (rfl : 10 + 3 = 13) (iI_eq0 (by omega)).1 (fun q => mt (iI_eq0 (by omega)).2 q) (fun c1 => ?_) (fun c1 => ?_)
    rotate_left
    · exact absurd rfl c1
    refine z_iconst C dX6_laidDown_22 (rfl : 22 + 1 = 23) ?_
    exact z_iret C rfl dX6_laidDown_23 (.inr ⟨hP, rfl, rfl⟩) (by decide) (by decide)
abbrev rmX6_errors : Room := { frames := 3, cells := 0, slots := 0, locals := 80 }
theorem c_X6_errors {z : Int} (hz : -2147483648 ≤ z ∧ z < 2147483648) (hw : WFV V n m t) : MC l yX6_errors wsX6_errors rmX6_errors G base [.ref (q 30), .int (iI z)] (xm G q V ++ Y) (rdQ G q V Y (0 ≤ z ∧ z < n) (shV V z.toNat z.toNat)) (fun _ _ => False) := by
  refine MC.of (cc := cX6_errors) (by decide) rfl rfl (Nat.le_of_ble_eq_true rfl) ?_
  intro κ C hT hl hnm
  have hb : n ≤ 1000 ∧ m ≤ 1000 ∧ t ≤ 1000 := by have := hw.2.1; omega
  refine z_sub [0, 1] (lv' := [(0, .ref (q 30)), (1, .int (iI z))]) rfl ?_
  refine z_aload_n C 0 rfl rfl dX6_errors_0 (rfl : 0 + 1 = 1) ?_
  refine z_aload_n C 0 rfl rfl dX6_errors_1 (rfl : 1 + 1 = 2) ?_
  refine z_iload_n C 1 rfl rfl dX6_errors_2 (rfl : 2 + 1 = 3) ?_
  refine z_callV C 0 0 (c_X6_isCopy hz hw.1.1 (by omega)) gX6_errors_X6_isCopy rfl hd42_X6_isCopy ⟨Nat.le_of_ble_eq_true rfl, Nat.le_of_ble_eq_true rfl⟩ xmm rfl rfl (Nat.le_of_ble_eq_true rfl) dX6_errors_3 (rfl : 3 + 3 = 6) rfl rfl ⟨Nat.le_of_ble_eq_true rfl, Nat.le_of_ble_eq_true rfl⟩ (fun _ _ h => h.elim) ?_ rfl
  rintro _ _ ⟨rfl, rfl⟩
  refine z_v1 ?_
  refine z_iconst C dX6_errors_6 (rfl : 6 + 1 = 7) ?_
  refine z_iconst C dX6_errors_7 (rfl : 7 + 1 = 8) ?_
  by_cases hP : 0 ≤ z ∧ z < n
  · rw [b01_t hP]
    obtain ⟨i, rfl⟩ : ∃ i : Nat, z = (i : Int) := ⟨z.toNat, by omega⟩
    have hi : i < n := by omega
    refine z_callV C 0 0 c_goes_ok gX6_errors_X6_goes rfl hd42_X6_goes ⟨Nat.le_of_ble_eq_true rfl, Nat.le_of_ble_eq_true rfl⟩ xmm rfl rfl (Nat.le_of_ble_eq_true rfl) dX6_errors_8 (rfl : 8 + 3 = 11) rfl rfl ⟨Nat.le_of_ble_eq_true rfl, Nat.le_of_ble_eq_true rfl⟩ (fun _ _ h => h.elim) ?_ rfl
    rintro _ _ ⟨rfl, rfl⟩
    refine z_v1 ?_
    refine z_if_eq (pt := 22) C dX6_errors_11 (by decide) (rfl : 11 + 3 = 14) (iI_eq0 (by omega)).1 (fun q => mt (iI_eq0 (by omega)).2 q) (fun c1 => ?_) (fun c1 => ?_)
    · exact absurd c1 (by omega)
    have hn := hw.2.1
    refine z_aload_n C 0 rfl rfl dX6_errors_14 (rfl : 14 + 1 = 15) ?_
    refine z_iload_n C 1 rfl rfl dX6_errors_15 (rfl : 15 + 1 = 16) ?_
    refine z_callV C 0 0 (c_X6_errorsOf (V := up2 V 25 0 0) (c := i) (by omega) hw.2.2.1) gX6_errors_X6_errorsOf rfl hd42_X6_errorsOf ⟨Nat.le_of_ble_eq_true rfl, Nat.le_of_ble_eq_true rfl⟩ xmm rfl rfl (Nat.le_of_ble_eq_true rfl) dX6_errors_16 (rfl : 16 + 3 = 19) rfl rfl ⟨Nat.le_of_ble_eq_true rfl, Nat.le_of_ble_eq_true rfl⟩ (fun _ _ h => h.elim) ?_ rfl
    rintro _ _ ⟨rfl, rfl⟩
    refine z_v1 ?_
    refine z_goto (pc' := 23) C dX6_errors_19 (by decide) ?_
    exact z_iret C rfl dX6_errors_23 (.inl ⟨hP, rfl, rfl⟩) (by decide) (by decide)
  · rw [b01_f hP]
    refine z_callV C 0 0 (c_goes_1 (.inr rfl) (.inr rfl)) gX6_errors_X6_goes rfl hd42_X6_goes ⟨Nat.le_of_ble_eq_true rfl, Nat.le_of_ble_eq_true rfl⟩ xmm rfl rfl (Nat.le_of_ble_eq_true rfl) dX6_errors_8 (rfl : 8 + 3 = 11) rfl rfl ⟨Nat.le_of_ble_eq_true rfl, Nat.le_of_ble_eq_true rfl⟩ (fun _ _ h => h.elim) ?_ rfl
    rintro _ _ ⟨rfl, rfl⟩
    refine z_v1 ?_
    refine z_if_eq (pt := 22) C dX6_errors_11 (by decide) (rfl : 11 + 3 = 14) (iI_eq0 (by omega)).1 (fun q => mt (iI_eq0 (by omega)).2 q) (fun c1 => ?_) (fun c1 => ?_)
    rotate_left
    · exact absurd rfl c1
    refine z_iconst C dX6_errors_22 (rfl : 22 + 1 = 23) ?_
    exact z_iret C rfl dX6_errors_23 (.inr ⟨hP, rfl, rfl⟩) (by decide) (by decide)
abbrev rmX6_guess : Room := { frames := 3, cells := 0, slots := 0, locals := 80 }
theorem c_X6_guess {z : Int} (hz : -2147483648 ≤ z ∧ z < 2147483648) (hw : WFV V n m t) : MC l yX6_guess wsX6_guess rmX6_guess G base [.ref (q 30), .int (iI z)] (xm G q V ++ Y) (rdQ G q V Y (0 ≤ z ∧ z < n) (gsV V z.toNat)) (fun _ _ => False) := by
  refine MC.of (cc := cX6_guess) (by decide) rfl rfl (Nat.le_of_ble_eq_true rfl) ?_
  intro κ C hT hl hnm
  have hb : n ≤ 1000 ∧ m ≤ 1000 ∧ t ≤ 1000 := by have := hw.2.1; omega
  refine z_sub [0, 1] (lv' := [(0, .ref (q 30)), (1, .int (iI z))]) rfl ?_
  refine z_aload_n C 0 rfl rfl dX6_guess_0 (rfl : 0 + 1 = 1) ?_
  refine z_aload_n C 0 rfl rfl dX6_guess_1 (rfl : 1 + 1 = 2) ?_
  refine z_iload_n C 1 rfl rfl dX6_guess_2 (rfl : 2 + 1 = 3) ?_
  refine z_callV C 0 0 (c_X6_isCopy hz hw.1.1 (by omega)) gX6_guess_X6_isCopy rfl hd42_X6_isCopy ⟨Nat.le_of_ble_eq_true rfl, Nat.le_of_ble_eq_true rfl⟩ xmm rfl rfl (Nat.le_of_ble_eq_true rfl) dX6_guess_3 (rfl : 3 + 3 = 6) rfl rfl ⟨Nat.le_of_ble_eq_true rfl, Nat.le_of_ble_eq_true rfl⟩ (fun _ _ h => h.elim) ?_ rfl
  rintro _ _ ⟨rfl, rfl⟩
  refine z_v1 ?_
  refine z_iconst C dX6_guess_6 (rfl : 6 + 1 = 7) ?_
  refine z_iconst C dX6_guess_7 (rfl : 7 + 1 = 8) ?_
  by_cases hP : 0 ≤ z ∧ z < n
  · rw [b01_t hP]
    obtain ⟨i, rfl⟩ : ∃ i : Nat, z = (i : Int) := ⟨z.toNat, by omega⟩
    have hi : i < n := by omega
    refine z_callV C 0 0 c_goes_ok gX6_guess_X6_goes rfl hd42_X6_goes ⟨Nat.le_of_ble_eq_true rfl, Nat.le_of_ble_eq_true rfl⟩ xmm rfl rfl (Nat.le_of_ble_eq_true rfl) dX6_guess_8 (rfl : 8 + 3 = 11) rfl rfl ⟨Nat.le_of_ble_eq_true rfl, Nat.le_of_ble_eq_true rfl⟩ (fun _ _ h => h.elim) ?_ rfl
    rintro _ _ ⟨rfl, rfl⟩
    refine z_v1 ?_
    refine z_if_eq (pt := 22) C dX6_guess_11 (by decide) (rfl : 11 + 3 = 14) (iI_eq0 (by omega)).1 (fun q => mt (iI_eq0 (by omega)).2 q) (fun c1 => ?_) (fun c1 => ?_)
    · exact absurd c1 (by omega)
    refine z_aload_n C 0 rfl rfl dX6_guess_14 (rfl : 14 + 1 = 15) ?_
    refine z_iload_n C 1 rfl rfl dX6_guess_15 (rfl : 15 + 1 = 16) ?_
    refine z_callV C 0 0 (c_X6_guesses (V := up2 V 25 0 0) (c := i) (hw.last 0) hi) gX6_guess_X6_guesses rfl hd42_X6_guesses ⟨Nat.le_of_ble_eq_true rfl, Nat.le_of_ble_eq_true rfl⟩ xmm rfl rfl (Nat.le_of_ble_eq_true rfl) dX6_guess_16 (rfl : 16 + 3 = 19) rfl rfl ⟨Nat.le_of_ble_eq_true rfl, Nat.le_of_ble_eq_true rfl⟩ (fun _ _ h => h.elim) ?_ rfl
    rintro _ _ ⟨rfl, rfl⟩
    refine z_v1 ?_
    rw [gsV_last]
    refine z_goto (pc' := 23) C dX6_guess_19 (by decide) ?_
    exact z_iret C rfl dX6_guess_23 (.inl ⟨hP, rfl, rfl⟩) (by decide) (by decide)
  · rw [b01_f hP]
    refine z_callV C 0 0 (c_goes_1 (.inr rfl) (.inr rfl)) gX6_guess_X6_goes rfl hd42_X6_goes ⟨Nat.le_of_ble_eq_true rfl, Nat.le_of_ble_eq_true rfl⟩ xmm rfl rfl (Nat.le_of_ble_eq_true rfl) dX6_guess_8 (rfl : 8 + 3 = 11) rfl rfl ⟨Nat.le_of_ble_eq_true rfl, Nat.le_of_ble_eq_true rfl⟩ (fun _ _ h => h.elim) ?_ rfl
    rintro _ _ ⟨rfl, rfl⟩
    refine z_v1 ?_
    refine z_if_eq (pt := 22) C dX6_guess_11 (by decide) (rfl : 11 + 3 = 14) (iI_eq0 (by omega)).1 (fun q => mt (iI_eq0 (by omega)).2 q) (fun c1 => ?_) (fun c1 => ?_)
    rotate_left
    · exact absurd rfl c1
    refine z_iconst C dX6_guess_22 (rfl : 22 + 1 = 23) ?_
    exact z_iret C rfl dX6_guess_23 (.inr ⟨hP, rfl, rfl⟩) (by decide) (by decide)
abbrev rmX6_toldModel : Room := { frames := 3, cells := 0, slots := 0, locals := 80 }
theorem c_X6_toldModel {z : Int} (hz : -2147483648 ≤ z ∧ z < 2147483648) (hw : WFV V n m t) : MC l yX6_toldModel wsX6_toldModel rmX6_toldModel G base [.ref (q 30), .int (iI z)] (xm G q V ++ Y) (rdQ G q V Y (0 ≤ z ∧ z < n) (if V 2 z.toNat = 1 then V 1 z.toNat else -1)) (fun _ _ => False) := by
  refine MC.of (cc := cX6_toldModel) (by decide) rfl rfl (Nat.le_of_ble_eq_true rfl) ?_
  intro κ C hT hl hnm
  have hb : n ≤ 1000 ∧ m ≤ 1000 ∧ t ≤ 1000 := by have := hw.2.1; omega
  refine z_sub [0, 1] (lv' := [(0, .ref (q 30)), (1, .int (iI z))]) rfl ?_
  refine z_aload_n C 0 rfl rfl dX6_toldModel_0 (rfl : 0 + 1 = 1) ?_
  refine z_aload_n C 0 rfl rfl dX6_toldModel_1 (rfl : 1 + 1 = 2) ?_
  refine z_iload_n C 1 rfl rfl dX6_toldModel_2 (rfl : 2 + 1 = 3) ?_
  refine z_callV C 0 0 (c_X6_isCopy hz hw.1.1 (by omega)) gX6_toldModel_X6_isCopy rfl hd42_X6_isCopy ⟨Nat.le_of_ble_eq_true rfl, Nat.le_of_ble_eq_true rfl⟩ xmm rfl rfl (Nat.le_of_ble_eq_true rfl) dX6_toldModel_3 (rfl : 3 + 3 = 6) rfl rfl ⟨Nat.le_of_ble_eq_true rfl, Nat.le_of_ble_eq_true rfl⟩ (fun _ _ h => h.elim) ?_ rfl
  rintro _ _ ⟨rfl, rfl⟩
  refine z_v1 ?_
  refine z_iconst C dX6_toldModel_6 (rfl : 6 + 1 = 7) ?_
  refine z_iconst C dX6_toldModel_7 (rfl : 7 + 1 = 8) ?_
  by_cases hP : 0 ≤ z ∧ z < n
  · rw [b01_t hP]
    obtain ⟨i, rfl⟩ : ∃ i : Nat, z = (i : Int) := ⟨z.toNat, by omega⟩
    have hi : i < n := by omega
    refine z_callV C 0 0 c_goes_ok gX6_toldModel_X6_goes rfl hd42_X6_goes ⟨Nat.le_of_ble_eq_true rfl, Nat.le_of_ble_eq_true rfl⟩ xmm rfl rfl (Nat.le_of_ble_eq_true rfl) dX6_toldModel_8 (rfl : 8 + 3 = 11) rfl rfl ⟨Nat.le_of_ble_eq_true rfl, Nat.le_of_ble_eq_true rfl⟩ (fun _ _ h => h.elim) ?_ rfl
    rintro _ _ ⟨rfl, rfl⟩
    refine z_v1 ?_
    refine z_if_eq (pt := 36) C dX6_toldModel_11 (by decide) (rfl : 11 + 3 = 14) (iI_eq0 (by omega)).1 (fun q => mt (iI_eq0 (by omega)).2 q) (fun c1 => ?_) (fun c1 => ?_)
    · exact absurd c1 (by omega)
    have hn := hw.2.1
    have tc := hw.2.2.2.2.1.2 i (by omega)
    refine z_aload_n C 0 rfl rfl dX6_toldModel_14 (rfl : 14 + 1 = 15) ?_
    refine z_get C xmm rfl iX6_toldModel_X6 2 (by decide) lX6_toldModel_f16 rfl rfl dX6_toldModel_15 (rfl : 15 + 3 = 18) ?_
    refine z_iload_n C 1 rfl rfl dX6_toldModel_18 (rfl : 18 + 1 = 19) ?_
    refine z_zald (x := iI (V 2 (i))) C xmm_2 ⟨by omega, by omega⟩ (by omega) rfl dX6_toldModel_19 (rfl : 19 + 1 = 20) ?_
    refine z_if_eq (pt := 32) C dX6_toldModel_20 (by decide) (rfl : 20 + 3 = 23) (iI_eq0 (by omega)).1 (fun q => mt (iI_eq0 (by omega)).2 q) (fun c2 => ?_) (fun c2 => ?_)
    · refine z_iconst C dX6_toldModel_32 (rfl : 32 + 1 = 33) ?_
      refine z_goto (pc' := 37) C dX6_toldModel_33 (by decide) ?_
      exact z_iret C rfl dX6_toldModel_37 (.inl ⟨hP, by rw [if_neg (by show ¬ V 2 i = 1; omega)], rfl⟩) (by decide) (by decide)
    · refine z_aload_n C 0 rfl rfl dX6_toldModel_23 (rfl : 23 + 1 = 24) ?_
      refine z_get C xmm rfl iX6_toldModel_X6 1 (by decide) lX6_toldModel_f13 rfl rfl dX6_toldModel_24 (rfl : 24 + 3 = 27) ?_
      refine z_iload_n C 1 rfl rfl dX6_toldModel_27 (rfl : 27 + 1 = 28) ?_
      refine z_iald (x := iI (V 1 (i))) C xmm_1 ⟨by omega, by omega⟩ (by omega) rfl dX6_toldModel_28 (rfl : 28 + 1 = 29) ?_
      refine z_goto (pc' := 37) C dX6_toldModel_29 (by decide) ?_
      exact z_iret C rfl dX6_toldModel_37 (.inl ⟨hP, by rw [if_pos (by show V 2 i = 1; omega)]; rfl, rfl⟩) (by decide) (by decide)
  · rw [b01_f hP]
    refine z_callV C 0 0 (c_goes_1 (.inr rfl) (.inr rfl)) gX6_toldModel_X6_goes rfl hd42_X6_goes ⟨Nat.le_of_ble_eq_true rfl, Nat.le_of_ble_eq_true rfl⟩ xmm rfl rfl (Nat.le_of_ble_eq_true rfl) dX6_toldModel_8 (rfl : 8 + 3 = 11) rfl rfl ⟨Nat.le_of_ble_eq_true rfl, Nat.le_of_ble_eq_true rfl⟩ (fun _ _ h => h.elim) ?_ rfl
    rintro _ _ ⟨rfl, rfl⟩
    refine z_v1 ?_
    refine z_if_eq (pt := 36) C dX6_toldModel_11 (by decide) (rfl : 11 + 3 = 14) (iI_eq0 (by omega)).1 (fun q => mt (iI_eq0 (by omega)).2 q) (fun c1 => ?_) (fun c1 => ?_)
    rotate_left
    · exact absurd rfl c1
    refine z_iconst C dX6_toldModel_36 (rfl : 36 + 1 = 37) ?_
    exact z_iret C rfl dX6_toldModel_37 (.inr ⟨hP, rfl, rfl⟩) (by decide) (by decide)
abbrev rmX6_letter : Room := { frames := 3, cells := 0, slots := 0, locals := 80 }
theorem c_X6_letter {z : Int} (hz : -2147483648 ≤ z ∧ z < 2147483648) (hw : WFV V n m t) : MC l yX6_letter wsX6_letter rmX6_letter G base [.ref (q 30), .int (iI z)] (xm G q V ++ Y) (rdQ G q V Y (0 ≤ z ∧ z < m) (100 * V 10 z.toNat + 10 * V 11 z.toNat + V 12 z.toNat)) (fun _ _ => False) := by
  refine MC.of (cc := cX6_letter) (by decide) rfl rfl (Nat.le_of_ble_eq_true rfl) ?_
  intro κ C hT hl hnm
  have hb : n ≤ 1000 ∧ m ≤ 1000 ∧ t ≤ 1000 := by have := hw.2.1; omega
  refine z_sub [0, 1] (lv' := [(0, .ref (q 30)), (1, .int (iI z))]) rfl ?_
  refine z_aload_n C 0 rfl rfl dX6_letter_0 (rfl : 0 + 1 = 1) ?_
  refine z_aload_n C 0 rfl rfl dX6_letter_1 (rfl : 1 + 1 = 2) ?_
  refine z_iload_n C 1 rfl rfl dX6_letter_2 (rfl : 2 + 1 = 3) ?_
  refine z_callV C 0 0 (c_X6_isLetter hz hw.1.2.1 (by omega)) gX6_letter_X6_isLetter rfl hd42_X6_isLetter ⟨Nat.le_of_ble_eq_true rfl, Nat.le_of_ble_eq_true rfl⟩ xmm rfl rfl (Nat.le_of_ble_eq_true rfl) dX6_letter_3 (rfl : 3 + 3 = 6) rfl rfl ⟨Nat.le_of_ble_eq_true rfl, Nat.le_of_ble_eq_true rfl⟩ (fun _ _ h => h.elim) ?_ rfl
  rintro _ _ ⟨rfl, rfl⟩
  refine z_v1 ?_
  refine z_iconst C dX6_letter_6 (rfl : 6 + 1 = 7) ?_
  refine z_iconst C dX6_letter_7 (rfl : 7 + 1 = 8) ?_
  by_cases hP : 0 ≤ z ∧ z < m
  · rw [b01_t hP]
    obtain ⟨i, rfl⟩ : ∃ i : Nat, z = (i : Int) := ⟨z.toNat, by omega⟩
    have hi : i < m := by omega
    refine z_callV C 0 0 c_goes_ok gX6_letter_X6_goes rfl hd42_X6_goes ⟨Nat.le_of_ble_eq_true rfl, Nat.le_of_ble_eq_true rfl⟩ xmm rfl rfl (Nat.le_of_ble_eq_true rfl) dX6_letter_8 (rfl : 8 + 3 = 11) rfl rfl ⟨Nat.le_of_ble_eq_true rfl, Nat.le_of_ble_eq_true rfl⟩ (fun _ _ h => h.elim) ?_ rfl
    rintro _ _ ⟨rfl, rfl⟩
    refine z_v1 ?_
    refine z_if_eq (pt := 43) C dX6_letter_11 (by decide) (rfl : 11 + 3 = 14) (iI_eq0 (by omega)).1 (fun q => mt (iI_eq0 (by omega)).2 q) (fun c1 => ?_) (fun c1 => ?_)
    · exact absurd c1 (by omega)
    have hn := hw.2.1
    refine z_bipush (c := 100) C (by decide) dX6_letter_14 (rfl : 14 + 2 = 16) ?_
    refine z_aload_n C 0 rfl rfl dX6_letter_16 (rfl : 16 + 1 = 17) ?_
    refine z_get C xmm rfl iX6_letter_X6 10 (by decide) lX6_letter_f36 rfl rfl dX6_letter_17 (rfl : 17 + 3 = 20) ?_
    refine z_iload_n C 1 rfl rfl dX6_letter_20 (rfl : 20 + 1 = 21) ?_
    refine z_iald (x := iI (V 10 (i))) C xmm_10 ⟨by omega, by omega⟩ (by omega) rfl dX6_letter_21 (rfl : 21 + 1 = 22) ?_
    refine z_imul C dX6_letter_22 (rfl : 22 + 1 = 23) rfl ?_
    refine z_bipush (c := 10) C (by decide) dX6_letter_23 (rfl : 23 + 2 = 25) ?_
    refine z_aload_n C 0 rfl rfl dX6_letter_25 (rfl : 25 + 1 = 26) ?_
    refine z_get C xmm rfl iX6_letter_X6 11 (by decide) lX6_letter_f39 rfl rfl dX6_letter_26 (rfl : 26 + 3 = 29) ?_
    refine z_iload_n C 1 rfl rfl dX6_letter_29 (rfl : 29 + 1 = 30) ?_
    refine z_iald (x := iI (V 11 (i))) C xmm_11 ⟨by omega, by omega⟩ (by omega) rfl dX6_letter_30 (rfl : 30 + 1 = 31) ?_
    refine z_imul C dX6_letter_31 (rfl : 31 + 1 = 32) rfl ?_
    refine z_iadd C dX6_letter_32 (rfl : 32 + 1 = 33) rfl ?_
    refine z_aload_n C 0 rfl rfl dX6_letter_33 (rfl : 33 + 1 = 34) ?_
    refine z_get C xmm rfl iX6_letter_X6 12 (by decide) lX6_letter_f42 rfl rfl dX6_letter_34 (rfl : 34 + 3 = 37) ?_
    refine z_iload_n C 1 rfl rfl dX6_letter_37 (rfl : 37 + 1 = 38) ?_
    refine z_iald (x := iI (V 12 (i))) C xmm_12 ⟨by omega, by omega⟩ (by omega) rfl dX6_letter_38 (rfl : 38 + 1 = 39) ?_
    refine z_iadd C dX6_letter_39 (rfl : 39 + 1 = 40) rfl ?_
    refine z_goto (pc' := 44) C dX6_letter_40 (by decide) ?_
    exact z_iret C rfl dX6_letter_44 (.inl ⟨hP, rfl, rfl⟩) (by decide) (by decide)
  · rw [b01_f hP]
    refine z_callV C 0 0 (c_goes_1 (.inr rfl) (.inr rfl)) gX6_letter_X6_goes rfl hd42_X6_goes ⟨Nat.le_of_ble_eq_true rfl, Nat.le_of_ble_eq_true rfl⟩ xmm rfl rfl (Nat.le_of_ble_eq_true rfl) dX6_letter_8 (rfl : 8 + 3 = 11) rfl rfl ⟨Nat.le_of_ble_eq_true rfl, Nat.le_of_ble_eq_true rfl⟩ (fun _ _ h => h.elim) ?_ rfl
    rintro _ _ ⟨rfl, rfl⟩
    refine z_v1 ?_
    refine z_if_eq (pt := 43) C dX6_letter_11 (by decide) (rfl : 11 + 3 = 14) (iI_eq0 (by omega)).1 (fun q => mt (iI_eq0 (by omega)).2 q) (fun c1 => ?_) (fun c1 => ?_)
    rotate_left
    · exact absurd rfl c1
    refine z_iconst C dX6_letter_43 (rfl : 43 + 1 = 44) ?_
    exact z_iret C rfl dX6_letter_44 (.inr ⟨hP, rfl, rfl⟩) (by decide) (by decide)
abbrev rmX6_isBack : Room := { frames := 3, cells := 0, slots := 0, locals := 80 }
theorem c_X6_isBack {z : Int} (hz : -2147483648 ≤ z ∧ z < 2147483648) (hw : WFV V n m t) : MC l yX6_isBack wsX6_isBack rmX6_isBack G base [.ref (q 30), .int (iI z)] (xm G q V ++ Y) (rdQ G q V Y (0 ≤ z ∧ z < t) (V 20 z.toNat)) (fun _ _ => False) := by
  refine MC.of (cc := cX6_isBack) (by decide) rfl rfl (Nat.le_of_ble_eq_true rfl) ?_
  intro κ C hT hl hnm
  have hb : n ≤ 1000 ∧ m ≤ 1000 ∧ t ≤ 1000 := by have := hw.2.1; omega
  refine z_sub [0, 1] (lv' := [(0, .ref (q 30)), (1, .int (iI z))]) rfl ?_
  refine z_aload_n C 0 rfl rfl dX6_isBack_0 (rfl : 0 + 1 = 1) ?_
  refine z_aload_n C 0 rfl rfl dX6_isBack_1 (rfl : 1 + 1 = 2) ?_
  refine z_iload_n C 1 rfl rfl dX6_isBack_2 (rfl : 2 + 1 = 3) ?_
  refine z_callV C 0 0 (c_X6_isLoan hz hw.1.2.2 (by omega)) gX6_isBack_X6_isLoan rfl hd42_X6_isLoan ⟨Nat.le_of_ble_eq_true rfl, Nat.le_of_ble_eq_true rfl⟩ xmm rfl rfl (Nat.le_of_ble_eq_true rfl) dX6_isBack_3 (rfl : 3 + 3 = 6) rfl rfl ⟨Nat.le_of_ble_eq_true rfl, Nat.le_of_ble_eq_true rfl⟩ (fun _ _ h => h.elim) ?_ rfl
  rintro _ _ ⟨rfl, rfl⟩
  refine z_v1 ?_
  refine z_iconst C dX6_isBack_6 (rfl : 6 + 1 = 7) ?_
  refine z_iconst C dX6_isBack_7 (rfl : 7 + 1 = 8) ?_
  by_cases hP : 0 ≤ z ∧ z < t
  · rw [b01_t hP]
    obtain ⟨i, rfl⟩ : ∃ i : Nat, z = (i : Int) := ⟨z.toNat, by omega⟩
    have hi : i < t := by omega
    refine z_callV C 0 0 c_goes_ok gX6_isBack_X6_goes rfl hd42_X6_goes ⟨Nat.le_of_ble_eq_true rfl, Nat.le_of_ble_eq_true rfl⟩ xmm rfl rfl (Nat.le_of_ble_eq_true rfl) dX6_isBack_8 (rfl : 8 + 3 = 11) rfl rfl ⟨Nat.le_of_ble_eq_true rfl, Nat.le_of_ble_eq_true rfl⟩ (fun _ _ h => h.elim) ?_ rfl
    rintro _ _ ⟨rfl, rfl⟩
    refine z_v1 ?_
    refine z_if_eq (pt := 27) C dX6_isBack_11 (by decide) (rfl : 11 + 3 = 14) (iI_eq0 (by omega)).1 (fun q => mt (iI_eq0 (by omega)).2 q) (fun c1 => ?_) (fun c1 => ?_)
    · exact absurd c1 (by omega)
    have hn := hw.2.1
    have tc := hw.2.2.2.2.2.2.2.2.2.2.1 i (by omega)
    refine z_aload_n C 0 rfl rfl dX6_isBack_14 (rfl : 14 + 1 = 15) ?_
    refine z_get C xmm rfl iX6_isBack_X6 20 (by decide) lX6_isBack_f63 rfl rfl dX6_isBack_15 (rfl : 15 + 3 = 18) ?_
    refine z_iload_n C 1 rfl rfl dX6_isBack_18 (rfl : 18 + 1 = 19) ?_
    refine z_zald (x := iI (V 20 (i))) C xmm_20 ⟨by omega, by omega⟩ (by omega) rfl dX6_isBack_19 (rfl : 19 + 1 = 20) ?_
    refine z_if_eq (pt := 27) C dX6_isBack_20 (by decide) (rfl : 20 + 3 = 23) (iI_eq0 (by omega)).1 (fun q => mt (iI_eq0 (by omega)).2 q) (fun c2 => ?_) (fun c2 => ?_)
    · refine z_iconst C dX6_isBack_27 (rfl : 27 + 1 = 28) ?_
      exact z_zret C rfl (.inl rfl) dX6_isBack_28 (.inl ⟨hP, by rw [show V 20 (i : Int).toNat = 0 from c2], rfl⟩) (by decide) (by decide)
    · refine z_iconst C dX6_isBack_23 (rfl : 23 + 1 = 24) ?_
      refine z_goto (pc' := 28) C dX6_isBack_24 (by decide) ?_
      exact z_zret C rfl (.inr rfl) dX6_isBack_28 (.inl ⟨hP, by rw [show V 20 (i : Int).toNat = 1 from tc.resolve_left c2], rfl⟩) (by decide) (by decide)
  · rw [b01_f hP]
    refine z_callV C 0 0 (c_goes_1 (.inr rfl) (.inr rfl)) gX6_isBack_X6_goes rfl hd42_X6_goes ⟨Nat.le_of_ble_eq_true rfl, Nat.le_of_ble_eq_true rfl⟩ xmm rfl rfl (Nat.le_of_ble_eq_true rfl) dX6_isBack_8 (rfl : 8 + 3 = 11) rfl rfl ⟨Nat.le_of_ble_eq_true rfl, Nat.le_of_ble_eq_true rfl⟩ (fun _ _ h => h.elim) ?_ rfl
    rintro _ _ ⟨rfl, rfl⟩
    refine z_v1 ?_
    refine z_if_eq (pt := 27) C dX6_isBack_11 (by decide) (rfl : 11 + 3 = 14) (iI_eq0 (by omega)).1 (fun q => mt (iI_eq0 (by omega)).2 q) (fun c1 => ?_) (fun c1 => ?_)
    rotate_left
    · exact absurd rfl c1
    refine z_iconst C dX6_isBack_27 (rfl : 27 + 1 = 28) ?_
    exact z_zret C rfl (.inl rfl) dX6_isBack_28 (.inr ⟨hP, rfl, rfl⟩) (by decide) (by decide)
abbrev rmX6_late : Room := { frames := 3, cells := 0, slots := 0, locals := 80 }
theorem c_X6_late {z : Int} (hz : -2147483648 ≤ z ∧ z < 2147483648) (hw : WFV V n m t) : MC l yX6_late wsX6_late rmX6_late G base [.ref (q 30), .int (iI z)] (xm G q V ++ Y) (rdQ G q V Y (0 ≤ z ∧ z < t) (if V 20 z.toNat = 1 then V 19 z.toNat else lateOf (V 9 0) (V 17 z.toNat))) (fun _ _ => False) := by
  refine MC.of (cc := cX6_late) (by decide) rfl rfl (Nat.le_of_ble_eq_true rfl) ?_
  intro κ C hT hl hnm
  have hb : n ≤ 1000 ∧ m ≤ 1000 ∧ t ≤ 1000 := by have := hw.2.1; omega
  refine z_sub [0, 1] (lv' := [(0, .ref (q 30)), (1, .int (iI z))]) rfl ?_
  refine z_aload_n C 0 rfl rfl dX6_late_0 (rfl : 0 + 1 = 1) ?_
  refine z_aload_n C 0 rfl rfl dX6_late_1 (rfl : 1 + 1 = 2) ?_
  refine z_iload_n C 1 rfl rfl dX6_late_2 (rfl : 2 + 1 = 3) ?_
  refine z_callV C 0 0 (c_X6_isLoan hz hw.1.2.2 (by omega)) gX6_late_X6_isLoan rfl hd42_X6_isLoan ⟨Nat.le_of_ble_eq_true rfl, Nat.le_of_ble_eq_true rfl⟩ xmm rfl rfl (Nat.le_of_ble_eq_true rfl) dX6_late_3 (rfl : 3 + 3 = 6) rfl rfl ⟨Nat.le_of_ble_eq_true rfl, Nat.le_of_ble_eq_true rfl⟩ (fun _ _ h => h.elim) ?_ rfl
  rintro _ _ ⟨rfl, rfl⟩
  refine z_v1 ?_
  refine z_iconst C dX6_late_6 (rfl : 6 + 1 = 7) ?_
  refine z_iconst C dX6_late_7 (rfl : 7 + 1 = 8) ?_
  by_cases hP : 0 ≤ z ∧ z < t
  · rw [b01_t hP]
    obtain ⟨i, rfl⟩ : ∃ i : Nat, z = (i : Int) := ⟨z.toNat, by omega⟩
    have hi : i < t := by omega
    refine z_callV C 0 0 c_goes_ok gX6_late_X6_goes rfl hd42_X6_goes ⟨Nat.le_of_ble_eq_true rfl, Nat.le_of_ble_eq_true rfl⟩ xmm rfl rfl (Nat.le_of_ble_eq_true rfl) dX6_late_8 (rfl : 8 + 3 = 11) rfl rfl ⟨Nat.le_of_ble_eq_true rfl, Nat.le_of_ble_eq_true rfl⟩ (fun _ _ h => h.elim) ?_ rfl
    rintro _ _ ⟨rfl, rfl⟩
    refine z_v1 ?_
    refine z_if_eq (pt := 40) C dX6_late_11 (by decide) (rfl : 11 + 3 = 14) (iI_eq0 (by omega)).1 (fun q => mt (iI_eq0 (by omega)).2 q) (fun c1 => ?_) (fun c1 => ?_)
    · exact absurd c1 (by omega)
    have hn := hw.2.1
    have tc := hw.2.2.2.2.2.2.2.2.2.2.1 i (by omega)
    have hl := hw.2.2.2.2.2.2.2.2.2.1 i hi
    have hd := hw.2.2.2.2.2.2.2.2.2.2.2
    refine z_aload_n C 0 rfl rfl dX6_late_14 (rfl : 14 + 1 = 15) ?_
    refine z_get C xmm rfl iX6_late_X6 20 (by decide) lX6_late_f63 rfl rfl dX6_late_15 (rfl : 15 + 3 = 18) ?_
    refine z_iload_n C 1 rfl rfl dX6_late_18 (rfl : 18 + 1 = 19) ?_
    refine z_zald (x := iI (V 20 (i))) C xmm_20 ⟨by omega, by omega⟩ (by omega) rfl dX6_late_19 (rfl : 19 + 1 = 20) ?_
    refine z_if_eq (pt := 32) C dX6_late_20 (by decide) (rfl : 20 + 3 = 23) (iI_eq0 (by omega)).1 (fun q => mt (iI_eq0 (by omega)).2 q) (fun c2 => ?_) (fun c2 => ?_)
    · refine z_aload_n C 0 rfl rfl dX6_late_32 (rfl : 32 + 1 = 33) ?_
      refine z_iload_n C 1 rfl rfl dX6_late_33 (rfl : 33 + 1 = 34) ?_
      refine z_callV C 0 0 (c_X6_lateNow (V := up2 V 25 0 0) (c := i) (by omega) (by show 0 ≤ V 9 0 ∧ V 9 0 ≤ 10000; omega) (by show 0 ≤ V 17 i ∧ V 17 i ≤ 10000; omega)) gX6_late_X6_lateNow rfl hd42_X6_lateNow ⟨Nat.le_of_ble_eq_true rfl, Nat.le_of_ble_eq_true rfl⟩ xmm rfl rfl (Nat.le_of_ble_eq_true rfl) dX6_late_34 (rfl : 34 + 3 = 37) rfl rfl ⟨Nat.le_of_ble_eq_true rfl, Nat.le_of_ble_eq_true rfl⟩ (fun _ _ h => h.elim) ?_ rfl
      rintro _ _ ⟨rfl, rfl⟩
      refine z_v1 ?_
      refine z_goto (pc' := 41) C dX6_late_37 (by decide) ?_
      exact z_iret C rfl dX6_late_41 (.inl ⟨hP, by rw [if_neg (by show ¬ V 20 i = 1; omega)]; rfl, rfl⟩) (by decide) (by decide)
    · refine z_aload_n C 0 rfl rfl dX6_late_23 (rfl : 23 + 1 = 24) ?_
      refine z_get C xmm rfl iX6_late_X6 19 (by decide) lX6_late_f60 rfl rfl dX6_late_24 (rfl : 24 + 3 = 27) ?_
      refine z_iload_n C 1 rfl rfl dX6_late_27 (rfl : 27 + 1 = 28) ?_
      refine z_iald (x := iI (V 19 (i))) C xmm_19 ⟨by omega, by omega⟩ (by omega) rfl dX6_late_28 (rfl : 28 + 1 = 29) ?_
      refine z_goto (pc' := 41) C dX6_late_29 (by decide) ?_
      exact z_iret C rfl dX6_late_41 (.inl ⟨hP, by rw [if_pos (by show V 20 i = 1; omega)]; rfl, rfl⟩) (by decide) (by decide)
  · rw [b01_f hP]
    refine z_callV C 0 0 (c_goes_1 (.inr rfl) (.inr rfl)) gX6_late_X6_goes rfl hd42_X6_goes ⟨Nat.le_of_ble_eq_true rfl, Nat.le_of_ble_eq_true rfl⟩ xmm rfl rfl (Nat.le_of_ble_eq_true rfl) dX6_late_8 (rfl : 8 + 3 = 11) rfl rfl ⟨Nat.le_of_ble_eq_true rfl, Nat.le_of_ble_eq_true rfl⟩ (fun _ _ h => h.elim) ?_ rfl
    rintro _ _ ⟨rfl, rfl⟩
    refine z_v1 ?_
    refine z_if_eq (pt := 40) C dX6_late_11 (by decide) (rfl : 11 + 3 = 14) (iI_eq0 (by omega)).1 (fun q => mt (iI_eq0 (by omega)).2 q) (fun c1 => ?_) (fun c1 => ?_)
    rotate_left
    · exact absurd rfl c1
    refine z_iconst C dX6_late_40 (rfl : 40 + 1 = 41) ?_
    exact z_iret C rfl dX6_late_41 (.inr ⟨hP, rfl, rfl⟩) (by decide) (by decide)
abbrev rmX6_day : Room := { frames := 0, cells := 0, slots := 0, locals := 0 }
theorem c_X6_day : MC l yX6_day wsX6_day rmX6_day G base [.ref (q 30)] (xm G q V ++ Y) (fun v w => v = some (.int (iI (V 9 0))) ∧ w = xm G q (up2 V 25 0 0) ++ Y) (fun _ _ => False) := by
  refine MC.of (cc := cX6_day) (by decide) rfl rfl (Nat.le_of_ble_eq_true rfl) ?_
  intro κ C hT hl hnm
  refine z_aload_n C 0 rfl rfl dX6_day_0 (rfl : 0 + 1 = 1) ?_
  refine z_iconst C dX6_day_1 (rfl : 1 + 1 = 2) ?_
  refine z_put C tyX6 tyX6_ok nmX6 xmm rfl iX6_day_X6 25 (by decide) lX6_day_f75 rfl rfl rfl rfl rfl (Nat.le_of_ble_eq_true rfl) dX6_day_2 (rfl : 2 + 3 = 5) xms_25 ?_
  refine z_aload_n C 0 rfl rfl dX6_day_5 (rfl : 5 + 1 = 6) ?_
  refine z_get C xmm rfl iX6_day_X6 9 (by decide) lX6_day_f111 rfl rfl dX6_day_6 (rfl : 6 + 3 = 9) ?_
  exact z_iret C rfl dX6_day_9 ⟨rfl, rfl⟩ (by decide) (by decide)
abbrev rmX6_copies : Room := { frames := 0, cells := 0, slots := 0, locals := 0 }
theorem c_X6_copies : MC l yX6_copies wsX6_copies rmX6_copies G base [.ref (q 30)] (xm G q V ++ Y) (fun v w => v = some (.int (iI (V 5 0))) ∧ w = xm G q (up2 V 25 0 0) ++ Y) (fun _ _ => False) := by
  refine MC.of (cc := cX6_copies) (by decide) rfl rfl (Nat.le_of_ble_eq_true rfl) ?_
  intro κ C hT hl hnm
  refine z_aload_n C 0 rfl rfl dX6_copies_0 (rfl : 0 + 1 = 1) ?_
  refine z_iconst C dX6_copies_1 (rfl : 1 + 1 = 2) ?_
  refine z_put C tyX6 tyX6_ok nmX6 xmm rfl iX6_copies_X6 25 (by decide) lX6_copies_f75 rfl rfl rfl rfl rfl (Nat.le_of_ble_eq_true rfl) dX6_copies_2 (rfl : 2 + 3 = 5) xms_25 ?_
  refine z_aload_n C 0 rfl rfl dX6_copies_5 (rfl : 5 + 1 = 6) ?_
  refine z_get C xmm rfl iX6_copies_X6 5 (by decide) lX6_copies_f26 rfl rfl dX6_copies_6 (rfl : 6 + 3 = 9) ?_
  exact z_iret C rfl dX6_copies_9 ⟨rfl, rfl⟩ (by decide) (by decide)
abbrev rmX6_letters : Room := { frames := 0, cells := 0, slots := 0, locals := 0 }
theorem c_X6_letters : MC l yX6_letters wsX6_letters rmX6_letters G base [.ref (q 30)] (xm G q V ++ Y) (fun v w => v = some (.int (iI (V 14 0))) ∧ w = xm G q (up2 V 25 0 0) ++ Y) (fun _ _ => False) := by
  refine MC.of (cc := cX6_letters) (by decide) rfl rfl (Nat.le_of_ble_eq_true rfl) ?_
  intro κ C hT hl hnm
  refine z_aload_n C 0 rfl rfl dX6_letters_0 (rfl : 0 + 1 = 1) ?_
  refine z_iconst C dX6_letters_1 (rfl : 1 + 1 = 2) ?_
  refine z_put C tyX6 tyX6_ok nmX6 xmm rfl iX6_letters_X6 25 (by decide) lX6_letters_f75 rfl rfl rfl rfl rfl (Nat.le_of_ble_eq_true rfl) dX6_letters_2 (rfl : 2 + 3 = 5) xms_25 ?_
  refine z_aload_n C 0 rfl rfl dX6_letters_5 (rfl : 5 + 1 = 6) ?_
  refine z_get C xmm rfl iX6_letters_X6 14 (by decide) lX6_letters_f82 rfl rfl dX6_letters_6 (rfl : 6 + 3 = 9) ?_
  exact z_iret C rfl dX6_letters_9 ⟨rfl, rfl⟩ (by decide) (by decide)
abbrev rmX6_loans : Room := { frames := 0, cells := 0, slots := 0, locals := 0 }
theorem c_X6_loans : MC l yX6_loans wsX6_loans rmX6_loans G base [.ref (q 30)] (xm G q V ++ Y) (fun v w => v = some (.int (iI (V 21 0))) ∧ w = xm G q (up2 V 25 0 0) ++ Y) (fun _ _ => False) := by
  refine MC.of (cc := cX6_loans) (by decide) rfl rfl (Nat.le_of_ble_eq_true rfl) ?_
  intro κ C hT hl hnm
  refine z_aload_n C 0 rfl rfl dX6_loans_0 (rfl : 0 + 1 = 1) ?_
  refine z_iconst C dX6_loans_1 (rfl : 1 + 1 = 2) ?_
  refine z_put C tyX6 tyX6_ok nmX6 xmm rfl iX6_loans_X6 25 (by decide) lX6_loans_f75 rfl rfl rfl rfl rfl (Nat.le_of_ble_eq_true rfl) dX6_loans_2 (rfl : 2 + 3 = 5) xms_25 ?_
  refine z_aload_n C 0 rfl rfl dX6_loans_5 (rfl : 5 + 1 = 6) ?_
  refine z_get C xmm rfl iX6_loans_X6 21 (by decide) lX6_loans_f85 rfl rfl dX6_loans_6 (rfl : 6 + 3 = 9) ?_
  exact z_iret C rfl dX6_loans_9 ⟨rfl, rfl⟩ (by decide) (by decide)
end
