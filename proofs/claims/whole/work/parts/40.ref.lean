theorem lX6_thrown_f75 : Cond.fieldLink RX6 75 "ModelCopiesModel" "last" "I" ∈ wsX6_thrown := by decide +kernel
theorem iX6_thrown_X6 : ∀ w ∈ wsX60, w ∈ wsX6_thrown := by decide +kernel
theorem lX6_goes_f75 : Cond.fieldLink RX6 75 "ModelCopiesModel" "last" "I" ∈ wsX6_goes := by decide +kernel
theorem iX6_goes_X6 : ∀ w ∈ wsX60, w ∈ wsX6_goes := by decide +kernel
theorem hd40_X6_in : yX6_in.cls ≠ "java/lang/invoke/MethodHandle" ∧ yX6_in.cls ≠ "java/lang/invoke/VarHandle" ∧ (parseMethodDescriptor yX6_in.desc).map (fun d => d.parameters.length) = some 3 := by decide +kernel
theorem lX6_isCopy_f26 : Cond.fieldLink RX6 26 "ModelCopiesModel" "copies" "I" ∈ wsX6_isCopy := by decide +kernel
theorem iX6_isCopy_X6 : ∀ w ∈ wsX60, w ∈ wsX6_isCopy := by decide +kernel
theorem lX6_isLetter_f82 : Cond.fieldLink RX6 82 "ModelCopiesModel" "letters" "I" ∈ wsX6_isLetter := by decide +kernel
theorem iX6_isLetter_X6 : ∀ w ∈ wsX60, w ∈ wsX6_isLetter := by decide +kernel
theorem lX6_isLoan_f85 : Cond.fieldLink RX6 85 "ModelCopiesModel" "loans" "I" ∈ wsX6_isLoan := by decide +kernel
theorem iX6_isLoan_X6 : ∀ w ∈ wsX60, w ∈ wsX6_isLoan := by decide +kernel
section
variable {κ : KxT} {G : GG} {base mc ms : Nat} {post : Option Value → va_W → Prop} {exc : String → va_W → Prop} {q : Nat → Nat} {V : Nat → Nat → Int} {Y : va_W} {l : Launch}
abbrev rmX6_thrown : Room := { frames := 0, cells := 0, slots := 0, locals := 0 }
theorem c_X6_thrown : MC l yX6_thrown wsX6_thrown rmX6_thrown G base [.ref (q 30)] (xm G q V ++ Y) (fun v w => v = some (.int (iI (V 25 0))) ∧ w = (xm G q V ++ Y)) (fun _ _ => False) := by
  refine MC.of (cc := cX6_thrown) (by decide) rfl rfl (Nat.le_of_ble_eq_true rfl) ?_
  intro κ C hT hl hnm
  refine z_aload_n C 0 rfl rfl dX6_thrown_0 (rfl : 0 + 1 = 1) ?_
  refine z_get C xmm rfl iX6_thrown_X6 25 (by decide) lX6_thrown_f75 rfl rfl dX6_thrown_1 (rfl : 1 + 3 = 4) ?_
  exact z_iret C rfl dX6_thrown_4 ⟨rfl, rfl⟩ (by decide) (by decide)
abbrev rmX6_in : Room := { frames := 0, cells := 0, slots := 0, locals := 0 }
theorem c_X6_in {a b c : Int} {ws : va_W} (ha : -2147483648 ≤ a ∧ a < 2147483648) (hb : -2147483648 ≤ b ∧ b < 2147483648) (hc : -2147483648 ≤ c ∧ c < 2147483648) : MC l yX6_in wsX6_in rmX6_in G base [.int (iI a), .int (iI b), .int (iI c)] ws (fun v w => v = some (.int (iI (b01 (b ≤ a ∧ a ≤ c)))) ∧ w = ws) (fun _ _ => False) := by
  refine MC.of (cc := cX6_in) (by decide) rfl rfl (Nat.le_of_ble_eq_true rfl) ?_
  intro κ C hT hl hnm
  refine z_sub [0, 1, 2] (lv' := [(0, .int (iI a)), (1, .int (iI b)), (2, .int (iI c))]) rfl ?_
  refine z_iload_n C 0 rfl rfl dX6_in_0 (rfl : 0 + 1 = 1) ?_
  refine z_iload_n C 1 rfl rfl dX6_in_1 (rfl : 1 + 1 = 2) ?_
  refine z_icmp_lt (pt := 14) C dX6_in_2 (by decide) (rfl : 2 + 3 = 5) (iI_lt (by omega) (by omega)).1 (fun q => mt (iI_lt (by omega) (by omega)).2 q) (fun c1 => ?_) (fun c1 => ?_)
  · refine z_iconst C dX6_in_14 (rfl : 14 + 1 = 15) ?_
    exact z_zret C rfl (.inl rfl) dX6_in_15 ⟨by rw [b01_f (by omega)], rfl⟩ (by decide) (by decide)
  refine z_iload_n C 0 rfl rfl dX6_in_5 (rfl : 5 + 1 = 6) ?_
  refine z_iload_n C 2 rfl rfl dX6_in_6 (rfl : 6 + 1 = 7) ?_
  refine z_icmp_gt (pt := 14) C dX6_in_7 (by decide) (rfl : 7 + 3 = 10) (iI_lt (by omega) (by omega)).1 (fun q => mt (iI_lt (by omega) (by omega)).2 q) (fun c2 => ?_) (fun c2 => ?_)
  · refine z_iconst C dX6_in_14 (rfl : 14 + 1 = 15) ?_
    exact z_zret C rfl (.inl rfl) dX6_in_15 ⟨by rw [b01_f (by omega)], rfl⟩ (by decide) (by decide)
  · refine z_iconst C dX6_in_10 (rfl : 10 + 1 = 11) ?_
    refine z_goto (pc' := 15) C dX6_in_11 (by decide) ?_
    exact z_zret C rfl (.inr rfl) dX6_in_15 ⟨by rw [b01_t (by omega)], rfl⟩ (by decide) (by decide)
abbrev rmX6_goes : Room := { frames := 0, cells := 0, slots := 0, locals := 0 }
theorem tl_X6_goes (C : Cx κ cX6_goes 4 wsX6_goes RX6 (some .boolean) rmX6_goes G base) {a b c k : Int} (hk : 0 ≤ k ∧ k ≤ 3) (hp : post (some (.int (iI (b01 (k = 0))))) (xm G q (up2 V 25 0 k) ++ Y)) : Z κ 4 G base mc ms post exc 0 0 26 [(0, .ref (q 30)), (1, .int (iI a)), (2, .int (iI b)), (3, .int (iI c))] [.int (iI k), .ref (q 30)] (xm G q V ++ Y) := by
  refine z_put C tyX6 tyX6_ok nmX6 xmm rfl iX6_goes_X6 25 (by decide) lX6_goes_f75 rfl rfl rfl rfl rfl (Nat.le_of_ble_eq_true rfl) dX6_goes_26 (rfl : 26 + 3 = 29) xms_25 ?_
  refine z_aload_n C 0 rfl rfl dX6_goes_29 (rfl : 29 + 1 = 30) ?_
  refine z_get C xmm rfl iX6_goes_X6 25 (by decide) lX6_goes_f75 rfl rfl dX6_goes_30 (rfl : 30 + 3 = 33) ?_
  rw [up2_at]
  refine z_if_ne (pt := 40) C dX6_goes_33 (by decide) (rfl : 33 + 3 = 36) (fun q => mt (iI_eq0 (by omega)).2 q) (iI_eq0 (by omega)).1 (fun c1 => ?_) (fun c1 => ?_)
  · refine z_iconst C dX6_goes_40 (rfl : 40 + 1 = 41) ?_
    exact z_zret C rfl (.inl rfl) dX6_goes_41 (by rw [b01_f c1] at hp; exact hp) (Nat.zero_le _) (Nat.zero_le _)
  · refine z_iconst C dX6_goes_36 (rfl : 36 + 1 = 37) ?_
    refine z_goto (pc' := 41) C dX6_goes_37 (by decide) ?_
    exact z_zret C rfl (.inr rfl) dX6_goes_41 (by rw [b01_t c1] at hp; exact hp) (Nat.zero_le _) (Nat.zero_le _)
theorem c_X6_goes {a b c : Int} (ha : a = 0 ∨ a = 1) (hb : b = 0 ∨ b = 1) (hc : c = 0 ∨ c = 1) : MC l yX6_goes wsX6_goes rmX6_goes G base [.ref (q 30), .int (iI a), .int (iI b), .int (iI c)] (xm G q V ++ Y) (fun v w => v = some (.int (iI (b01 (goC a b c = 0)))) ∧ w = xm G q (up2 V 25 0 (goC a b c)) ++ Y) (fun _ _ => False) := by
  refine MC.of (cc := cX6_goes) (by decide) rfl rfl (Nat.le_of_ble_eq_true rfl) ?_
  intro κ C hT hl hnm
  refine z_sub [0, 1, 2, 3] (lv' := [(0, .ref (q 30)), (1, .int (iI a)), (2, .int (iI b)), (3, .int (iI c))]) rfl ?_
  refine z_aload_n C 0 rfl rfl dX6_goes_0 (rfl : 0 + 1 = 1) ?_
  refine z_iload_n C 1 rfl rfl dX6_goes_1 (rfl : 1 + 1 = 2) ?_
  refine z_if_ne (pt := 9) C dX6_goes_2 (by decide) (rfl : 2 + 3 = 5) (fun q => mt (iI_eq0 (by omega)).2 q) (iI_eq0 (by omega)).1 (fun c1 => ?_) (fun c1 => ?_)
  rotate_left
  · refine z_iconst C dX6_goes_5 (rfl : 5 + 1 = 6) ?_
    refine z_goto (pc' := 26) C dX6_goes_6 (by decide) ?_
    exact tl_X6_goes C (by omega) (by simp [goC, c1])
  refine z_iload_n C 2 rfl rfl dX6_goes_9 (rfl : 9 + 1 = 10) ?_
  refine z_if_ne (pt := 17) C dX6_goes_10 (by decide) (rfl : 10 + 3 = 13) (fun q => mt (iI_eq0 (by omega)).2 q) (iI_eq0 (by omega)).1 (fun c2 => ?_) (fun c2 => ?_)
  rotate_left
  · refine z_iconst C dX6_goes_13 (rfl : 13 + 1 = 14) ?_
    refine z_goto (pc' := 26) C dX6_goes_14 (by decide) ?_
    exact tl_X6_goes C (by omega) (by simp [goC, c1, c2])
  refine z_iload_n C 3 rfl rfl dX6_goes_17 (rfl : 17 + 1 = 18) ?_
  refine z_if_eq (pt := 25) C dX6_goes_18 (by decide) (rfl : 18 + 3 = 21) (iI_eq0 (by omega)).1 (fun q => mt (iI_eq0 (by omega)).2 q) (fun c3 => ?_) (fun c3 => ?_)
  · refine z_iconst C dX6_goes_25 (rfl : 25 + 1 = 26) ?_
    exact tl_X6_goes C (by omega) (by simp [goC, c1, c2, c3])
  · refine z_iconst C dX6_goes_21 (rfl : 21 + 1 = 22) ?_
    refine z_goto (pc' := 26) C dX6_goes_22 (by decide) ?_
    exact tl_X6_goes C (by omega) (by simp [goC, c1, c2, c3])
abbrev rmX6_isPlace : Room := { frames := 1, cells := 0, slots := 0, locals := 22 }
theorem c_X6_isPlace {a : Int} {ws : va_W} (ha : -2147483648 ≤ a ∧ a < 2147483648) : MC l yX6_isPlace wsX6_isPlace rmX6_isPlace G base [.int (iI a)] ws (fun v w => v = some (.int (iI (b01 (0 ≤ a ∧ a < 24)))) ∧ w = ws) (fun _ _ => False) := by
  refine MC.of (cc := cX6_isPlace) (by decide) rfl rfl (Nat.le_of_ble_eq_true rfl) ?_
  intro κ C hT hl hnm
  refine z_iload_n C 0 rfl rfl dX6_isPlace_0 (rfl : 0 + 1 = 1) ?_
  refine z_iconst C dX6_isPlace_1 (rfl : 1 + 1 = 2) ?_
  refine z_bipush (c := 23) C (by decide) dX6_isPlace_2 (rfl : 2 + 2 = 4) ?_
  refine z_callS C 0 0 (c_X6_in ha (by omega) (by omega)) gX6_isPlace_X6_in rfl hd40_X6_in ⟨Nat.le_of_ble_eq_true rfl, Nat.le_of_ble_eq_true rfl⟩ rfl (Nat.le_of_ble_eq_true rfl) dX6_isPlace_4 (rfl : 4 + 3 = 7) rfl rfl ⟨Nat.le_of_ble_eq_true rfl, Nat.le_of_ble_eq_true rfl⟩ (fun _ _ h => h.elim) ?_ rfl
  rintro _ _ ⟨rfl, rfl⟩
  refine z_v1 ?_
  exact z_zret C rfl (b01_01 _) dX6_isPlace_7 ⟨by unfold b01; congr 4; simp only [eq_iff_iff]; omega, rfl⟩ (by decide) (by decide)
abbrev rmX6_isHouse : Room := { frames := 1, cells := 0, slots := 0, locals := 22 }
theorem c_X6_isHouse {a : Int} {ws : va_W} (ha : -2147483648 ≤ a ∧ a < 2147483648) : MC l yX6_isHouse wsX6_isHouse rmX6_isHouse G base [.int (iI a)] ws (fun v w => v = some (.int (iI (b01 (0 ≤ a ∧ a < 5)))) ∧ w = ws) (fun _ _ => False) := by
  refine MC.of (cc := cX6_isHouse) (by decide) rfl rfl (Nat.le_of_ble_eq_true rfl) ?_
  intro κ C hT hl hnm
  refine z_iload_n C 0 rfl rfl dX6_isHouse_0 (rfl : 0 + 1 = 1) ?_
  refine z_iconst C dX6_isHouse_1 (rfl : 1 + 1 = 2) ?_
  refine z_iconst C dX6_isHouse_2 (rfl : 2 + 1 = 3) ?_
  refine z_callS C 0 0 (c_X6_in ha (by omega) (by omega)) gX6_isHouse_X6_in rfl hd40_X6_in ⟨Nat.le_of_ble_eq_true rfl, Nat.le_of_ble_eq_true rfl⟩ rfl (Nat.le_of_ble_eq_true rfl) dX6_isHouse_3 (rfl : 3 + 3 = 6) rfl rfl ⟨Nat.le_of_ble_eq_true rfl, Nat.le_of_ble_eq_true rfl⟩ (fun _ _ h => h.elim) ?_ rfl
  rintro _ _ ⟨rfl, rfl⟩
  refine z_v1 ?_
  exact z_zret C rfl (b01_01 _) dX6_isHouse_6 ⟨by unfold b01; congr 4; simp only [eq_iff_iff]; omega, rfl⟩ (by decide) (by decide)
abbrev rmX6_isScribe : Room := { frames := 1, cells := 0, slots := 0, locals := 22 }
theorem c_X6_isScribe {a : Int} {ws : va_W} (ha : -2147483648 ≤ a ∧ a < 2147483648) : MC l yX6_isScribe wsX6_isScribe rmX6_isScribe G base [.int (iI a)] ws (fun v w => v = some (.int (iI (b01 (0 ≤ a ∧ a < 6)))) ∧ w = ws) (fun _ _ => False) := by
  refine MC.of (cc := cX6_isScribe) (by decide) rfl rfl (Nat.le_of_ble_eq_true rfl) ?_
  intro κ C hT hl hnm
  refine z_iload_n C 0 rfl rfl dX6_isScribe_0 (rfl : 0 + 1 = 1) ?_
  refine z_iconst C dX6_isScribe_1 (rfl : 1 + 1 = 2) ?_
  refine z_iconst C dX6_isScribe_2 (rfl : 2 + 1 = 3) ?_
  refine z_callS C 0 0 (c_X6_in ha (by omega) (by omega)) gX6_isScribe_X6_in rfl hd40_X6_in ⟨Nat.le_of_ble_eq_true rfl, Nat.le_of_ble_eq_true rfl⟩ rfl (Nat.le_of_ble_eq_true rfl) dX6_isScribe_3 (rfl : 3 + 3 = 6) rfl rfl ⟨Nat.le_of_ble_eq_true rfl, Nat.le_of_ble_eq_true rfl⟩ (fun _ _ h => h.elim) ?_ rfl
  rintro _ _ ⟨rfl, rfl⟩
  refine z_v1 ?_
  exact z_zret C rfl (b01_01 _) dX6_isScribe_6 ⟨by unfold b01; congr 4; simp only [eq_iff_iff]; omega, rfl⟩ (by decide) (by decide)
abbrev rmX6_isCopy : Room := { frames := 1, cells := 0, slots := 0, locals := 24 }
theorem c_X6_isCopy {a : Int} {n : Nat} (ha : -2147483648 ≤ a ∧ a < 2147483648) (hn : V 5 0 = (n : Int)) (hb : n ≤ 1000) : MC l yX6_isCopy wsX6_isCopy rmX6_isCopy G base [.ref (q 30), .int (iI a)] (xm G q V ++ Y) (fun v w => v = some (.int (iI (b01 (0 ≤ a ∧ a < n)))) ∧ w = (xm G q V ++ Y)) (fun _ _ => False) := by
  refine MC.of (cc := cX6_isCopy) (by decide) rfl rfl (Nat.le_of_ble_eq_true rfl) ?_
  intro κ C hT hl hnm
  refine z_sub [0, 1] (lv' := [(0, .ref (q 30)), (1, .int (iI a))]) rfl ?_
  refine z_iload_n C 1 rfl rfl dX6_isCopy_0 (rfl : 0 + 1 = 1) ?_
  refine z_iconst C dX6_isCopy_1 (rfl : 1 + 1 = 2) ?_
  refine z_aload_n C 0 rfl rfl dX6_isCopy_2 (rfl : 2 + 1 = 3) ?_
  refine z_get C xmm rfl iX6_isCopy_X6 5 (by decide) lX6_isCopy_f26 rfl rfl dX6_isCopy_3 (rfl : 3 + 3 = 6) ?_
  rw [hn]
  refine z_iconst C dX6_isCopy_6 (rfl : 6 + 1 = 7) ?_
  refine z_isub C dX6_isCopy_7 (rfl : 7 + 1 = 8) rfl ?_
  refine z_callS C 0 0 (c_X6_in ha (by omega) (by omega)) gX6_isCopy_X6_in rfl hd40_X6_in ⟨Nat.le_of_ble_eq_true rfl, Nat.le_of_ble_eq_true rfl⟩ rfl (Nat.le_of_ble_eq_true rfl) dX6_isCopy_8 (rfl : 8 + 3 = 11) rfl rfl ⟨Nat.le_of_ble_eq_true rfl, Nat.le_of_ble_eq_true rfl⟩ (fun _ _ h => h.elim) ?_ rfl
  rintro _ _ ⟨rfl, rfl⟩
  refine z_v1 ?_
  exact z_zret C rfl (b01_01 _) dX6_isCopy_11 ⟨by unfold b01; congr 4; simp only [eq_iff_iff]; omega, rfl⟩ (by decide) (by decide)
abbrev rmX6_isLetter : Room := { frames := 1, cells := 0, slots := 0, locals := 24 }
theorem c_X6_isLetter {a : Int} {n : Nat} (ha : -2147483648 ≤ a ∧ a < 2147483648) (hn : V 14 0 = (n : Int)) (hb : n ≤ 1000) : MC l yX6_isLetter wsX6_isLetter rmX6_isLetter G base [.ref (q 30), .int (iI a)] (xm G q V ++ Y) (fun v w => v = some (.int (iI (b01 (0 ≤ a ∧ a < n)))) ∧ w = (xm G q V ++ Y)) (fun _ _ => False) := by
  refine MC.of (cc := cX6_isLetter) (by decide) rfl rfl (Nat.le_of_ble_eq_true rfl) ?_
  intro κ C hT hl hnm
  refine z_sub [0, 1] (lv' := [(0, .ref (q 30)), (1, .int (iI a))]) rfl ?_
  refine z_iload_n C 1 rfl rfl dX6_isLetter_0 (rfl : 0 + 1 = 1) ?_
  refine z_iconst C dX6_isLetter_1 (rfl : 1 + 1 = 2) ?_
  refine z_aload_n C 0 rfl rfl dX6_isLetter_2 (rfl : 2 + 1 = 3) ?_
  refine z_get C xmm rfl iX6_isLetter_X6 14 (by decide) lX6_isLetter_f82 rfl rfl dX6_isLetter_3 (rfl : 3 + 3 = 6) ?_
  rw [hn]
  refine z_iconst C dX6_isLetter_6 (rfl : 6 + 1 = 7) ?_
  refine z_isub C dX6_isLetter_7 (rfl : 7 + 1 = 8) rfl ?_
  refine z_callS C 0 0 (c_X6_in ha (by omega) (by omega)) gX6_isLetter_X6_in rfl hd40_X6_in ⟨Nat.le_of_ble_eq_true rfl, Nat.le_of_ble_eq_true rfl⟩ rfl (Nat.le_of_ble_eq_true rfl) dX6_isLetter_8 (rfl : 8 + 3 = 11) rfl rfl ⟨Nat.le_of_ble_eq_true rfl, Nat.le_of_ble_eq_true rfl⟩ (fun _ _ h => h.elim) ?_ rfl
  rintro _ _ ⟨rfl, rfl⟩
  refine z_v1 ?_
  exact z_zret C rfl (b01_01 _) dX6_isLetter_11 ⟨by unfold b01; congr 4; simp only [eq_iff_iff]; omega, rfl⟩ (by decide) (by decide)
abbrev rmX6_isLoan : Room := { frames := 1, cells := 0, slots := 0, locals := 24 }
theorem c_X6_isLoan {a : Int} {n : Nat} (ha : -2147483648 ≤ a ∧ a < 2147483648) (hn : V 21 0 = (n : Int)) (hb : n ≤ 1000) : MC l yX6_isLoan wsX6_isLoan rmX6_isLoan G base [.ref (q 30), .int (iI a)] (xm G q V ++ Y) (fun v w => v = some (.int (iI (b01 (0 ≤ a ∧ a < n)))) ∧ w = (xm G q V ++ Y)) (fun _ _ => False) := by
  refine MC.of (cc := cX6_isLoan) (by decide) rfl rfl (Nat.le_of_ble_eq_true rfl) ?_
  intro κ C hT hl hnm
  refine z_sub [0, 1] (lv' := [(0, .ref (q 30)), (1, .int (iI a))]) rfl ?_
  refine z_iload_n C 1 rfl rfl dX6_isLoan_0 (rfl : 0 + 1 = 1) ?_
  refine z_iconst C dX6_isLoan_1 (rfl : 1 + 1 = 2) ?_
  refine z_aload_n C 0 rfl rfl dX6_isLoan_2 (rfl : 2 + 1 = 3) ?_
  refine z_get C xmm rfl iX6_isLoan_X6 21 (by decide) lX6_isLoan_f85 rfl rfl dX6_isLoan_3 (rfl : 3 + 3 = 6) ?_
  rw [hn]
  refine z_iconst C dX6_isLoan_6 (rfl : 6 + 1 = 7) ?_
  refine z_isub C dX6_isLoan_7 (rfl : 7 + 1 = 8) rfl ?_
  refine z_callS C 0 0 (c_X6_in ha (by omega) (by omega)) gX6_isLoan_X6_in rfl hd40_X6_in ⟨Nat.le_of_ble_eq_true rfl, Nat.le_of_ble_eq_true rfl⟩ rfl (Nat.le_of_ble_eq_true rfl) dX6_isLoan_8 (rfl : 8 + 3 = 11) rfl rfl ⟨Nat.le_of_ble_eq_true rfl, Nat.le_of_ble_eq_true rfl⟩ (fun _ _ h => h.elim) ?_ rfl
  rintro _ _ ⟨rfl, rfl⟩
  refine z_v1 ?_
  exact z_zret C rfl (b01_01 _) dX6_isLoan_11 ⟨by unfold b01; congr 4; simp only [eq_iff_iff]; omega, rfl⟩ (by decide) (by decide)
end
