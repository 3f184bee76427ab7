theorem lX2_holds_f9 : Cond.fieldLink RX2 9 "ModelCopies$House" "held" "[Z" ∈ wsX2_holds := by decide +kernel
theorem iX2_holds_X2 : ∀ w ∈ wsX20, w ∈ wsX2_holds := by decide +kernel
theorem lX2_take_f9 : Cond.fieldLink RX2 9 "ModelCopies$House" "held" "[Z" ∈ wsX2_take := by decide +kernel
theorem iX2_take_X2 : ∀ w ∈ wsX20, w ∈ wsX2_take := by decide +kernel
theorem hd22_X2_holds : yX2_holds.cls = RX2 ∧ yX2_holds.cls ≠ "java/lang/invoke/MethodHandle" ∧ yX2_holds.cls ≠ "java/lang/invoke/VarHandle" ∧ (parseMethodDescriptor yX2_holds.desc).map (fun d => d.parameters.length) = some 1 := by decide +kernel
theorem hd22_X2_take : yX2_take.cls = RX2 ∧ yX2_take.cls ≠ "java/lang/invoke/MethodHandle" ∧ yX2_take.cls ≠ "java/lang/invoke/VarHandle" ∧ (parseMethodDescriptor yX2_take.desc).map (fun d => d.parameters.length) = some 1 := by decide +kernel
theorem lX3_changes_f9 : Cond.fieldLink RX3 9 "ModelCopies$Letter" "place" "I" ∈ wsX3_changes := by decide +kernel
theorem iX3_changes_X3 : ∀ w ∈ wsX30, w ∈ wsX3_changes := by decide +kernel
theorem lX3_changes_f21 : Cond.fieldLink RX3 21 "ModelCopies$Copy" "readings" "[I" ∈ wsX3_changes := by decide +kernel
theorem iX3_changes_X0 : ∀ w ∈ wsX00, w ∈ wsX3_changes := by decide +kernel
theorem lX3_changes_f15 : Cond.fieldLink RX3 15 "ModelCopies$Letter" "was" "I" ∈ wsX3_changes := by decide +kernel
theorem lX3_changes_f18 : Cond.fieldLink RX3 18 "ModelCopies$Letter" "now" "I" ∈ wsX3_changes := by decide +kernel
theorem lX4_daysLateOn_f27 : Cond.fieldLink RX4 27 "ModelCopies$Loan" "lastDay" "I" ∈ wsX4_daysLateOn := by decide +kernel
theorem iX4_daysLateOn_X4 : ∀ w ∈ wsX40, w ∈ wsX4_daysLateOn := by decide +kernel
theorem lX4_daysLateOn_m33 : Cond.methodLink RX4 33 Lib.Math.max.name ∈ wsX4_daysLateOn := by decide +kernel
theorem stX4_daysLateOn_max : Cond.static Lib.Math.max.name ∈ wsX4_daysLateOn := by decide +kernel
theorem nX4_daysLateOn_Math : Cond.initialized "java/lang/Math" ∈ wsX4_daysLateOn := by decide +kernel
theorem cdX4_daysLateOn_max : Cond.code Lib.Math.max.name Lib.Math.max.code 2 (some .int) ∈ wsX4_daysLateOn := by decide +kernel
theorem hd22_X4_daysLateOn : yX4_daysLateOn.cls = RX4 ∧ yX4_daysLateOn.cls ≠ "java/lang/invoke/MethodHandle" ∧ yX4_daysLateOn.cls ≠ "java/lang/invoke/VarHandle" ∧ (parseMethodDescriptor yX4_daysLateOn.desc).map (fun d => d.parameters.length) = some 1 := by decide +kernel
theorem lX4_lostOn_f30 : Cond.fieldLink RX4 30 "ModelCopies$Loan" "pledge" "I" ∈ wsX4_lostOn := by decide +kernel
theorem iX4_lostOn_X4 : ∀ w ∈ wsX40, w ∈ wsX4_lostOn := by decide +kernel
section
variable {κ : KxT} {G : GG} {base mc ms : Nat} {post : Option Value → va_W → Prop} {exc : String → va_W → Prop} {X : va_W} {L : List Nat} {K : Nat → Nat} {I : Nat → Nat → Int} {F : Nat → Nat → Option Nat} {R : Nat → Nat → Int} {N : Nat → Nat} {O : Nat → Nat → Option Nat} {l : Launch}
abbrev rmX2_holds : Room := { frames := 0, cells := 0, slots := 0, locals := 0 }
theorem c_X2_holds {a r i : Nat} (ha : isH L K F N a r) (xr : rgB (R r) 60) (hi : i < 60) : MC l yX2_holds wsX2_holds rmX2_holds G base [.ref a, .int (iI (i : Int))] (pw G X L K I F R N O) (fun v w => v = some (.int (iI (R r i))) ∧ w = (pw G X L K I F R N O)) (fun _ _ => False) := by
  refine MC.of (cc := cX2_holds) (by decide) rfl rfl (Nat.le_of_ble_eq_true rfl) ?_
  intro κ C hT hl hnm
  have x1 := xr i hi
  obtain ⟨h1, h2, h3, h4, h5, h6⟩ := ha
  refine z_sub [0, 1] (lv' := [(0, .ref a), (1, .int (iI (i : Int)))]) rfl ?_
  refine z_iload_n C 1 rfl rfl dX2_holds_0 (rfl : 0 + 1 = 1) ?_
  refine z_if_lt (pt := 23) C dX2_holds_1 (by decide) (rfl : 1 + 3 = 4) (iI_lt0 (by omega)).1 (fun q => mt (iI_lt0 (by omega)).2 q) (fun c => ?_) (fun c => ?_)
  · exact absurd c (by omega)
  refine z_iload_n C 1 rfl rfl dX2_holds_4 (rfl : 4 + 1 = 5) ?_
  refine z_bipush (c := 60) C (by decide) dX2_holds_5 (rfl : 5 + 2 = 7) ?_
  refine z_icmp_ge (pt := 23) C dX2_holds_7 (by decide) (rfl : 7 + 3 = 10) (iI_le (by omega) (by omega)).1 (fun q => mt (iI_le (by omega) (by omega)).2 q) (fun c => ?_) (fun c => ?_)
  · exact absurd c (by omega)
  refine z_aload_n C 0 rfl rfl dX2_holds_10 (rfl : 10 + 1 = 11) ?_
  refine z_get C (pwm_House h1 h2) rfl iX2_holds_X2 1 (by decide) lX2_holds_f9 rfl rfl dX2_holds_11 (rfl : 11 + 3 = 14) ?_
  rw [h3]
  refine z_iload_n C 1 rfl rfl dX2_holds_14 (rfl : 14 + 1 = 15) ?_
  refine z_zald C (x := iI (R r i)) (pwm_Z h4 h5) ⟨by omega, by omega⟩ (by omega) rfl dX2_holds_15 (rfl : 15 + 1 = 16) ?_
  refine z_if_eq (pt := 23) C dX2_holds_16 (by decide) (rfl : 16 + 3 = 19) (iI_eq0 (by omega)).1 (fun q => mt (iI_eq0 (by omega)).2 q) (fun c => ?_) (fun c => ?_)
  · refine z_iconst C dX2_holds_23 (rfl : 23 + 1 = 24) ?_
    exact z_zret C rfl (.inl rfl) dX2_holds_24 ⟨by rw [c], rfl⟩ (Nat.le_refl _) (Nat.le_refl _)
  · refine z_iconst C dX2_holds_19 (rfl : 19 + 1 = 20) ?_
    refine z_goto (pc' := 24) C dX2_holds_20 (by decide) ?_
    exact z_zret C rfl (.inr rfl) dX2_holds_24 ⟨by rw [x1.resolve_left c], rfl⟩ (Nat.le_refl _) (Nat.le_refl _)
abbrev rmX2_take : Room := { frames := 0, cells := 0, slots := 0, locals := 0 }
theorem c_X2_take {a r i : Nat} (ha : isH L K F N a r) (hi : i < 60) : MC l yX2_take wsX2_take rmX2_take G base [.ref a, .int (iI (i : Int))] (pw G X L K I F R N O) (fun v w => v = none ∧ w = pw G X L K I F (up2 R r i 1) N O) (fun _ _ => False) := by
  refine MC.of (cc := cX2_take) (by decide) rfl rfl (Nat.le_of_ble_eq_true rfl) ?_
  intro κ C hT hl hnm
  obtain ⟨h1, h2, h3, h4, h5, h6⟩ := ha
  refine z_sub [0, 1] (lv' := [(0, .ref a), (1, .int (iI (i : Int)))]) rfl ?_
  refine z_iload_n C 1 rfl rfl dX2_take_0 (rfl : 0 + 1 = 1) ?_
  refine z_if_lt (pt := 17) C dX2_take_1 (by decide) (rfl : 1 + 3 = 4) (iI_lt0 (by omega)).1 (fun q => mt (iI_lt0 (by omega)).2 q) (fun c => ?_) (fun c => ?_)
  · exact absurd c (by omega)
  refine z_iload_n C 1 rfl rfl dX2_take_4 (rfl : 4 + 1 = 5) ?_
  refine z_bipush (c := 60) C (by decide) dX2_take_5 (rfl : 5 + 2 = 7) ?_
  refine z_icmp_ge (pt := 17) C dX2_take_7 (by decide) (rfl : 7 + 3 = 10) (iI_le (by omega) (by omega)).1 (fun q => mt (iI_le (by omega) (by omega)).2 q) (fun c => ?_) (fun c => ?_)
  · exact absurd c (by omega)
  refine z_aload_n C 0 rfl rfl dX2_take_10 (rfl : 10 + 1 = 11) ?_
  refine z_get C (pwm_House h1 h2) rfl iX2_take_X2 1 (by decide) lX2_take_f9 rfl rfl dX2_take_11 (rfl : 11 + 3 = 14) ?_
  rw [h3]
  refine z_iload_n C 1 rfl rfl dX2_take_14 (rfl : 14 + 1 = 15) ?_
  refine z_iconst C dX2_take_15 (rfl : 15 + 1 = 16) ?_
  refine z_zast C (pwm_Z h4 h5) ⟨by omega, by omega⟩ (by omega) (.inr rfl) dX2_take_16 (rfl : 16 + 1 = 17) (pwt_Z (i := i) h4 h5) ?_
  exact z_vret C rfl dX2_take_17 ⟨rfl, rfl⟩ (Nat.le_refl _) (Nat.le_refl _)
abbrev rmX2_takeLettersOf : Room := { frames := 1, cells := 0, slots := 0, locals := 21 }
theorem lp_X2_tlo (C : Cx κ cX2_takeLettersOf 3 wsX2_takeLettersOf RX2 none rmX2_takeLettersOf G base) {a b ra rb : Nat} (R0 : Nat → Nat → Int) (ha : isH L K F N a ra) (hb : isH L K F N b rb) (xb : rgB (R0 rb) 60)
    (hp : ∀ f : Nat → Int, (∀ k, k < 60 → f k = if R0 rb k = 1 then 1 else R0 ra k) → post none (pw G X L K I F (va_up R0 ra f) N O)) :
    ∀ (n i : Nat) (f : Nat → Int), i + n = 60 → (∀ k, k < i → f k = if R0 rb k = 1 then 1 else R0 ra k) → (∀ k, i ≤ k → f k = R0 ra k) → Z κ 3 G base mc ms post exc 0 0 2 [(2, .int (iI (i : Int))), (0, .ref a), (1, .ref b)] [] (pw G X L K I F (va_up R0 ra f) N O) := by
  intro n
  induction n with
  | zero =>
    intro i f hi hf hg
    refine z_iload_n C 0 rfl rfl dX2_takeLettersOf_2 (rfl : 2 + 1 = 3) ?_
    refine z_bipush (c := 60) C (by decide) dX2_takeLettersOf_3 (rfl : 3 + 2 = 5) ?_
    refine z_icmp_ge (pt := 27) C dX2_takeLettersOf_5 (by decide) (rfl : 5 + 3 = 8) (iI_le (by omega) (by omega)).1 (fun q => mt (iI_le (by omega) (by omega)).2 q) (fun c => ?_) (fun c => ?_)
    · exact z_vret C rfl dX2_takeLettersOf_27 (hp f (fun k hk => hf k (by omega))) (Nat.zero_le _) (Nat.zero_le _)
    · exact absurd c (by omega)
  | succ n ih =>
    intro i f hi hf hg
    have e : va_up R0 ra f rb i = R0 rb i := by
      simp only [va_up]
      split
      · rename_i h; rw [h]; exact hg i (Nat.le_refl _)
      · rfl
    have xb2 : rgB (va_up R0 ra f rb) 60 := fun k hk => by
      simp only [va_up]
      split
      · rename_i h
        by_cases hk2 : k < i
        · rw [hf k hk2]
          split
          · exact .inr rfl
          · rw [← h]; exact xb k hk
        · rw [hg k (by omega), ← h]; exact xb k hk
      · exact xb k hk
    refine z_iload_n C 0 rfl rfl dX2_takeLettersOf_2 (rfl : 2 + 1 = 3) ?_
    refine z_bipush (c := 60) C (by decide) dX2_takeLettersOf_3 (rfl : 3 + 2 = 5) ?_
    refine z_icmp_ge (pt := 27) C dX2_takeLettersOf_5 (by decide) (rfl : 5 + 3 = 8) (iI_le (by omega) (by omega)).1 (fun q => mt (iI_le (by omega) (by omega)).2 q) (fun c => ?_) (fun c => ?_)
    · exact absurd c (by omega)
    refine z_aload_n C 2 rfl rfl dX2_takeLettersOf_8 (rfl : 8 + 1 = 9) ?_
    refine z_iload_n C 0 rfl rfl dX2_takeLettersOf_9 (rfl : 9 + 1 = 10) ?_
    refine z_callV C 0 0 (c_X2_holds (i := i) hb xb2 (by omega)) gX2_takeLettersOf_X2_holds rfl hd22_X2_holds ⟨Nat.le_of_ble_eq_true rfl, Nat.le_of_ble_eq_true rfl⟩ (pwm_House hb.1 hb.2.1) rfl rfl (Nat.le_of_ble_eq_true rfl) dX2_takeLettersOf_10 (rfl : 10 + 3 = 13) rfl rfl ⟨Nat.le_of_ble_eq_true rfl, Nat.le_of_ble_eq_true rfl⟩ (fun _ _ h => h.elim) ?_ rfl
    rintro _ _ ⟨rfl, rfl⟩
    refine z_v1 ?_
    rw [e]
    have x1 := xb i (by omega)
    refine z_if_eq (pt := 21) C dX2_takeLettersOf_13 (by decide) (rfl : 13 + 3 = 16) (iI_eq0 (by omega)).1 (fun q => mt (iI_eq0 (by omega)).2 q) (fun c1 => ?_) (fun c1 => ?_)
    · refine z_iinc (lv' := [(2, _), (0, _), (1, _)]) C 0 dX2_takeLettersOf_21 (rfl : 21 + 3 = 24) rfl rfl (by decide) rfl ?_
      refine z_goto (pc' := 2) C dX2_takeLettersOf_24 (by decide) ?_
      refine z_sub [0, 1, 2] (lv' := [(2, .int (iI ((i + 1 : Nat) : Int))), (0, .ref a), (1, .ref b)]) rfl ?_
      refine ih (i + 1) f (by omega) (fun k hk => ?_) (fun k hk => hg k (by omega))
      by_cases hk2 : k = i
      · subst hk2
        rw [hg k (Nat.le_refl _), if_neg (by omega)]
      · exact hf k (by omega)
    · have c2 : R0 rb i = 1 := x1.resolve_left c1
      refine z_aload_n C 1 rfl rfl dX2_takeLettersOf_16 (rfl : 16 + 1 = 17) ?_
      refine z_iload_n C 0 rfl rfl dX2_takeLettersOf_17 (rfl : 17 + 1 = 18) ?_
      refine z_callV C 0 0 (c_X2_take (i := i) ha (by omega)) gX2_takeLettersOf_X2_take rfl hd22_X2_take ⟨Nat.le_of_ble_eq_true rfl, Nat.le_of_ble_eq_true rfl⟩ (pwm_House ha.1 ha.2.1) rfl rfl (Nat.le_of_ble_eq_true rfl) dX2_takeLettersOf_18 (rfl : 18 + 3 = 21) rfl rfl ⟨Nat.le_of_ble_eq_true rfl, Nat.le_of_ble_eq_true rfl⟩ (fun _ _ h => h.elim) ?_ rfl
      rintro _ _ ⟨rfl, rfl⟩
      refine z_v0 ?_
      refine z_iinc (lv' := [(2, _), (0, _), (1, _)]) C 0 dX2_takeLettersOf_21 (rfl : 21 + 3 = 24) rfl rfl (by decide) rfl ?_
      refine z_goto (pc' := 2) C dX2_takeLettersOf_24 (by decide) ?_
      refine z_sub [0, 1, 2] (lv' := [(2, .int (iI ((i + 1 : Nat) : Int))), (0, .ref a), (1, .ref b)]) rfl ?_
      rw [up2_row, va_up_self, up_up]
      refine ih (i + 1) _ (by omega) (fun k hk => ?_) (fun k hk => ?_)
      · simp only [va_up]
        split
        · rename_i h; rw [h, if_pos c2]
        · exact hf k (by omega)
      · simp only [va_up]
        rw [if_neg (by omega)]
        exact hg k (by omega)
theorem c_X2_takeLettersOf {a b ra rb : Nat} (ha : isH L K F N a ra) (hb : isH L K F N b rb) (xb : rgB (R rb) 60) : MC l yX2_takeLettersOf wsX2_takeLettersOf rmX2_takeLettersOf G base [.ref a, .ref b] (pw G X L K I F R N O) (fun v w => v = none ∧ ∃ f : Nat → Int, (∀ k, k < 60 → f k = if R rb k = 1 then 1 else R ra k) ∧ w = pw G X L K I F (va_up R ra f) N O) (fun _ _ => False) := by
  refine MC.of (cc := cX2_takeLettersOf) (by decide) rfl rfl (Nat.le_of_ble_eq_true rfl) ?_
  intro κ C hT hl hnm
  refine z_sub [0, 1] (lv' := [(0, .ref a), (1, .ref b)]) rfl ?_
  refine z_iconst C dX2_takeLettersOf_0 (rfl : 0 + 1 = 1) ?_
  refine z_istore_n (lv' := [(2, _), (0, _), (1, _)]) C rfl dX2_takeLettersOf_1 (rfl : 1 + 1 = 2) (by decide) rfl ?_
  have h := lp_X2_tlo (mc := 0) (ms := 0) C R ha hb xb (post := fun v w => v = none ∧ ∃ f : Nat → Int, (∀ k, k < 60 → f k = if R rb k = 1 then 1 else R ra k) ∧ w = pw G X L K I F (va_up R ra f) N O) (exc := fun _ _ => False) (fun f hf => ⟨rfl, f, hf, rfl⟩) 60 0 (R ra) (by omega) (fun k hk => absurd hk (by omega)) (fun _ _ => rfl)
  rw [up_self] at h
  exact h
abbrev rmX3_changes : Room := { frames := 0, cells := 0, slots := 0, locals := 0 }
theorem c_X3_changes {a c rc i : Nat} (ha : a ∈ L) (hk : K a = 3) (hc : isC L K F N c rc) (hi : I 7 a = (i : Int)) (h24 : i < 24) (xc : rg9 (R rc)) (xw : 0 ≤ I 8 a ∧ I 8 a ≤ 9) : MC l yX3_changes wsX3_changes rmX3_changes G base [.ref a, .ref c] (pw G X L K I F R N O) (fun v w => v = some (.int (iI (if R rc i = I 8 a then 1 else 0))) ∧ w = pw G X L K I F (if R rc i = I 8 a then up2 R rc i (I 9 a) else R) N O) (fun _ _ => False) := by
  refine MC.of (cc := cX3_changes) (by decide) rfl rfl (Nat.le_of_ble_eq_true rfl) ?_
  intro κ C hT hl hnm
  have x1 := xc i h24
  obtain ⟨h1, h2, h3, h4, h5, h6⟩ := hc
  refine z_sub [0, 1] (lv' := [(0, .ref a), (1, .ref c)]) rfl ?_
  refine z_aload_n C 0 rfl rfl dX3_changes_0 (rfl : 0 + 1 = 1) ?_
  refine z_get C (pwm_Letter ha hk) rfl iX3_changes_X3 0 (by decide) lX3_changes_f9 rfl rfl dX3_changes_1 (rfl : 1 + 3 = 4) ?_
  rw [hi]
  refine z_if_lt (pt := 32) C dX3_changes_4 (by decide) (rfl : 4 + 3 = 7) (iI_lt0 (by omega)).1 (fun q => mt (iI_lt0 (by omega)).2 q) (fun c1 => ?_) (fun c1 => ?_)
  · exact absurd c1 (by omega)
  refine z_aload_n C 0 rfl rfl dX3_changes_7 (rfl : 7 + 1 = 8) ?_
  refine z_get C (pwm_Letter ha hk) rfl iX3_changes_X3 0 (by decide) lX3_changes_f9 rfl rfl dX3_changes_8 (rfl : 8 + 3 = 11) ?_
  rw [hi]
  refine z_bipush (c := 24) C (by decide) dX3_changes_11 (rfl : 11 + 2 = 13) ?_
  refine z_icmp_ge (pt := 32) C dX3_changes_13 (by decide) (rfl : 13 + 3 = 16) (iI_le (by omega) (by omega)).1 (fun q => mt (iI_le (by omega) (by omega)).2 q) (fun c2 => ?_) (fun c2 => ?_)
  · exact absurd c2 (by omega)
  refine z_aload_n C 1 rfl rfl dX3_changes_16 (rfl : 16 + 1 = 17) ?_
  refine z_get C (pwm_Copy h1 h2) rfl iX3_changes_X0 3 (by decide) lX3_changes_f21 rfl rfl dX3_changes_17 (rfl : 17 + 3 = 20) ?_
  rw [h3]
  refine z_aload_n C 0 rfl rfl dX3_changes_20 (rfl : 20 + 1 = 21) ?_
  refine z_get C (pwm_Letter ha hk) rfl iX3_changes_X3 0 (by decide) lX3_changes_f9 rfl rfl dX3_changes_21 (rfl : 21 + 3 = 24) ?_
  rw [hi]
  refine z_iald C (x := iI (R rc i)) (pwm_I h4 h5) ⟨by omega, by omega⟩ (by omega) rfl dX3_changes_24 (rfl : 24 + 1 = 25) ?_
  refine z_aload_n C 0 rfl rfl dX3_changes_25 (rfl : 25 + 1 = 26) ?_
  refine z_get C (pwm_Letter ha hk) rfl iX3_changes_X3 1 (by decide) lX3_changes_f15 rfl rfl dX3_changes_26 (rfl : 26 + 3 = 29) ?_
  refine z_icmp_eq (pt := 34) C dX3_changes_29 (by decide) (rfl : 29 + 3 = 32) (iI_eq (by omega) (by omega)).1 (fun q => mt (iI_eq (by omega) (by omega)).2 q) (fun c3 => ?_) (fun c3 => ?_)
  · refine z_aload_n C 1 rfl rfl dX3_changes_34 (rfl : 34 + 1 = 35) ?_
    refine z_get C (pwm_Copy h1 h2) rfl iX3_changes_X0 3 (by decide) lX3_changes_f21 rfl rfl dX3_changes_35 (rfl : 35 + 3 = 38) ?_
    rw [h3]
    refine z_aload_n C 0 rfl rfl dX3_changes_38 (rfl : 38 + 1 = 39) ?_
    refine z_get C (pwm_Letter ha hk) rfl iX3_changes_X3 0 (by decide) lX3_changes_f9 rfl rfl dX3_changes_39 (rfl : 39 + 3 = 42) ?_
    rw [hi]
    refine z_aload_n C 0 rfl rfl dX3_changes_42 (rfl : 42 + 1 = 43) ?_
    refine z_get C (pwm_Letter ha hk) rfl iX3_changes_X3 2 (by decide) lX3_changes_f18 rfl rfl dX3_changes_43 (rfl : 43 + 3 = 46) ?_
    refine z_iast C (pwm_I h4 h5) ⟨by omega, by omega⟩ (by omega) dX3_changes_46 (rfl : 46 + 1 = 47) (pwt_I (i := i) h4 h5) ?_
    refine z_iconst C dX3_changes_47 (rfl : 47 + 1 = 48) ?_
    exact z_zret C rfl (.inr rfl) dX3_changes_48 ⟨by rw [if_pos c3], by rw [if_pos c3]⟩ (Nat.le_refl _) (Nat.le_refl _)
  · refine z_iconst C dX3_changes_32 (rfl : 32 + 1 = 33) ?_
    exact z_zret C rfl (.inl rfl) dX3_changes_33 ⟨by rw [if_neg c3], by rw [if_neg c3]⟩ (Nat.le_refl _) (Nat.le_refl _)
abbrev rmX4_daysLateOn : Room := { frames := 1, cells := 0, slots := 0, locals := 15 }
theorem c_X4_daysLateOn {a : Nat} {day : Int} (ha : a ∈ L) (hk : K a = 4) (hd : 0 ≤ day ∧ day ≤ 10000) (hl0 : 0 ≤ I 10 a ∧ I 10 a ≤ 10000) : MC l yX4_daysLateOn wsX4_daysLateOn rmX4_daysLateOn G base [.ref a, .int (iI day)] (pw G X L K I F R N O) (fun v w => v = some (.int (iI (lateOf day (I 10 a)))) ∧ w = (pw G X L K I F R N O)) (fun _ _ => False) := by
  refine MC.of (cc := cX4_daysLateOn) (by decide) rfl rfl (Nat.le_of_ble_eq_true rfl) ?_
  intro κ C hT hl hnm
  refine z_sub [0, 1] (lv' := [(0, .ref a), (1, .int (iI day))]) rfl ?_
  refine z_iconst C dX4_daysLateOn_0 (rfl : 0 + 1 = 1) ?_
  refine z_iload_n C 1 rfl rfl dX4_daysLateOn_1 (rfl : 1 + 1 = 2) ?_
  refine z_aload_n C 0 rfl rfl dX4_daysLateOn_2 (rfl : 2 + 1 = 3) ?_
  refine z_get C (pwm_Loan ha hk) rfl iX4_daysLateOn_X4 2 (by decide) lX4_daysLateOn_f27 rfl rfl dX4_daysLateOn_3 (rfl : 3 + 3 = 6) ?_
  refine z_isub C dX4_daysLateOn_6 (rfl : 6 + 1 = 7) rfl ?_
  refine z_mmax C lX4_daysLateOn_m33 stX4_daysLateOn_max nX4_daysLateOn_Math cdX4_daysLateOn_max (by decide) (Nat.le_of_ble_eq_true rfl) (by decide) (by first | decide | (show _ ≤ 200; omega)) dX4_daysLateOn_7 (rfl : 7 + 3 = 10) ?_
  rw [iI_max0 (by omega)]
  exact z_iret C rfl dX4_daysLateOn_10 ⟨rfl, rfl⟩ (Nat.le_refl _) (Nat.le_refl _)
abbrev rmX4_lostOn : Room := { frames := 2, cells := 0, slots := 0, locals := 36 }
theorem c_X4_lostOn {a : Nat} {day : Int} (ha : a ∈ L) (hk : K a = 4) (hd : 0 ≤ day ∧ day ≤ 10000) (hl0 : 0 ≤ I 10 a ∧ I 10 a ≤ 10000) (hp : 0 ≤ I 11 a ∧ I 11 a ≤ 50) : MC l yX4_lostOn wsX4_lostOn rmX4_lostOn G base [.ref a, .int (iI day)] (pw G X L K I F R N O) (fun v w => v = some (.int (iI (lostOf (lateOf day (I 10 a)) (I 11 a)))) ∧ w = (pw G X L K I F R N O)) (fun _ _ => False) := by
  refine MC.of (cc := cX4_lostOn) (by decide) rfl rfl (Nat.le_of_ble_eq_true rfl) ?_
  intro κ C hT hl hnm
  have hr : 0 ≤ lateOf day (I 10 a) ∧ lateOf day (I 10 a) ≤ 10000 := by simp only [lateOf]; split <;> omega
  refine z_sub [0, 1] (lv' := [(0, .ref a), (1, .int (iI day))]) rfl ?_
  refine z_aload_n C 0 rfl rfl dX4_lostOn_0 (rfl : 0 + 1 = 1) ?_
  refine z_iload_n C 1 rfl rfl dX4_lostOn_1 (rfl : 1 + 1 = 2) ?_
  refine z_callV C 0 0 (c_X4_daysLateOn ha hk hd hl0) gX4_lostOn_X4_daysLateOn rfl hd22_X4_daysLateOn ⟨Nat.le_of_ble_eq_true rfl, Nat.le_of_ble_eq_true rfl⟩ (pwm_Loan ha hk) rfl rfl (Nat.le_of_ble_eq_true rfl) dX4_lostOn_2 (rfl : 2 + 3 = 5) rfl rfl ⟨Nat.le_of_ble_eq_true rfl, Nat.le_of_ble_eq_true rfl⟩ (fun _ _ h => h.elim) ?_ rfl
  rintro _ _ ⟨rfl, rfl⟩
  refine z_v1 ?_
  refine z_istore_n (lv' := [(2, _), (0, _), (1, _)]) C rfl dX4_lostOn_5 (rfl : 5 + 1 = 6) (by decide) rfl ?_
  refine z_iload_n C 0 rfl rfl dX4_lostOn_6 (rfl : 6 + 1 = 7) ?_
  refine z_if_ne (pt := 12) C dX4_lostOn_7 (by decide) (rfl : 7 + 3 = 10) (fun q => mt (iI_eq0 (by omega)).2 q) (iI_eq0 (by omega)).1 (fun c => ?_) (fun c => ?_)
  rotate_left
  · refine z_iconst C dX4_lostOn_10 (rfl : 10 + 1 = 11) ?_
    exact z_iret C rfl dX4_lostOn_11 ⟨by rw [lostOf, if_pos c], rfl⟩ (Nat.le_refl _) (Nat.le_refl _)
  refine z_iload_n C 0 rfl rfl dX4_lostOn_12 (rfl : 12 + 1 = 13) ?_
  refine z_bipush (c := 10) C (by decide) dX4_lostOn_13 (rfl : 13 + 2 = 15) ?_
  refine z_icmp_gt (pt := 29) C dX4_lostOn_15 (by decide) (rfl : 15 + 3 = 18) (iI_lt (by omega) (by omega)).1 (fun q => mt (iI_lt (by omega) (by omega)).2 q) (fun c2 => ?_) (fun c2 => ?_)
  · refine z_aload_n C 1 rfl rfl dX4_lostOn_29 (rfl : 29 + 1 = 30) ?_
    refine z_get C (pwm_Loan ha hk) rfl iX4_lostOn_X4 3 (by decide) lX4_lostOn_f30 rfl rfl dX4_lostOn_30 (rfl : 30 + 3 = 33) ?_
    exact z_iret C rfl dX4_lostOn_33 ⟨by rw [lostOf, if_neg c, if_neg (by omega)], rfl⟩ (Nat.le_refl _) (Nat.le_refl _)
  · refine z_aload_n C 1 rfl rfl dX4_lostOn_18 (rfl : 18 + 1 = 19) ?_
    refine z_get C (pwm_Loan ha hk) rfl iX4_lostOn_X4 3 (by decide) lX4_lostOn_f30 rfl rfl dX4_lostOn_19 (rfl : 19 + 3 = 22) ?_
    refine z_iconst C dX4_lostOn_22 (rfl : 22 + 1 = 23) ?_
    refine z_iadd C dX4_lostOn_23 (rfl : 23 + 1 = 24) rfl ?_
    refine z_iconst C dX4_lostOn_24 (rfl : 24 + 1 = 25) ?_
    refine z_idiv C (by decide) dX4_lostOn_25 (rfl : 25 + 1 = 26) ?_
    rw [iI_div2 (by omega)]
    refine z_goto (pc' := 33) C dX4_lostOn_26 (by decide) ?_
    exact z_iret C rfl dX4_lostOn_33 ⟨by rw [lostOf, if_neg c, if_pos (by omega)], rfl⟩ (Nat.le_refl _) (Nat.le_refl _)
end
