theorem lX5_lowestIn_f16 : Cond.fieldLink RX5 16 "ModelCopies" "copies" "Ljava/util/ArrayList;" ∈ wsX5_lowestIn := by decide +kernel
theorem iX5_lowestIn_X5 : ∀ w ∈ wsX50, w ∈ wsX5_lowestIn := by decide +kernel
theorem hd71_Jx4a65c_size_8abf5 : yJx4a65c_size_8abf5.cls = RJx4a65c ∧ yJx4a65c_size_8abf5.cls ≠ "java/lang/invoke/MethodHandle" ∧ yJx4a65c_size_8abf5.cls ≠ "java/lang/invoke/VarHandle" ∧ (parseMethodDescriptor yJx4a65c_size_8abf5.desc).map (fun d => d.parameters.length) = some 0 := by decide +kernel
theorem hd71_Jx4a65c_get_915e3 : yJx4a65c_get_915e3.cls = RJx4a65c ∧ yJx4a65c_get_915e3.cls ≠ "java/lang/invoke/MethodHandle" ∧ yJx4a65c_get_915e3.cls ≠ "java/lang/invoke/VarHandle" ∧ (parseMethodDescriptor yJx4a65c_get_915e3.desc).map (fun d => d.parameters.length) = some 1 := by decide +kernel
theorem lX5_lowestIn_c49 : Cond.classLink RX5 49 "ModelCopies$Copy" ∈ wsX5_lowestIn := by decide +kernel
theorem hd71_X5_setOf : yX5_setOf.cls ≠ "java/lang/invoke/MethodHandle" ∧ yX5_setOf.cls ≠ "java/lang/invoke/VarHandle" ∧ (parseMethodDescriptor yX5_setOf.desc).map (fun d => d.parameters.length) = some 1 := by decide +kernel
def lowP (f : Nat → Bool) (n : Nat) (z : Int) : Prop := (∃ i, i < n ∧ f i = true ∧ (∀ j, j < i → f j = false) ∧ z = (i : Int)) ∨ ((∀ j, j < n → f j = false) ∧ z = -1)
section
variable {κ : KxT} {G : GG} {base mc ms : Nat} {post : Option Value → va_W → Prop} {exc : String → va_W → Prop} {X : va_W} {L : List Nat} {K : Nat → Nat} {I : Nat → Nat → Int} {F : Nat → Nat → Option Nat} {R : Nat → Nat → Int} {N : Nat → Nat} {O : Nat → Nat → Option Nat} {l : Launch}
variable {de n m t : Nat} {T : Nat → Nat} {g : Nat → Nat → Nat} {V : Nat → Nat → Int}
abbrev rmX5_lowestIn : Room := { frames := 3, cells := 0, slots := 0, locals := 80 }
theorem lp_X5_lowestIn (C : Cx κ cX5_lowestIn 4 wsX5_lowestIn RX5 (some .int) rmX5_lowestIn G base) {f : Nat → Bool} (h : RP de L K I F R N O T g V 5 n m t) (hw : WFV V n m t)
    (hq : ∀ z, lowP f n z → post (some (.int (iI z))) (pw G X L K I F R N O)) :
    ∀ (d k : Nat), k + d = n → (∀ j, j < k → f j = false) → Z κ 4 G base mc ms post exc 0 0 2 [(3, .int (iI (k : Int))), (0, .ref (g 6 0)), (1, .long (lN (bitN f n)))] [] (pw G X L K I F R N O) := by
  have hn := hw.2.1
  intro d
  induction d with
  | zero =>
    intro k hk hf
    have e : k = n := by omega
    subst e
    refine z_iload_n C 0 rfl rfl dX5_lowestIn_2 (rfl : 2 + 1 = 3) ?_
    refine z_aload_n C 1 rfl rfl dX5_lowestIn_3 (rfl : 3 + 1 = 4) ?_
    refine z_get C (pwm_MC h.x9.1 h.x9.2.1) rfl iX5_lowestIn_X5 1 (by decide) lX5_lowestIn_f16 rfl rfl dX5_lowestIn_4 (rfl : 4 + 3 = 7) ?_
    rw [h.x9.2.2]
    refine z_callV C 0 0 (c_list_size h.l1) gX5_lowestIn_Jx4a65c_size_8abf5 rfl hd71_Jx4a65c_size_8abf5 ⟨Nat.le_of_ble_eq_true rfl, Nat.le_of_ble_eq_true rfl⟩ (pwm_AL h.l1.1 h.l1.2.1) rfl rfl (Nat.le_of_ble_eq_true rfl) dX5_lowestIn_7 (rfl : 7 + 3 = 10) rfl rfl ⟨Nat.le_of_ble_eq_true rfl, Nat.le_of_ble_eq_true rfl⟩ (fun _ _ h => h.elim) ?_ rfl
    rintro _ _ ⟨rfl, rfl⟩
    refine z_v1 ?_
    refine z_icmp_ge (pt := 42) C dX5_lowestIn_10 (by decide) (rfl : 10 + 3 = 13) (iI_le (by omega) (by omega)).1 (fun q => mt (iI_le (by omega) (by omega)).2 q) (fun c1 => ?_) (fun c1 => ?_)
    · refine z_iconst C dX5_lowestIn_42 (rfl : 42 + 1 = 43) ?_
      exact z_iret C rfl dX5_lowestIn_43 (hq _ (.inr ⟨hf, rfl⟩)) (Nat.zero_le _) (Nat.zero_le _)
    · exact absurd c1 (by omega)
  | succ d ih =>
    intro k hk hf
    have hkn : k < n := by omega
    refine z_iload_n C 0 rfl rfl dX5_lowestIn_2 (rfl : 2 + 1 = 3) ?_
    refine z_aload_n C 1 rfl rfl dX5_lowestIn_3 (rfl : 3 + 1 = 4) ?_
    refine z_get C (pwm_MC h.x9.1 h.x9.2.1) rfl iX5_lowestIn_X5 1 (by decide) lX5_lowestIn_f16 rfl rfl dX5_lowestIn_4 (rfl : 4 + 3 = 7) ?_
    rw [h.x9.2.2]
    refine z_callV C 0 0 (c_list_size h.l1) gX5_lowestIn_Jx4a65c_size_8abf5 rfl hd71_Jx4a65c_size_8abf5 ⟨Nat.le_of_ble_eq_true rfl, Nat.le_of_ble_eq_true rfl⟩ (pwm_AL h.l1.1 h.l1.2.1) rfl rfl (Nat.le_of_ble_eq_true rfl) dX5_lowestIn_7 (rfl : 7 + 3 = 10) rfl rfl ⟨Nat.le_of_ble_eq_true rfl, Nat.le_of_ble_eq_true rfl⟩ (fun _ _ h => h.elim) ?_ rfl
    rintro _ _ ⟨rfl, rfl⟩
    refine z_v1 ?_
    refine z_icmp_ge (pt := 42) C dX5_lowestIn_10 (by decide) (rfl : 10 + 3 = 13) (iI_le (by omega) (by omega)).1 (fun q => mt (iI_le (by omega) (by omega)).2 q) (fun c1 => ?_) (fun c1 => ?_)
    · exact absurd c1 (by omega)
    refine z_lload_n C 2 rfl rfl dX5_lowestIn_13 (rfl : 13 + 1 = 14) ?_
    refine z_aload_n C 1 rfl rfl dX5_lowestIn_14 (rfl : 14 + 1 = 15) ?_
    refine z_get C (pwm_MC h.x9.1 h.x9.2.1) rfl iX5_lowestIn_X5 1 (by decide) lX5_lowestIn_f16 rfl rfl dX5_lowestIn_15 (rfl : 15 + 3 = 18) ?_
    rw [h.x9.2.2]
    refine z_iload_n C 0 rfl rfl dX5_lowestIn_18 (rfl : 18 + 1 = 19) ?_
    refine z_callV C 0 0 (c_list_get (i := k) h.l1 hkn) gX5_lowestIn_Jx4a65c_get_915e3 rfl hd71_Jx4a65c_get_915e3 ⟨Nat.le_of_ble_eq_true rfl, Nat.le_of_ble_eq_true rfl⟩ (pwm_AL h.l1.1 h.l1.2.1) rfl rfl (Nat.le_of_ble_eq_true rfl) dX5_lowestIn_19 (rfl : 19 + 3 = 22) rfl rfl ⟨Nat.le_of_ble_eq_true rfl, Nat.le_of_ble_eq_true rfl⟩ (fun _ _ h => h.elim) ?_ rfl
    rintro _ _ ⟨rfl, rfl⟩
    refine z_v1 ?_
    refine z_cast C (pwm_Copy (h.g0 hkn).1 (h.g0 hkn).2) rfl lX5_lowestIn_c49 dX5_lowestIn_22 (rfl : 22 + 3 = 25) ?_
    refine z_callS C 0 0 (c_X5_setOf (h.g0 hkn).1 (h.g0 hkn).2 (h.2.1.2.2.2.1 k hkn).2.2.1 (by omega)) gX5_lowestIn_X5_setOf rfl hd71_X5_setOf ⟨Nat.le_of_ble_eq_true rfl, Nat.le_of_ble_eq_true rfl⟩ rfl (Nat.le_of_ble_eq_true rfl) dX5_lowestIn_25 (rfl : 25 + 3 = 28) rfl rfl ⟨Nat.le_of_ble_eq_true rfl, Nat.le_of_ble_eq_true rfl⟩ (fun _ _ h => h.elim) ?_ rfl
    rintro _ _ ⟨rfl, rfl⟩
    refine z_v1 ?_
    refine z_land C dX5_lowestIn_28 (rfl : 28 + 1 = 29) ?_
    refine z_topl (y := lN (bitN f n &&& 2 ^ k)) (lN_and _ _) ?_
    refine z_lconst (v := 0) C (by decide) dX5_lowestIn_29 (rfl : 29 + 1 = 30) ?_
    have b63 : bitN f n &&& 2 ^ k < 2 ^ 63 := Nat.lt_of_le_of_lt Nat.and_le_left (Nat.lt_of_lt_of_le (bitN_lt f n) (Nat.pow_le_pow_right (by decide) (by omega)))
    have ez := lN_zero b63
    have eb := bitN_two f hkn
    refine z_lcmp C dX5_lowestIn_30 (rfl : 30 + 1 = 31) (fun c2 => ?_) (fun c2 x hx => ?_)
    · have fk := eb.mp (ez.mp c2)
      refine z_if_eq (pt := 36) C dX5_lowestIn_31 (by decide) (rfl : 31 + 3 = 34) (iI_eq0 (by omega)).1 (fun q => mt (iI_eq0 (by omega)).2 q) (fun c3 => ?_) (fun c3 => ?_)
      · refine z_iinc (lv' := [(3, _), (0, _), (1, _)]) C 0 dX5_lowestIn_36 (rfl : 36 + 3 = 39) rfl rfl (by decide) rfl ?_
        refine z_goto (pc' := 2) C dX5_lowestIn_39 (by decide) ?_
        refine ih (k + 1) (by omega) (fun j hj => ?_)
        by_cases e : j = k
        · subst e; exact fk
        · exact hf j (by omega)
      · exact absurd rfl c3
    · have fk : f k = true := by
        cases q : f k
        · exact absurd (ez.mpr (eb.mpr q)) c2
        · rfl
      refine z_if_eq (pt := 36) C dX5_lowestIn_31 (by decide) (rfl : 31 + 3 = 34) (iI_eq0 (by omega)).1 (fun q => mt (iI_eq0 (by omega)).2 q) (fun c3 => ?_) (fun c3 => ?_)
      · omega
      refine z_iload_n C 0 rfl rfl dX5_lowestIn_34 (rfl : 34 + 1 = 35) ?_
      exact z_iret C rfl dX5_lowestIn_35 (hq _ (.inl ⟨k, hkn, fk, hf, rfl⟩)) (Nat.zero_le _) (Nat.zero_le _)
theorem c_X5_lowestIn {f : Nat → Bool} (h : RP de L K I F R N O T g V 5 n m t) (hw : WFV V n m t) : MC l yX5_lowestIn wsX5_lowestIn rmX5_lowestIn G base [.ref (g 6 0), .long (lN (bitN f n))] (pw G X L K I F R N O) (fun v w => w = (pw G X L K I F R N O) ∧ ∃ z, lowP f n z ∧ v = some (.int (iI z))) (fun _ _ => False) := by
  refine MC.of (cc := cX5_lowestIn) (by decide) rfl rfl (Nat.le_of_ble_eq_true rfl) ?_
  intro κ C hT hl hnm
  refine z_sub [0, 1] (lv' := [(0, .ref (g 6 0)), (1, .long (lN (bitN f n)))]) rfl ?_
  refine z_iconst C dX5_lowestIn_0 (rfl : 0 + 1 = 1) ?_
  refine z_istore_n (lv' := [(3, _), (0, _), (1, _)]) C rfl dX5_lowestIn_1 (rfl : 1 + 1 = 2) (by decide) rfl ?_
  exact lp_X5_lowestIn C h hw (fun z hz => ⟨rfl, z, hz, rfl⟩) n 0 (by omega) (fun j hj => absurd hj (Nat.not_lt_zero _))
end
