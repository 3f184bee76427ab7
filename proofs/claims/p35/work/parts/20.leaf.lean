theorem lX0_countSharedWith_f9 : Cond.fieldLink RX0 9 "ModelCopies$Copy" "readings" "[I" ∈ wsX0_countSharedWith := by decide +kernel
theorem iX0_countSharedWith_X0 : ∀ w ∈ wsX00, w ∈ wsX0_countSharedWith := by decide +kernel
section
variable {κ : KxT} {G : GG} {base mc ms : Nat} {post : Option Value → va_W → Prop} {exc : String → va_W → Prop} {X : va_W} {L : List Nat} {K : Nat → Nat} {I : Nat → Nat → Int} {F : Nat → Nat → Option Nat} {R : Nat → Nat → Int} {N : Nat → Nat} {O : Nat → Nat → Option Nat} {l : Launch}
abbrev rmX0_countSharedWith : Room := { frames := 0, cells := 0, slots := 0, locals := 0 }
theorem lp_X0_csw (C : Cx κ cX0_countSharedWith 4 wsX0_countSharedWith RX0 (some .int) rmX0_countSharedWith G base) {a b ra rb : Nat} (ha : isC L K F N a ra) (hb : isC L K F N b rb) (xa : rg9 (R ra)) (xb : rg9 (R rb))
    (kk : Z κ 4 G base mc ms post exc 0 0 43 [(3, .int (iI ((24 : Nat) : Int))), (2, .int (iI (shc (R ra) (R rb) 24))), (0, .ref a), (1, .ref b)] [] (pw G X L K I F R N O)) :
    ∀ (n i : Nat), i + n = 24 → Z κ 4 G base mc ms post exc 0 0 4 [(3, .int (iI (i : Int))), (2, .int (iI (shc (R ra) (R rb) i))), (0, .ref a), (1, .ref b)] [] (pw G X L K I F R N O) := by
  obtain ⟨ha1, ha2, ha3, ha4, ha5, ha6⟩ := ha
  obtain ⟨hb1, hb2, hb3, hb4, hb5, hb6⟩ := hb
  intro n
  induction n with
  | zero =>
    intro i hi
    have e : i = 24 := by omega
    subst e
    refine z_iload_n C 0 rfl rfl dX0_countSharedWith_4 (rfl : 4 + 1 = 5) ?_
    refine z_bipush (c := 24) C (by decide) dX0_countSharedWith_5 (rfl : 5 + 2 = 7) ?_
    refine z_icmp_ge (pt := 43) C dX0_countSharedWith_7 (by decide) (rfl : 7 + 3 = 10) (iI_le (by omega) (by omega)).1 (fun q => mt (iI_le (by omega) (by omega)).2 q) (fun c => ?_) (fun c => ?_)
    · exact kk
    · exact absurd c (by omega)
  | succ n ih =>
    intro i hi
    have x1 := xa i (by omega)
    have x2 := xb i (by omega)
    refine z_iload_n C 0 rfl rfl dX0_countSharedWith_4 (rfl : 4 + 1 = 5) ?_
    refine z_bipush (c := 24) C (by decide) dX0_countSharedWith_5 (rfl : 5 + 2 = 7) ?_
    refine z_icmp_ge (pt := 43) C dX0_countSharedWith_7 (by decide) (rfl : 7 + 3 = 10) (iI_le (by omega) (by omega)).1 (fun q => mt (iI_le (by omega) (by omega)).2 q) (fun c => ?_) (fun c => ?_)
    · exact absurd c (by omega)
    refine z_aload_n C 2 rfl rfl dX0_countSharedWith_10 (rfl : 10 + 1 = 11) ?_
    refine z_get C (pwm_Copy ha1 ha2) rfl iX0_countSharedWith_X0 3 (by decide) lX0_countSharedWith_f9 rfl rfl dX0_countSharedWith_11 (rfl : 11 + 3 = 14) ?_
    rw [ha3]
    refine z_iload_n C 0 rfl rfl dX0_countSharedWith_14 (rfl : 14 + 1 = 15) ?_
    refine z_iald C (x := iI (R ra i)) (pwm_I ha4 ha5) ⟨by omega, by omega⟩ (by omega) rfl dX0_countSharedWith_15 (rfl : 15 + 1 = 16) ?_
    refine z_if_eq (pt := 37) C dX0_countSharedWith_16 (by decide) (rfl : 16 + 3 = 19) (iI_eq0 (by omega)).1 (fun q => mt (iI_eq0 (by omega)).2 q) (fun c1 => ?_) (fun c1 => ?_)
    · refine z_iinc (lv' := [(3, _), (2, _), (0, _), (1, _)]) C 0 dX0_countSharedWith_37 (rfl : 37 + 3 = 40) rfl rfl (by decide) rfl ?_
      refine z_goto (pc' := 4) C dX0_countSharedWith_40 (by decide) ?_
      have e : shc (R ra) (R rb) (i + 1) = shc (R ra) (R rb) i := by simp only [shc]; rw [if_neg (fun h => h.1 c1), Int.add_zero]
      rw [← e]
      exact ih (i + 1) (by omega)
    refine z_aload_n C 2 rfl rfl dX0_countSharedWith_19 (rfl : 19 + 1 = 20) ?_
    refine z_get C (pwm_Copy ha1 ha2) rfl iX0_countSharedWith_X0 3 (by decide) lX0_countSharedWith_f9 rfl rfl dX0_countSharedWith_20 (rfl : 20 + 3 = 23) ?_
    rw [ha3]
    refine z_iload_n C 0 rfl rfl dX0_countSharedWith_23 (rfl : 23 + 1 = 24) ?_
    refine z_iald C (x := iI (R ra i)) (pwm_I ha4 ha5) ⟨by omega, by omega⟩ (by omega) rfl dX0_countSharedWith_24 (rfl : 24 + 1 = 25) ?_
    refine z_aload_n C 3 rfl rfl dX0_countSharedWith_25 (rfl : 25 + 1 = 26) ?_
    refine z_get C (pwm_Copy hb1 hb2) rfl iX0_countSharedWith_X0 3 (by decide) lX0_countSharedWith_f9 rfl rfl dX0_countSharedWith_26 (rfl : 26 + 3 = 29) ?_
    rw [hb3]
    refine z_iload_n C 0 rfl rfl dX0_countSharedWith_29 (rfl : 29 + 1 = 30) ?_
    refine z_iald C (x := iI (R rb i)) (pwm_I hb4 hb5) ⟨by omega, by omega⟩ (by omega) rfl dX0_countSharedWith_30 (rfl : 30 + 1 = 31) ?_
    refine z_icmp_ne (pt := 37) C dX0_countSharedWith_31 (by decide) (rfl : 31 + 3 = 34) (fun q => mt (iI_eq (by omega) (by omega)).2 q) (iI_eq (by omega) (by omega)).1 (fun c2 => ?_) (fun c2 => ?_)
    · refine z_iinc (lv' := [(3, _), (2, _), (0, _), (1, _)]) C 0 dX0_countSharedWith_37 (rfl : 37 + 3 = 40) rfl rfl (by decide) rfl ?_
      refine z_goto (pc' := 4) C dX0_countSharedWith_40 (by decide) ?_
      have e : shc (R ra) (R rb) (i + 1) = shc (R ra) (R rb) i := by simp only [shc]; rw [if_neg (fun h => c2 h.2), Int.add_zero]
      rw [← e]
      exact ih (i + 1) (by omega)
    refine z_iinc (lv' := [(2, _), (3, _), (0, _), (1, _)]) C 1 dX0_countSharedWith_34 (rfl : 34 + 3 = 37) rfl rfl (by decide) rfl ?_
    refine z_iinc (lv' := [(3, _), (2, _), (0, _), (1, _)]) C 1 dX0_countSharedWith_37 (rfl : 37 + 3 = 40) rfl rfl (by decide) rfl ?_
    refine z_goto (pc' := 4) C dX0_countSharedWith_40 (by decide) ?_
    have e : shc (R ra) (R rb) (i + 1) = shc (R ra) (R rb) i + 1 := by simp only [shc]; rw [if_pos ⟨c1, c2⟩]
    refine z_sub [0, 1, 2, 3] (lv' := [(3, .int (iI ((i + 1 : Nat) : Int))), (2, .int (iI (shc (R ra) (R rb) (i + 1)))), (0, .ref a), (1, .ref b)]) (by rw [e]; rfl) ?_
    exact ih (i + 1) (by omega)
theorem c_X0_countSharedWith {a b ra rb : Nat} (ha : isC L K F N a ra) (hb : isC L K F N b rb) (xa : rg9 (R ra)) (xb : rg9 (R rb)) : MC l yX0_countSharedWith wsX0_countSharedWith rmX0_countSharedWith G base [.ref a, .ref b] (pw G X L K I F R N O) (fun v w => v = some (.int (iI (shc (R ra) (R rb) 24))) ∧ w = (pw G X L K I F R N O)) (fun _ _ => False) := by
  refine MC.of (cc := cX0_countSharedWith) (by decide) rfl rfl (Nat.le_of_ble_eq_true rfl) ?_
  intro κ C hT hl hnm
  refine z_sub [0, 1] (lv' := [(0, .ref a), (1, .ref b)]) rfl ?_
  refine z_iconst C dX0_countSharedWith_0 (rfl : 0 + 1 = 1) ?_
  refine z_istore_n (lv' := [(2, _), (0, _), (1, _)]) C rfl dX0_countSharedWith_1 (rfl : 1 + 1 = 2) (by decide) rfl ?_
  refine z_iconst C dX0_countSharedWith_2 (rfl : 2 + 1 = 3) ?_
  refine z_istore_n (lv' := [(3, _), (2, _), (0, _), (1, _)]) C rfl dX0_countSharedWith_3 (rfl : 3 + 1 = 4) (by decide) rfl ?_
  refine lp_X0_csw C ha hb xa xb ?_ 24 0 rfl
  refine z_iload_n C 1 rfl rfl dX0_countSharedWith_43 (rfl : 43 + 1 = 44) ?_
  exact z_iret C rfl dX0_countSharedWith_44 ⟨rfl, rfl⟩ (Nat.le_refl _) (Nat.le_refl _)
end
