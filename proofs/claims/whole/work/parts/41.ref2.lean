theorem lX6_errorsOf_f7 : Cond.fieldLink RX6 7 "ModelCopiesModel" "readings" "[I" ∈ wsX6_errorsOf := by decide +kernel
theorem iX6_errorsOf_X6 : ∀ w ∈ wsX60, w ∈ wsX6_errorsOf := by decide +kernel
theorem lX6_share_f7 : Cond.fieldLink RX6 7 "ModelCopiesModel" "readings" "[I" ∈ wsX6_share := by decide +kernel
theorem iX6_share_X6 : ∀ w ∈ wsX60, w ∈ wsX6_share := by decide +kernel
theorem hd41_X6_share : yX6_share.cls = RX6 ∧ yX6_share.cls ≠ "java/lang/invoke/MethodHandle" ∧ yX6_share.cls ≠ "java/lang/invoke/VarHandle" ∧ (parseMethodDescriptor yX6_share.desc).map (fun d => d.parameters.length) = some 2 := by decide +kernel
theorem lX6_areKin_f16 : Cond.fieldLink RX6 16 "ModelCopiesModel" "told" "[Z" ∈ wsX6_areKin := by decide +kernel
theorem iX6_areKin_X6 : ∀ w ∈ wsX60, w ∈ wsX6_areKin := by decide +kernel
theorem lX6_areKin_f13 : Cond.fieldLink RX6 13 "ModelCopiesModel" "models" "[I" ∈ wsX6_areKin := by decide +kernel
theorem lX6_sorts_f26 : Cond.fieldLink RX6 26 "ModelCopiesModel" "copies" "I" ∈ wsX6_sorts := by decide +kernel
theorem iX6_sorts_X6 : ∀ w ∈ wsX60, w ∈ wsX6_sorts := by decide +kernel
theorem lX6_sorts_f72 : Cond.fieldLink RX6 72 "ModelCopiesModel" "families" "[I" ∈ wsX6_sorts := by decide +kernel
theorem hd41_X6_areKin : yX6_areKin.cls = RX6 ∧ yX6_areKin.cls ≠ "java/lang/invoke/MethodHandle" ∧ yX6_areKin.cls ≠ "java/lang/invoke/VarHandle" ∧ (parseMethodDescriptor yX6_areKin.desc).map (fun d => d.parameters.length) = some 2 := by decide +kernel
section
variable {κ : KxT} {G : GG} {base mc ms : Nat} {post : Option Value → va_W → Prop} {exc : String → va_W → Prop} {q : Nat → Nat} {V : Nat → Nat → Int} {Y : va_W} {l : Launch}
abbrev rmX6_errorsOf : Room := { frames := 0, cells := 0, slots := 0, locals := 0 }
theorem lp_X6_err (C : Cx κ cX6_errorsOf 4 wsX6_errorsOf RX6 (some .int) rmX6_errorsOf G base) {c : Nat} (hc : c < 40) (hr : ∀ j, j < 960 → 0 ≤ V 0 j ∧ V 0 j ≤ 9) (hp : post (some (.int (iI (shV V c c)))) (xm G q V ++ Y)) :
    ∀ (d i : Nat), i + d = 24 → Z κ 4 G base mc ms post exc 0 0 4 [(3, .int (iI (i : Int))), (2, .int (iI (shc (rdV V c) (rdV V c) i))), (0, .ref (q 30)), (1, .int (iI (c : Int)))] [] (xm G q V ++ Y) := by
  intro d
  induction d with
  | zero =>
    intro i hi
    have e : i = 24 := by omega
    subst e
    refine z_iload_n C 0 rfl rfl dX6_errorsOf_4 (rfl : 4 + 1 = 5) ?_
    refine z_bipush (c := 24) C (by decide) dX6_errorsOf_5 (rfl : 5 + 2 = 7) ?_
    refine z_icmp_ge (pt := 38) C dX6_errorsOf_7 (by decide) (rfl : 7 + 3 = 10) (iI_le (by omega) (by omega)).1 (fun q => mt (iI_le (by omega) (by omega)).2 q) (fun c1 => ?_) (fun c1 => ?_)
    · refine z_iload_n C 1 rfl rfl dX6_errorsOf_38 (rfl : 38 + 1 = 39) ?_
      exact z_iret C rfl dX6_errorsOf_39 hp (Nat.zero_le _) (Nat.zero_le _)
    · exact absurd c1 (by omega)
  | succ d ih =>
    intro i hi
    have r1 := hr (24 * c + i) (by omega)
    refine z_iload_n C 0 rfl rfl dX6_errorsOf_4 (rfl : 4 + 1 = 5) ?_
    refine z_bipush (c := 24) C (by decide) dX6_errorsOf_5 (rfl : 5 + 2 = 7) ?_
    refine z_icmp_ge (pt := 38) C dX6_errorsOf_7 (by decide) (rfl : 7 + 3 = 10) (iI_le (by omega) (by omega)).1 (fun q => mt (iI_le (by omega) (by omega)).2 q) (fun c1 => ?_) (fun c1 => ?_)
    · exact absurd c1 (by omega)
    refine z_iload_n C 1 rfl rfl dX6_errorsOf_10 (rfl : 10 + 1 = 11) ?_
    refine z_aload_n C 2 rfl rfl dX6_errorsOf_11 (rfl : 11 + 1 = 12) ?_
    refine z_get C xmm rfl iX6_errorsOf_X6 0 (by decide) lX6_errorsOf_f7 rfl rfl dX6_errorsOf_12 (rfl : 12 + 3 = 15) ?_
    refine z_bipush (c := 24) C (by decide) dX6_errorsOf_15 (rfl : 15 + 2 = 17) ?_
    refine z_iload_n C 3 rfl rfl dX6_errorsOf_17 (rfl : 17 + 1 = 18) ?_
    refine z_imul C dX6_errorsOf_18 (rfl : 18 + 1 = 19) rfl ?_
    refine z_iload_n C 0 rfl rfl dX6_errorsOf_19 (rfl : 19 + 1 = 20) ?_
    refine z_iadd C dX6_errorsOf_20 (rfl : 20 + 1 = 21) rfl ?_
    refine z_iald (x := iI (V 0 (24 * c + i))) C xmm_0 ⟨by omega, by omega⟩ (by omega) rfl dX6_errorsOf_21 (rfl : 21 + 1 = 22) ?_
    refine z_if_eq (pt := 29) C dX6_errorsOf_22 (by decide) (rfl : 22 + 3 = 25) (iI_eq0 (by omega)).1 (fun q => mt (iI_eq0 (by omega)).2 q) (fun c2 => ?_) (fun c2 => ?_)
    · refine z_iconst C dX6_errorsOf_29 (rfl : 29 + 1 = 30) ?_
      refine z_iadd C dX6_errorsOf_30 (rfl : 30 + 1 = 31) rfl ?_
      refine z_istore_n (lv' := [(2, _), (3, _), (0, _), (1, _)]) C rfl dX6_errorsOf_31 (rfl : 31 + 1 = 32) (by decide) rfl ?_
      refine z_iinc (lv' := [(3, _), (2, _), (0, _), (1, _)]) C 1 dX6_errorsOf_32 (rfl : 32 + 3 = 35) rfl rfl (by decide) rfl ?_
      refine z_goto (pc' := 4) C dX6_errorsOf_35 (by decide) ?_
      refine z_sub [0, 1, 2, 3] (lv' := [(3, .int (iI ((i + 1 : Nat) : Int))), (2, .int (iI (shc (rdV V c) (rdV V c) (i + 1)))), (0, .ref (q 30)), (1, .int (iI (c : Int)))]) (by rw [show shc (rdV V c) (rdV V c) (i + 1) = shc (rdV V c) (rdV V c) i + 0 by show shc _ _ i + (if _ then (1 : Int) else 0) = _; rw [if_neg (fun h => h.1 c2)]]; rfl) ?_
      exact ih (i + 1) (by omega)
    · refine z_iconst C dX6_errorsOf_25 (rfl : 25 + 1 = 26) ?_
      refine z_goto (pc' := 30) C dX6_errorsOf_26 (by decide) ?_
      refine z_iadd C dX6_errorsOf_30 (rfl : 30 + 1 = 31) rfl ?_
      refine z_istore_n (lv' := [(2, _), (3, _), (0, _), (1, _)]) C rfl dX6_errorsOf_31 (rfl : 31 + 1 = 32) (by decide) rfl ?_
      refine z_iinc (lv' := [(3, _), (2, _), (0, _), (1, _)]) C 1 dX6_errorsOf_32 (rfl : 32 + 3 = 35) rfl rfl (by decide) rfl ?_
      refine z_goto (pc' := 4) C dX6_errorsOf_35 (by decide) ?_
      refine z_sub [0, 1, 2, 3] (lv' := [(3, .int (iI ((i + 1 : Nat) : Int))), (2, .int (iI (shc (rdV V c) (rdV V c) (i + 1)))), (0, .ref (q 30)), (1, .int (iI (c : Int)))]) (by rw [show shc (rdV V c) (rdV V c) (i + 1) = shc (rdV V c) (rdV V c) i + 1 by show shc _ _ i + (if _ then (1 : Int) else 0) = _; rw [if_pos ⟨c2, rfl⟩]]; rfl) ?_
      exact ih (i + 1) (by omega)
theorem c_X6_errorsOf {c : Nat} (hc : c < 40) (hr : ∀ j, j < 960 → 0 ≤ V 0 j ∧ V 0 j ≤ 9) : MC l yX6_errorsOf wsX6_errorsOf rmX6_errorsOf G base [.ref (q 30), .int (iI (c : Int))] (xm G q V ++ Y) (fun v w => v = some (.int (iI (shV V c c))) ∧ w = (xm G q V ++ Y)) (fun _ _ => False) := by
  refine MC.of (cc := cX6_errorsOf) (by decide) rfl rfl (Nat.le_of_ble_eq_true rfl) ?_
  intro κ C hT hl hnm
  refine z_sub [0, 1] (lv' := [(0, .ref (q 30)), (1, .int (iI (c : Int)))]) rfl ?_
  refine z_iconst C dX6_errorsOf_0 (rfl : 0 + 1 = 1) ?_
  refine z_istore_n (lv' := [(2, _), (0, _), (1, _)]) C rfl dX6_errorsOf_1 (rfl : 1 + 1 = 2) (by decide) rfl ?_
  refine z_iconst C dX6_errorsOf_2 (rfl : 2 + 1 = 3) ?_
  refine z_istore_n (lv' := [(3, _), (2, _), (0, _), (1, _)]) C rfl dX6_errorsOf_3 (rfl : 3 + 1 = 4) (by decide) rfl ?_
  exact lp_X6_err C hc hr ⟨rfl, rfl⟩ 24 0 rfl
abbrev rmX6_share : Room := { frames := 0, cells := 0, slots := 0, locals := 0 }
theorem lp_X6_share (C : Cx κ cX6_share 6 wsX6_share RX6 (some .int) rmX6_share G base) {a b : Nat} (ha : a < 40) (hb : b < 40) (hr : ∀ j, j < 960 → 0 ≤ V 0 j ∧ V 0 j ≤ 9) (hp : post (some (.int (iI (shV V a b)))) (xm G q V ++ Y)) :
    ∀ (d i : Nat), i + d = 24 → Z κ 6 G base mc ms post exc 0 0 5 [(4, .int (iI (i : Int))), (3, .int (iI (shc (rdV V a) (rdV V b) i))), (0, .ref (q 30)), (1, .int (iI (a : Int))), (2, .int (iI (b : Int)))] [] (xm G q V ++ Y) := by
  intro d
  induction d with
  | zero =>
    intro i hi
    have e : i = 24 := by omega
    subst e
    refine z_iload C 0 rfl dX6_share_5 (rfl : 5 + 2 = 7) ?_
    refine z_bipush (c := 24) C (by decide) dX6_share_7 (rfl : 7 + 2 = 9) ?_
    refine z_icmp_ge (pt := 62) C dX6_share_9 (by decide) (rfl : 9 + 3 = 12) (iI_le (by omega) (by omega)).1 (fun q => mt (iI_le (by omega) (by omega)).2 q) (fun c1 => ?_) (fun c1 => ?_)
    · refine z_iload_n C 1 rfl rfl dX6_share_62 (rfl : 62 + 1 = 63) ?_
      exact z_iret C rfl dX6_share_63 hp (Nat.zero_le _) (Nat.zero_le _)
    · exact absurd c1 (by omega)
  | succ d ih =>
    intro i hi
    have r1 := hr (24 * a + i) (by omega)
    have r2 := hr (24 * b + i) (by omega)
    have nx : ∀ z : Int, z = shc (rdV V a) (rdV V b) (i + 1) → Z κ 6 G base mc ms post exc 0 0 5 [(4, .int (iI ((i + 1 : Nat) : Int))), (3, .int (iI z)), (0, .ref (q 30)), (1, .int (iI (a : Int))), (2, .int (iI (b : Int)))] [] (xm G q V ++ Y) := fun z hz => by rw [hz]; exact ih (i + 1) (by omega)
    refine z_iload C 0 rfl dX6_share_5 (rfl : 5 + 2 = 7) ?_
    refine z_bipush (c := 24) C (by decide) dX6_share_7 (rfl : 7 + 2 = 9) ?_
    refine z_icmp_ge (pt := 62) C dX6_share_9 (by decide) (rfl : 9 + 3 = 12) (iI_le (by omega) (by omega)).1 (fun q => mt (iI_le (by omega) (by omega)).2 q) (fun c1 => ?_) (fun c1 => ?_)
    · exact absurd c1 (by omega)
    refine z_aload_n C 2 rfl rfl dX6_share_12 (rfl : 12 + 1 = 13) ?_
    refine z_get C xmm rfl iX6_share_X6 0 (by decide) lX6_share_f7 rfl rfl dX6_share_13 (rfl : 13 + 3 = 16) ?_
    refine z_bipush (c := 24) C (by decide) dX6_share_16 (rfl : 16 + 2 = 18) ?_
    refine z_iload_n C 3 rfl rfl dX6_share_18 (rfl : 18 + 1 = 19) ?_
    refine z_imul C dX6_share_19 (rfl : 19 + 1 = 20) rfl ?_
    refine z_iload C 0 rfl dX6_share_20 (rfl : 20 + 2 = 22) ?_
    refine z_iadd C dX6_share_22 (rfl : 22 + 1 = 23) rfl ?_
    refine z_iald (x := iI (V 0 (24 * a + i))) C xmm_0 ⟨by omega, by omega⟩ (by omega) rfl dX6_share_23 (rfl : 23 + 1 = 24) ?_
    refine z_istore (lv' := [(5, _), (4, _), (3, _), (0, _), (1, _), (2, _)]) C dX6_share_24 (rfl : 24 + 2 = 26) (by decide) rfl ?_
    refine z_iload_n C 2 rfl rfl dX6_share_26 (rfl : 26 + 1 = 27) ?_
    refine z_iload C 0 rfl dX6_share_27 (rfl : 27 + 2 = 29) ?_
    refine z_if_eq (pt := 53) C dX6_share_29 (by decide) (rfl : 29 + 3 = 32) (iI_eq0 (by omega)).1 (fun q => mt (iI_eq0 (by omega)).2 q) (fun c2 => ?_) (fun c2 => ?_)
    · refine z_iconst C dX6_share_53 (rfl : 53 + 1 = 54) ?_
      refine z_iadd C dX6_share_54 (rfl : 54 + 1 = 55) rfl ?_
      refine z_istore_n (lv' := [(3, _), (5, _), (4, _), (0, _), (1, _), (2, _)]) C rfl dX6_share_55 (rfl : 55 + 1 = 56) (by decide) rfl ?_
      refine z_iinc (lv' := [(4, _), (3, _), (5, _), (0, _), (1, _), (2, _)]) C 2 dX6_share_56 (rfl : 56 + 3 = 59) rfl rfl (by decide) rfl ?_
      refine z_goto (pc' := 5) C dX6_share_59 (by decide) ?_
      refine z_sub [0, 1, 3, 4, 5] (lv' := [(4, .int (iI ((i + 1 : Nat) : Int))), (3, .int (iI (shc (rdV V a) (rdV V b) i + 0))), (0, .ref (q 30)), (1, .int (iI (a : Int))), (2, .int (iI (b : Int)))]) rfl ?_
      exact nx _ (by simp only [shc]; rw [if_neg (fun h => h.1 c2)])
    refine z_iload C 0 rfl dX6_share_32 (rfl : 32 + 2 = 34) ?_
    refine z_aload_n C 3 rfl rfl dX6_share_34 (rfl : 34 + 1 = 35) ?_
    refine z_get C xmm rfl iX6_share_X6 0 (by decide) lX6_share_f7 rfl rfl dX6_share_35 (rfl : 35 + 3 = 38) ?_
    refine z_bipush (c := 24) C (by decide) dX6_share_38 (rfl : 38 + 2 = 40) ?_
    refine z_iload_n C 5 rfl rfl dX6_share_40 (rfl : 40 + 1 = 41) ?_
    refine z_imul C dX6_share_41 (rfl : 41 + 1 = 42) rfl ?_
    refine z_iload C 1 rfl dX6_share_42 (rfl : 42 + 2 = 44) ?_
    refine z_iadd C dX6_share_44 (rfl : 44 + 1 = 45) rfl ?_
    refine z_iald (x := iI (V 0 (24 * b + i))) C xmm_0 ⟨by omega, by omega⟩ (by omega) rfl dX6_share_45 (rfl : 45 + 1 = 46) ?_
    refine z_icmp_ne (pt := 53) C dX6_share_46 (by decide) (rfl : 46 + 3 = 49) (fun q => mt (iI_eq (by omega) (by omega)).2 q) (iI_eq (by omega) (by omega)).1 (fun c3 => ?_) (fun c3 => ?_)
    · refine z_iconst C dX6_share_53 (rfl : 53 + 1 = 54) ?_
      refine z_iadd C dX6_share_54 (rfl : 54 + 1 = 55) rfl ?_
      refine z_istore_n (lv' := [(3, _), (5, _), (4, _), (0, _), (1, _), (2, _)]) C rfl dX6_share_55 (rfl : 55 + 1 = 56) (by decide) rfl ?_
      refine z_iinc (lv' := [(4, _), (3, _), (5, _), (0, _), (1, _), (2, _)]) C 2 dX6_share_56 (rfl : 56 + 3 = 59) rfl rfl (by decide) rfl ?_
      refine z_goto (pc' := 5) C dX6_share_59 (by decide) ?_
      refine z_sub [0, 1, 3, 4, 5] (lv' := [(4, .int (iI ((i + 1 : Nat) : Int))), (3, .int (iI (shc (rdV V a) (rdV V b) i + 0))), (0, .ref (q 30)), (1, .int (iI (a : Int))), (2, .int (iI (b : Int)))]) rfl ?_
      exact nx _ (by simp only [shc]; rw [if_neg (fun h => c3 h.2)])
    · refine z_iconst C dX6_share_49 (rfl : 49 + 1 = 50) ?_
      refine z_goto (pc' := 54) C dX6_share_50 (by decide) ?_
      refine z_iadd C dX6_share_54 (rfl : 54 + 1 = 55) rfl ?_
      refine z_istore_n (lv' := [(3, _), (5, _), (4, _), (0, _), (1, _), (2, _)]) C rfl dX6_share_55 (rfl : 55 + 1 = 56) (by decide) rfl ?_
      refine z_iinc (lv' := [(4, _), (3, _), (5, _), (0, _), (1, _), (2, _)]) C 2 dX6_share_56 (rfl : 56 + 3 = 59) rfl rfl (by decide) rfl ?_
      refine z_goto (pc' := 5) C dX6_share_59 (by decide) ?_
      refine z_sub [0, 1, 3, 4, 5] (lv' := [(4, .int (iI ((i + 1 : Nat) : Int))), (3, .int (iI (shc (rdV V a) (rdV V b) i + 1))), (0, .ref (q 30)), (1, .int (iI (a : Int))), (2, .int (iI (b : Int)))]) rfl ?_
      exact nx _ (by simp only [shc]; rw [if_pos ⟨c2, c3⟩])
theorem c_X6_share {a b : Nat} (ha : a < 40) (hb : b < 40) (hr : ∀ j, j < 960 → 0 ≤ V 0 j ∧ V 0 j ≤ 9) : MC l yX6_share wsX6_share rmX6_share G base [.ref (q 30), .int (iI (a : Int)), .int (iI (b : Int))] (xm G q V ++ Y) (fun v w => v = some (.int (iI (shV V a b))) ∧ w = (xm G q V ++ Y)) (fun _ _ => False) := by
  refine MC.of (cc := cX6_share) (by decide) rfl rfl (Nat.le_of_ble_eq_true rfl) ?_
  intro κ C hT hl hnm
  refine z_sub [0, 1, 2] (lv' := [(0, .ref (q 30)), (1, .int (iI (a : Int))), (2, .int (iI (b : Int)))]) rfl ?_
  refine z_iconst C dX6_share_0 (rfl : 0 + 1 = 1) ?_
  refine z_istore_n (lv' := [(3, _), (0, _), (1, _), (2, _)]) C rfl dX6_share_1 (rfl : 1 + 1 = 2) (by decide) rfl ?_
  refine z_iconst C dX6_share_2 (rfl : 2 + 1 = 3) ?_
  refine z_istore (lv' := [(4, _), (3, _), (0, _), (1, _), (2, _)]) C dX6_share_3 (rfl : 3 + 2 = 5) (by decide) rfl ?_
  exact lp_X6_share C ha hb hr ⟨rfl, rfl⟩ 24 0 rfl
abbrev rmX6_areKin : Room := { frames := 1, cells := 0, slots := 0, locals := 27 }
theorem c_X6_areKin {a b n m t : Nat} (hw : WFV V n m t) (ha : a < n) (hb : b < n) : MC l yX6_areKin wsX6_areKin rmX6_areKin G base [.ref (q 30), .int (iI (a : Int)), .int (iI (b : Int))] (xm G q V ++ Y) (fun v w => v = some (.int (iI (b01 (kinV V a b = true)))) ∧ w = (xm G q V ++ Y)) (fun _ _ => False) := by
  refine MC.of (cc := cX6_areKin) (by decide) rfl rfl (Nat.le_of_ble_eq_true rfl) ?_
  intro κ C hT hl hnm
  obtain ⟨⟨h5, -, -⟩, ⟨hn, -, -⟩, hr, ⟨hm0, hm⟩, ⟨-, ht⟩, -⟩ := hw
  have hs := shc_rng (rdV V a) (rdV V b) 24
  have ta := ht a (by omega)
  have tb := ht b (by omega)
  have ma : -1 ≤ V 1 a ∧ V 1 a < 40 := by
    rcases Nat.eq_zero_or_pos a with h | h
    · subst h; omega
    · have := hm a h ha; omega
  have mb : -1 ≤ V 1 b ∧ V 1 b < 40 := by
    rcases Nat.eq_zero_or_pos b with h | h
    · subst h; omega
    · have := hm b h hb; omega
  have hsv : shV V a b = shc (rdV V a) (rdV V b) 24 := rfl
  have kt : (0 < shV V a b ∨ (V 2 a = 1 ∧ V 1 a = (b : Int)) ∨ (V 2 b = 1 ∧ V 1 b = (a : Int))) → kinV V a b = true := fun h => by
    simp only [kinV, Bool.or_eq_true, decide_eq_true_eq]
    omega
  have kf : ¬ (0 < shV V a b ∨ (V 2 a = 1 ∧ V 1 a = (b : Int)) ∨ (V 2 b = 1 ∧ V 1 b = (a : Int))) → ¬ kinV V a b = true := fun h h2 => by
    simp only [kinV, Bool.or_eq_true, decide_eq_true_eq] at h2
    omega
  refine z_sub [0, 1, 2] (lv' := [(0, .ref (q 30)), (1, .int (iI (a : Int))), (2, .int (iI (b : Int)))]) rfl ?_
  refine z_aload_n C 0 rfl rfl dX6_areKin_0 (rfl : 0 + 1 = 1) ?_
  refine z_iload_n C 1 rfl rfl dX6_areKin_1 (rfl : 1 + 1 = 2) ?_
  refine z_iload_n C 2 rfl rfl dX6_areKin_2 (rfl : 2 + 1 = 3) ?_
  refine z_callV C 0 0 (c_X6_share (by omega) (by omega) hr) gX6_areKin_X6_share rfl hd41_X6_share ⟨Nat.le_of_ble_eq_true rfl, Nat.le_of_ble_eq_true rfl⟩ xmm rfl rfl (Nat.le_of_ble_eq_true rfl) dX6_areKin_3 (rfl : 3 + 3 = 6) rfl rfl ⟨Nat.le_of_ble_eq_true rfl, Nat.le_of_ble_eq_true rfl⟩ (fun _ _ h => h.elim) ?_ rfl
  rintro _ _ ⟨rfl, rfl⟩
  refine z_v1 ?_
  refine z_if_gt (pt := 47) C dX6_areKin_6 (by decide) (rfl : 6 + 3 = 9) (iI_0lt (by omega)).1 (fun q => mt (iI_0lt (by omega)).2 q) (fun c1 => ?_) (fun c1 => ?_)
  · refine z_iconst C dX6_areKin_47 (rfl : 47 + 1 = 48) ?_
    refine z_goto (pc' := 52) C dX6_areKin_48 (by decide) ?_
    exact z_zret C rfl (.inr rfl) dX6_areKin_52 ⟨by rw [b01_t (kt (.inl c1))], rfl⟩ (by decide) (by decide)
  refine z_aload_n C 0 rfl rfl dX6_areKin_9 (rfl : 9 + 1 = 10) ?_
  refine z_get C xmm rfl iX6_areKin_X6 2 (by decide) lX6_areKin_f16 rfl rfl dX6_areKin_10 (rfl : 10 + 3 = 13) ?_
  refine z_iload_n C 1 rfl rfl dX6_areKin_13 (rfl : 13 + 1 = 14) ?_
  refine z_zald (x := iI (V 2 (a))) C xmm_2 ⟨by omega, by omega⟩ (by omega) rfl dX6_areKin_14 (rfl : 14 + 1 = 15) ?_
  refine z_if_eq (pt := 28) C dX6_areKin_15 (by decide) (rfl : 15 + 3 = 18) (iI_eq0 (by omega)).1 (fun q => mt (iI_eq0 (by omega)).2 q) (fun c2 => ?_) (fun c2 => ?_)
  · refine z_aload_n C 0 rfl rfl dX6_areKin_28 (rfl : 28 + 1 = 29) ?_
    refine z_get C xmm rfl iX6_areKin_X6 2 (by decide) lX6_areKin_f16 rfl rfl dX6_areKin_29 (rfl : 29 + 3 = 32) ?_
    refine z_iload_n C 2 rfl rfl dX6_areKin_32 (rfl : 32 + 1 = 33) ?_
    refine z_zald (x := iI (V 2 (b))) C xmm_2 ⟨by omega, by omega⟩ (by omega) rfl dX6_areKin_33 (rfl : 33 + 1 = 34) ?_
    refine z_if_eq (pt := 51) C dX6_areKin_34 (by decide) (rfl : 34 + 3 = 37) (iI_eq0 (by omega)).1 (fun q => mt (iI_eq0 (by omega)).2 q) (fun c3 => ?_) (fun c3 => ?_)
    · refine z_iconst C dX6_areKin_51 (rfl : 51 + 1 = 52) ?_
      exact z_zret C rfl (.inl rfl) dX6_areKin_52 ⟨by rw [b01_f (kf (by omega))], rfl⟩ (by decide) (by decide)
    refine z_aload_n C 0 rfl rfl dX6_areKin_37 (rfl : 37 + 1 = 38) ?_
    refine z_get C xmm rfl iX6_areKin_X6 1 (by decide) lX6_areKin_f13 rfl rfl dX6_areKin_38 (rfl : 38 + 3 = 41) ?_
    refine z_iload_n C 2 rfl rfl dX6_areKin_41 (rfl : 41 + 1 = 42) ?_
    refine z_iald (x := iI (V 1 (b))) C xmm_1 ⟨by omega, by omega⟩ (by omega) rfl dX6_areKin_42 (rfl : 42 + 1 = 43) ?_
    refine z_iload_n C 1 rfl rfl dX6_areKin_43 (rfl : 43 + 1 = 44) ?_
    refine z_icmp_ne (pt := 51) C dX6_areKin_44 (by decide) (rfl : 44 + 3 = 47) (fun q => mt (iI_eq (by omega) (by omega)).2 q) (iI_eq (by omega) (by omega)).1 (fun c4 => ?_) (fun c4 => ?_)
    · refine z_iconst C dX6_areKin_51 (rfl : 51 + 1 = 52) ?_
      exact z_zret C rfl (.inl rfl) dX6_areKin_52 ⟨by rw [b01_f (kf (by omega))], rfl⟩ (by decide) (by decide)
    · refine z_iconst C dX6_areKin_47 (rfl : 47 + 1 = 48) ?_
      refine z_goto (pc' := 52) C dX6_areKin_48 (by decide) ?_
      exact z_zret C rfl (.inr rfl) dX6_areKin_52 ⟨by rw [b01_t (kt (by omega))], rfl⟩ (by decide) (by decide)
  refine z_aload_n C 0 rfl rfl dX6_areKin_18 (rfl : 18 + 1 = 19) ?_
  refine z_get C xmm rfl iX6_areKin_X6 1 (by decide) lX6_areKin_f13 rfl rfl dX6_areKin_19 (rfl : 19 + 3 = 22) ?_
  refine z_iload_n C 1 rfl rfl dX6_areKin_22 (rfl : 22 + 1 = 23) ?_
  refine z_iald (x := iI (V 1 (a))) C xmm_1 ⟨by omega, by omega⟩ (by omega) rfl dX6_areKin_23 (rfl : 23 + 1 = 24) ?_
  refine z_iload_n C 2 rfl rfl dX6_areKin_24 (rfl : 24 + 1 = 25) ?_
  refine z_icmp_eq (pt := 47) C dX6_areKin_25 (by decide) (rfl : 25 + 3 = 28) (iI_eq (by omega) (by omega)).1 (fun q => mt (iI_eq (by omega) (by omega)).2 q) (fun c5 => ?_) (fun c5 => ?_)
  · refine z_iconst C dX6_areKin_47 (rfl : 47 + 1 = 48) ?_
    refine z_goto (pc' := 52) C dX6_areKin_48 (by decide) ?_
    exact z_zret C rfl (.inr rfl) dX6_areKin_52 ⟨by rw [b01_t (kt (by omega))], rfl⟩ (by decide) (by decide)
  refine z_aload_n C 0 rfl rfl dX6_areKin_28 (rfl : 28 + 1 = 29) ?_
  refine z_get C xmm rfl iX6_areKin_X6 2 (by decide) lX6_areKin_f16 rfl rfl dX6_areKin_29 (rfl : 29 + 3 = 32) ?_
  refine z_iload_n C 2 rfl rfl dX6_areKin_32 (rfl : 32 + 1 = 33) ?_
  refine z_zald (x := iI (V 2 (b))) C xmm_2 ⟨by omega, by omega⟩ (by omega) rfl dX6_areKin_33 (rfl : 33 + 1 = 34) ?_
  refine z_if_eq (pt := 51) C dX6_areKin_34 (by decide) (rfl : 34 + 3 = 37) (iI_eq0 (by omega)).1 (fun q => mt (iI_eq0 (by omega)).2 q) (fun c3 => ?_) (fun c3 => ?_)
  · refine z_iconst C dX6_areKin_51 (rfl : 51 + 1 = 52) ?_
    exact z_zret C rfl (.inl rfl) dX6_areKin_52 ⟨by rw [b01_f (kf (by omega))], rfl⟩ (by decide) (by decide)
  refine z_aload_n C 0 rfl rfl dX6_areKin_37 (rfl : 37 + 1 = 38) ?_
  refine z_get C xmm rfl iX6_areKin_X6 1 (by decide) lX6_areKin_f13 rfl rfl dX6_areKin_38 (rfl : 38 + 3 = 41) ?_
  refine z_iload_n C 2 rfl rfl dX6_areKin_41 (rfl : 41 + 1 = 42) ?_
  refine z_iald (x := iI (V 1 (b))) C xmm_1 ⟨by omega, by omega⟩ (by omega) rfl dX6_areKin_42 (rfl : 42 + 1 = 43) ?_
  refine z_iload_n C 1 rfl rfl dX6_areKin_43 (rfl : 43 + 1 = 44) ?_
  refine z_icmp_ne (pt := 51) C dX6_areKin_44 (by decide) (rfl : 44 + 3 = 47) (fun q => mt (iI_eq (by omega) (by omega)).2 q) (iI_eq (by omega) (by omega)).1 (fun c4 => ?_) (fun c4 => ?_)
  · refine z_iconst C dX6_areKin_51 (rfl : 51 + 1 = 52) ?_
    exact z_zret C rfl (.inl rfl) dX6_areKin_52 ⟨by rw [b01_f (kf (by omega))], rfl⟩ (by decide) (by decide)
  · refine z_iconst C dX6_areKin_47 (rfl : 47 + 1 = 48) ?_
    refine z_goto (pc' := 52) C dX6_areKin_48 (by decide) ?_
    exact z_zret C rfl (.inr rfl) dX6_areKin_52 ⟨by rw [b01_t (kt (by omega))], rfl⟩ (by decide) (by decide)
abbrev rmX6_sorts : Room := { frames := 2, cells := 0, slots := 0, locals := 50 }
theorem lp_X6_sj (C : Cx κ cX6_sorts 4 wsX6_sorts RX6 none rmX6_sorts G base) {n m t k : Nat} (hw : WFV V n m t) (f0 : Nat → Int) (hk : k < n)
    (kk : ∀ (f : Nat → Int) (ch : Int), PsI V n f0 (k + 1) 0 f ch → Z κ 4 G base mc ms post exc 0 0 95 [(3, .int (iI (n : Int))), (2, .int (iI (k : Int))), (1, .int (iI ch)), (0, .ref (q 30))] [] (xm G q (va_up V 24 f) ++ Y)) :
    ∀ (d j : Nat) (f : Nat → Int) (ch : Int), j + d = n → PsI V n f0 k j f ch → Z κ 4 G base mc ms post exc 0 0 43 [(3, .int (iI (j : Int))), (2, .int (iI (k : Int))), (1, .int (iI ch)), (0, .ref (q 30))] [] (xm G q (va_up V 24 f) ++ Y) := by
  obtain ⟨⟨h5, -, -⟩, ⟨hn, -, -⟩, -⟩ := id hw
  have e5 : ∀ f, va_up V 24 f 5 0 = (n : Int) := fun f => by rw [va_up_ne _ _ (by decide)]; exact h5
  intro d
  induction d with
  | zero =>
    intro j f ch hj hI
    have e : j = n := by omega
    subst e
    refine z_iload_n C 0 rfl rfl dX6_sorts_43 (rfl : 43 + 1 = 44) ?_
    refine z_aload_n C 3 rfl rfl dX6_sorts_44 (rfl : 44 + 1 = 45) ?_
    refine z_get C xmm rfl iX6_sorts_X6 5 (by decide) lX6_sorts_f26 rfl rfl dX6_sorts_45 (rfl : 45 + 3 = 48) ?_
    rw [e5]
    refine z_icmp_ge (pt := 95) C dX6_sorts_48 (by decide) (rfl : 48 + 3 = 51) (iI_le (by omega) (by omega)).1 (fun q => mt (iI_le (by omega) (by omega)).2 q) (fun c1 => ?_) (fun c1 => ?_)
    · exact kk f ch hI.row
    · exact absurd c1 (by omega)
  | succ d ih =>
    intro j f ch hj hI
    have hjn : j < n := by omega
    obtain ⟨r1, a1, a2, -⟩ := hI.1 j hjn
    obtain ⟨r2, b1, b2, -⟩ := hI.1 k hk
    refine z_iload_n C 0 rfl rfl dX6_sorts_43 (rfl : 43 + 1 = 44) ?_
    refine z_aload_n C 3 rfl rfl dX6_sorts_44 (rfl : 44 + 1 = 45) ?_
    refine z_get C xmm rfl iX6_sorts_X6 5 (by decide) lX6_sorts_f26 rfl rfl dX6_sorts_45 (rfl : 45 + 3 = 48) ?_
    rw [e5]
    refine z_icmp_ge (pt := 95) C dX6_sorts_48 (by decide) (rfl : 48 + 3 = 51) (iI_le (by omega) (by omega)).1 (fun q => mt (iI_le (by omega) (by omega)).2 q) (fun c1 => ?_) (fun c1 => ?_)
    · exact absurd c1 (by omega)
    refine z_aload_n C 3 rfl rfl dX6_sorts_51 (rfl : 51 + 1 = 52) ?_
    refine z_get C xmm rfl iX6_sorts_X6 24 (by decide) lX6_sorts_f72 rfl rfl dX6_sorts_52 (rfl : 52 + 3 = 55) ?_
    refine z_iload_n C 0 rfl rfl dX6_sorts_55 (rfl : 55 + 1 = 56) ?_
    refine z_iald (x := iI ((va_up V 24 f) 24 (j))) C xmm_24 ⟨by omega, by omega⟩ (by omega) rfl dX6_sorts_56 (rfl : 56 + 1 = 57) ?_
    refine z_aload_n C 3 rfl rfl dX6_sorts_57 (rfl : 57 + 1 = 58) ?_
    refine z_get C xmm rfl iX6_sorts_X6 24 (by decide) lX6_sorts_f72 rfl rfl dX6_sorts_58 (rfl : 58 + 3 = 61) ?_
    refine z_iload_n C 1 rfl rfl dX6_sorts_61 (rfl : 61 + 1 = 62) ?_
    refine z_iald (x := iI ((va_up V 24 f) 24 (k))) C xmm_24 ⟨by omega, by omega⟩ (by omega) rfl dX6_sorts_62 (rfl : 62 + 1 = 63) ?_
    rw [va_up_self]
    refine z_icmp_ge (pt := 89) C dX6_sorts_63 (by decide) (rfl : 63 + 3 = 66) (iI_le (by omega) (by omega)).1 (fun q => mt (iI_le (by omega) (by omega)).2 q) (fun c2 => ?_) (fun c2 => ?_)
    · refine z_iinc (lv' := [(3, _), (2, _), (1, _), (0, _)]) C 0 dX6_sorts_89 (rfl : 89 + 3 = 92) rfl rfl (by decide) rfl ?_
      refine z_goto (pc' := 43) C dX6_sorts_92 (by decide) ?_
      refine z_sub [0, 1, 2, 3] (lv' := [(3, .int (iI ((j + 1 : Nat) : Int))), (2, .int (iI (k : Int))), (1, .int (iI ch)), (0, .ref (q 30))]) rfl ?_
      exact ih (j + 1) f ch (by omega) (hI.skip (fun h => absurd h.1 (by omega)))
    refine z_aload_n C 3 rfl rfl dX6_sorts_66 (rfl : 66 + 1 = 67) ?_
    refine z_iload_n C 1 rfl rfl dX6_sorts_67 (rfl : 67 + 1 = 68) ?_
    refine z_iload_n C 0 rfl rfl dX6_sorts_68 (rfl : 68 + 1 = 69) ?_
    refine z_callV C 0 0 (c_X6_areKin (V := va_up V 24 f) (n := n) (m := m) (t := t) (WFV.fam hw f) hk hjn) gX6_sorts_X6_areKin rfl hd41_X6_areKin ⟨Nat.le_of_ble_eq_true rfl, Nat.le_of_ble_eq_true rfl⟩ xmm rfl rfl (Nat.le_of_ble_eq_true rfl) dX6_sorts_69 (rfl : 69 + 3 = 72) rfl rfl ⟨Nat.le_of_ble_eq_true rfl, Nat.le_of_ble_eq_true rfl⟩ (fun _ _ h => h.elim) ?_ rfl
    rintro _ _ ⟨rfl, rfl⟩
    refine z_v1 ?_
    rw [kinV_fam]
    have hb := b01_01 (kinV V k j = true)
    refine z_if_eq (pt := 89) C dX6_sorts_72 (by decide) (rfl : 72 + 3 = 75) (iI_eq0 (by omega)).1 (fun q => mt (iI_eq0 (by omega)).2 q) (fun c3 => ?_) (fun c3 => ?_)
    · refine z_iinc (lv' := [(3, _), (2, _), (1, _), (0, _)]) C 0 dX6_sorts_89 (rfl : 89 + 3 = 92) rfl rfl (by decide) rfl ?_
      refine z_goto (pc' := 43) C dX6_sorts_92 (by decide) ?_
      refine z_sub [0, 1, 2, 3] (lv' := [(3, .int (iI ((j + 1 : Nat) : Int))), (2, .int (iI (k : Int))), (1, .int (iI ch)), (0, .ref (q 30))]) rfl ?_
      exact ih (j + 1) f ch (by omega) (hI.skip (fun h => by rw [b01_t h.2] at c3; omega))
    · have hkj : kinV V k j = true := by
        by_cases h : kinV V k j = true
        · exact h
        · rw [b01_f h] at c3; omega
      refine z_aload_n C 3 rfl rfl dX6_sorts_75 (rfl : 75 + 1 = 76) ?_
      refine z_get C xmm rfl iX6_sorts_X6 24 (by decide) lX6_sorts_f72 rfl rfl dX6_sorts_76 (rfl : 76 + 3 = 79) ?_
      refine z_iload_n C 1 rfl rfl dX6_sorts_79 (rfl : 79 + 1 = 80) ?_
      refine z_aload_n C 3 rfl rfl dX6_sorts_80 (rfl : 80 + 1 = 81) ?_
      refine z_get C xmm rfl iX6_sorts_X6 24 (by decide) lX6_sorts_f72 rfl rfl dX6_sorts_81 (rfl : 81 + 3 = 84) ?_
      refine z_iload_n C 0 rfl rfl dX6_sorts_84 (rfl : 84 + 1 = 85) ?_
      refine z_iald (x := iI ((va_up V 24 f) 24 (j))) C xmm_24 ⟨by omega, by omega⟩ (by omega) rfl dX6_sorts_85 (rfl : 85 + 1 = 86) ?_
      refine z_iast C xmm_24 ⟨by omega, by omega⟩ (by omega) dX6_sorts_86 (rfl : 86 + 1 = 87) (xms_24 (i := k)) ?_
      rw [va_up_self, up2_row, va_up_self, up_up]
      refine z_iconst C dX6_sorts_87 (rfl : 87 + 1 = 88) ?_
      refine z_istore_n (lv' := [(1, _), (3, _), (2, _), (0, _)]) C rfl dX6_sorts_88 (rfl : 88 + 1 = 89) (by decide) rfl ?_
      refine z_iinc (lv' := [(3, _), (1, _), (2, _), (0, _)]) C 1 dX6_sorts_89 (rfl : 89 + 3 = 92) rfl rfl (by decide) rfl ?_
      refine z_goto (pc' := 43) C dX6_sorts_92 (by decide) ?_
      refine z_sub [0, 2, 1, 3] (lv' := [(3, .int (iI ((j + 1 : Nat) : Int))), (2, .int (iI (k : Int))), (1, .int (iI 1)), (0, .ref (q 30))]) rfl ?_
      exact ih (j + 1) _ 1 (by omega) (hI.set hk hjn (by omega) hkj)
theorem lp_X6_sk (C : Cx κ cX6_sorts 4 wsX6_sorts RX6 none rmX6_sorts G base) {n m t : Nat} (hw : WFV V n m t) (f0 : Nat → Int)
    (kk : ∀ (f : Nat → Int) (ch : Int), PsI V n f0 n 0 f ch → Z κ 4 G base mc ms post exc 0 0 25 [(1, .int (iI ch)), (0, .ref (q 30))] [] (xm G q (va_up V 24 f) ++ Y)) :
    ∀ (d k : Nat) (f : Nat → Int) (ch : Int), k + d = n → PsI V n f0 k 0 f ch → Z κ 4 G base mc ms post exc 0 0 33 [(2, .int (iI (k : Int))), (1, .int (iI ch)), (0, .ref (q 30))] [] (xm G q (va_up V 24 f) ++ Y) := by
  obtain ⟨⟨h5, -, -⟩, ⟨hn, -, -⟩, -⟩ := id hw
  have e5 : ∀ f, va_up V 24 f 5 0 = (n : Int) := fun f => by rw [va_up_ne _ _ (by decide)]; exact h5
  intro d
  induction d with
  | zero =>
    intro k f ch hk hI
    have e : k = n := by omega
    subst e
    refine z_iload_n C 0 rfl rfl dX6_sorts_33 (rfl : 33 + 1 = 34) ?_
    refine z_aload_n C 2 rfl rfl dX6_sorts_34 (rfl : 34 + 1 = 35) ?_
    refine z_get C xmm rfl iX6_sorts_X6 5 (by decide) lX6_sorts_f26 rfl rfl dX6_sorts_35 (rfl : 35 + 3 = 38) ?_
    rw [e5]
    refine z_icmp_ge (pt := 101) C dX6_sorts_38 (by decide) (rfl : 38 + 3 = 41) (iI_le (by omega) (by omega)).1 (fun q => mt (iI_le (by omega) (by omega)).2 q) (fun c1 => ?_) (fun c1 => ?_)
    · refine z_goto (pc' := 25) C dX6_sorts_101 (by decide) ?_
      refine z_sub [1, 2] (lv' := [(1, .int (iI ch)), (0, .ref (q 30))]) rfl ?_
      exact kk f ch hI
    · exact absurd c1 (by omega)
  | succ d ih =>
    intro k f ch hk hI
    refine z_iload_n C 0 rfl rfl dX6_sorts_33 (rfl : 33 + 1 = 34) ?_
    refine z_aload_n C 2 rfl rfl dX6_sorts_34 (rfl : 34 + 1 = 35) ?_
    refine z_get C xmm rfl iX6_sorts_X6 5 (by decide) lX6_sorts_f26 rfl rfl dX6_sorts_35 (rfl : 35 + 3 = 38) ?_
    rw [e5]
    refine z_icmp_ge (pt := 101) C dX6_sorts_38 (by decide) (rfl : 38 + 3 = 41) (iI_le (by omega) (by omega)).1 (fun q => mt (iI_le (by omega) (by omega)).2 q) (fun c1 => ?_) (fun c1 => ?_)
    · exact absurd c1 (by omega)
    refine z_iconst C dX6_sorts_41 (rfl : 41 + 1 = 42) ?_
    refine z_istore_n (lv' := [(3, _), (2, _), (1, _), (0, _)]) C rfl dX6_sorts_42 (rfl : 42 + 1 = 43) (by decide) rfl ?_
    refine lp_X6_sj C hw f0 (k := k) (by omega) (fun f' ch' hI' => ?_) n 0 f ch (by omega) hI
    refine z_iinc (lv' := [(2, _), (3, _), (1, _), (0, _)]) C 1 dX6_sorts_95 (rfl : 95 + 3 = 98) rfl rfl (by decide) rfl ?_
    refine z_goto (pc' := 33) C dX6_sorts_98 (by decide) ?_
    refine z_sub [0, 2, 3] (lv' := [(2, .int (iI ((k + 1 : Nat) : Int))), (1, .int (iI ch')), (0, .ref (q 30))]) rfl ?_
    exact ih (k + 1) f' ch' (by omega) hI'
theorem lp_X6_sw (C : Cx κ cX6_sorts 4 wsX6_sorts RX6 none rmX6_sorts G base) {n m t : Nat} (hw : WFV V n m t) (hp : ∀ f : Nat → Int, IsFam V n f → post none (xm G q (va_up V 24 f) ++ Y)) :
    ∀ (μ : Nat) (f0 f : Nat → Int) (ch : Int), smI f n ≤ μ → (ch = 1 ∧ FmI V n f ∨ ch = 0 ∧ PsI V n f0 n 0 f 0) → Z κ 4 G base mc ms post exc 0 0 25 [(1, .int (iI ch)), (0, .ref (q 30))] [] (xm G q (va_up V 24 f) ++ Y) := by
  intro μ
  induction μ with
  | zero =>
    intro f0 f ch hμ hI
    refine z_iload_n C 0 rfl rfl dX6_sorts_25 (rfl : 25 + 1 = 26) ?_
    refine z_if_eq (pt := 104) C dX6_sorts_26 (by decide) (rfl : 26 + 3 = 29) (iI_eq0 (by omega)).1 (fun q => mt (iI_eq0 (by omega)).2 q) (fun c1 => ?_) (fun c1 => ?_)
    · rcases hI with ⟨h1, -⟩ | ⟨-, h2⟩
      · omega
      · exact z_vret C rfl dX6_sorts_104 (hp f h2.fam) (Nat.zero_le _) (Nat.zero_le _)
    · have hF : FmI V n f := by
        rcases hI with ⟨-, h1⟩ | ⟨h1, -⟩
        · exact h1
        · omega
      refine z_iconst C dX6_sorts_29 (rfl : 29 + 1 = 30) ?_
      refine z_istore_n (lv' := [(1, _), (0, _)]) C rfl dX6_sorts_30 (rfl : 30 + 1 = 31) (by decide) rfl ?_
      refine z_iconst C dX6_sorts_31 (rfl : 31 + 1 = 32) ?_
      refine z_istore_n (lv' := [(2, _), (1, _), (0, _)]) C rfl dX6_sorts_32 (rfl : 32 + 1 = 33) (by decide) rfl ?_
      refine lp_X6_sk C hw f (fun f' ch' hI' => ?_) n 0 f 0 (by omega) ⟨hF, .inl ⟨rfl, rfl, fun a b hab => absurd hab (by omega)⟩⟩
      have h0 := smI_nn (f := f') n (fun k hk => by obtain ⟨r, a1, -⟩ := hI'.1 k hk; omega)
      rcases hI'.2 with ⟨h1, -⟩ | ⟨-, h2⟩
      · subst h1
        refine z_iload_n C 0 rfl rfl dX6_sorts_25 (rfl : 25 + 1 = 26) ?_
        refine z_if_eq (pt := 104) C dX6_sorts_26 (by decide) (rfl : 26 + 3 = 29) (iI_eq0 (by omega)).1 (fun q => mt (iI_eq0 (by omega)).2 q) (fun c2 => ?_) (fun c2 => ?_)
        · exact z_vret C rfl dX6_sorts_104 (hp f' hI'.fam) (Nat.zero_le _) (Nat.zero_le _)
        · exact absurd rfl c2
      · omega
  | succ μ ih =>
    intro f0 f ch hμ hI
    refine z_iload_n C 0 rfl rfl dX6_sorts_25 (rfl : 25 + 1 = 26) ?_
    refine z_if_eq (pt := 104) C dX6_sorts_26 (by decide) (rfl : 26 + 3 = 29) (iI_eq0 (by omega)).1 (fun q => mt (iI_eq0 (by omega)).2 q) (fun c1 => ?_) (fun c1 => ?_)
    · rcases hI with ⟨h1, -⟩ | ⟨-, h2⟩
      · omega
      · exact z_vret C rfl dX6_sorts_104 (hp f h2.fam) (Nat.zero_le _) (Nat.zero_le _)
    · have hF : FmI V n f := by
        rcases hI with ⟨-, h1⟩ | ⟨h1, -⟩
        · exact h1
        · omega
      refine z_iconst C dX6_sorts_29 (rfl : 29 + 1 = 30) ?_
      refine z_istore_n (lv' := [(1, _), (0, _)]) C rfl dX6_sorts_30 (rfl : 30 + 1 = 31) (by decide) rfl ?_
      refine z_iconst C dX6_sorts_31 (rfl : 31 + 1 = 32) ?_
      refine z_istore_n (lv' := [(2, _), (1, _), (0, _)]) C rfl dX6_sorts_32 (rfl : 32 + 1 = 33) (by decide) rfl ?_
      refine lp_X6_sk C hw f (fun f' ch' hI' => ?_) n 0 f 0 (by omega) ⟨hF, .inl ⟨rfl, rfl, fun a b hab => absurd hab (by omega)⟩⟩
      rcases hI'.2 with ⟨h1, -⟩ | ⟨h1, h2⟩
      · subst h1
        refine z_iload_n C 0 rfl rfl dX6_sorts_25 (rfl : 25 + 1 = 26) ?_
        refine z_if_eq (pt := 104) C dX6_sorts_26 (by decide) (rfl : 26 + 3 = 29) (iI_eq0 (by omega)).1 (fun q => mt (iI_eq0 (by omega)).2 q) (fun c2 => ?_) (fun c2 => ?_)
        · exact z_vret C rfl dX6_sorts_104 (hp f' hI'.fam) (Nat.zero_le _) (Nat.zero_le _)
        · exact absurd rfl c2
      · exact ih f f' ch' (by omega) (.inl ⟨h1, hI'.1⟩)
theorem lp_X6_si (C : Cx κ cX6_sorts 4 wsX6_sorts RX6 none rmX6_sorts G base) {n m t : Nat} (hw : WFV V n m t) (kk : ∀ f : Nat → Int, (∀ k, k < n → f k = (k : Int)) → Z κ 4 G base mc ms post exc 0 0 25 [(1, .int (iI 1)), (0, .ref (q 30))] [] (xm G q (va_up V 24 f) ++ Y)) :
    ∀ (d k : Nat) (f : Nat → Int), k + d = n → (∀ j, j < k → f j = (j : Int)) → Z κ 4 G base mc ms post exc 0 0 2 [(1, .int (iI (k : Int))), (0, .ref (q 30))] [] (xm G q (va_up V 24 f) ++ Y) := by
  obtain ⟨⟨h5, -, -⟩, ⟨hn, -, -⟩, -⟩ := id hw
  have e5 : ∀ f, va_up V 24 f 5 0 = (n : Int) := fun f => by rw [va_up_ne _ _ (by decide)]; exact h5
  intro d
  induction d with
  | zero =>
    intro k f hk hf
    refine z_iload_n C 0 rfl rfl dX6_sorts_2 (rfl : 2 + 1 = 3) ?_
    refine z_aload_n C 1 rfl rfl dX6_sorts_3 (rfl : 3 + 1 = 4) ?_
    refine z_get C xmm rfl iX6_sorts_X6 5 (by decide) lX6_sorts_f26 rfl rfl dX6_sorts_4 (rfl : 4 + 3 = 7) ?_
    rw [e5]
    refine z_icmp_ge (pt := 23) C dX6_sorts_7 (by decide) (rfl : 7 + 3 = 10) (iI_le (by omega) (by omega)).1 (fun q => mt (iI_le (by omega) (by omega)).2 q) (fun c1 => ?_) (fun c1 => ?_)
    · refine z_iconst C dX6_sorts_23 (rfl : 23 + 1 = 24) ?_
      refine z_istore_n (lv' := [(1, _), (0, _)]) C rfl dX6_sorts_24 (rfl : 24 + 1 = 25) (by decide) rfl ?_
      exact kk f (fun j hj => hf j (by omega))
    · exact absurd c1 (by omega)
  | succ d ih =>
    intro k f hk hf
    refine z_iload_n C 0 rfl rfl dX6_sorts_2 (rfl : 2 + 1 = 3) ?_
    refine z_aload_n C 1 rfl rfl dX6_sorts_3 (rfl : 3 + 1 = 4) ?_
    refine z_get C xmm rfl iX6_sorts_X6 5 (by decide) lX6_sorts_f26 rfl rfl dX6_sorts_4 (rfl : 4 + 3 = 7) ?_
    rw [e5]
    refine z_icmp_ge (pt := 23) C dX6_sorts_7 (by decide) (rfl : 7 + 3 = 10) (iI_le (by omega) (by omega)).1 (fun q => mt (iI_le (by omega) (by omega)).2 q) (fun c1 => ?_) (fun c1 => ?_)
    · exact absurd c1 (by omega)
    refine z_aload_n C 1 rfl rfl dX6_sorts_10 (rfl : 10 + 1 = 11) ?_
    refine z_get C xmm rfl iX6_sorts_X6 24 (by decide) lX6_sorts_f72 rfl rfl dX6_sorts_11 (rfl : 11 + 3 = 14) ?_
    refine z_iload_n C 0 rfl rfl dX6_sorts_14 (rfl : 14 + 1 = 15) ?_
    refine z_iload_n C 0 rfl rfl dX6_sorts_15 (rfl : 15 + 1 = 16) ?_
    refine z_iast C xmm_24 ⟨by omega, by omega⟩ (by omega) dX6_sorts_16 (rfl : 16 + 1 = 17) (xms_24 (i := k)) ?_
    rw [up2_row, va_up_self, up_up]
    refine z_iinc (lv' := [(1, _), (0, _)]) C 0 dX6_sorts_17 (rfl : 17 + 3 = 20) rfl rfl (by decide) rfl ?_
    refine z_goto (pc' := 2) C dX6_sorts_20 (by decide) ?_
    refine z_sub [0, 1] (lv' := [(1, .int (iI ((k + 1 : Nat) : Int))), (0, .ref (q 30))]) rfl ?_
    refine ih (k + 1) _ (by omega) (fun j hj => ?_)
    by_cases e : j = k
    · subst e; rw [va_up_self]
    · rw [va_up_ne _ _ e]; exact hf j (by omega)
theorem c_X6_sorts {n m t : Nat} (hw : WFV V n m t) : MC l yX6_sorts wsX6_sorts rmX6_sorts G base [.ref (q 30)] (xm G q V ++ Y) (fun v w => v = none ∧ ∃ f : Nat → Int, IsFam V n f ∧ w = xm G q (va_up V 24 f) ++ Y) (fun _ _ => False) := by
  refine MC.of (cc := cX6_sorts) (by decide) rfl rfl (Nat.le_of_ble_eq_true rfl) ?_
  intro κ C hT hl hnm
  refine z_iconst C dX6_sorts_0 (rfl : 0 + 1 = 1) ?_
  refine z_istore_n (lv' := [(1, _), (0, _)]) C rfl dX6_sorts_1 (rfl : 1 + 1 = 2) (by decide) rfl ?_
  have hh := lp_X6_si (mc := 0) (ms := 0) C hw (post := fun v w => v = none ∧ ∃ f : Nat → Int, IsFam V n f ∧ w = xm G q (va_up V 24 f) ++ Y) (exc := fun _ _ => False) (fun f hf => lp_X6_sw C hw (fun f hf => ⟨rfl, f, hf, rfl⟩) (smI f n).toNat f f 1 (Int.self_le_toNat _) (.inl ⟨rfl, fun k hk => ⟨k, hf k hk, Nat.le_refl _, .rf⟩⟩)) n 0 (V 24) (by omega) (fun j hj => absurd hj (by omega))
  rw [up_self] at hh
  exact hh
end
