theorem lX5_rightGuesses_f16 : Cond.fieldLink RX5 16 "ModelCopies" "copies" "Ljava/util/ArrayList;" ∈ wsX5_rightGuesses := by decide +kernel
theorem iX5_rightGuesses_X5 : ∀ w ∈ wsX50, w ∈ wsX5_rightGuesses := by decide +kernel
theorem hd63_Jx4a65c_size_8abf5 : yJx4a65c_size_8abf5.cls = RJx4a65c ∧ yJx4a65c_size_8abf5.cls ≠ "java/lang/invoke/MethodHandle" ∧ yJx4a65c_size_8abf5.cls ≠ "java/lang/invoke/VarHandle" ∧ (parseMethodDescriptor yJx4a65c_size_8abf5.desc).map (fun d => d.parameters.length) = some 0 := by decide +kernel
theorem hd63_Jx4a65c_get_915e3 : yJx4a65c_get_915e3.cls = RJx4a65c ∧ yJx4a65c_get_915e3.cls ≠ "java/lang/invoke/MethodHandle" ∧ yJx4a65c_get_915e3.cls ≠ "java/lang/invoke/VarHandle" ∧ (parseMethodDescriptor yJx4a65c_get_915e3.desc).map (fun d => d.parameters.length) = some 1 := by decide +kernel
theorem lX5_rightGuesses_c49 : Cond.classLink RX5 49 "ModelCopies$Copy" ∈ wsX5_rightGuesses := by decide +kernel
theorem hd63_X5_guessFor : yX5_guessFor.cls = RX5 ∧ yX5_guessFor.cls ≠ "java/lang/invoke/MethodHandle" ∧ yX5_guessFor.cls ≠ "java/lang/invoke/VarHandle" ∧ (parseMethodDescriptor yX5_guessFor.desc).map (fun d => d.parameters.length) = some 1 := by decide +kernel
theorem lX5_rightGuesses_f121 : Cond.fieldLink RX5 121 "ModelCopies$Copy" "model" "LModelCopies$Copy;" ∈ wsX5_rightGuesses := by decide +kernel
theorem iX5_rightGuesses_X0 : ∀ w ∈ wsX00, w ∈ wsX5_rightGuesses := by decide +kernel
theorem lX5_sources_f16 : Cond.fieldLink RX5 16 "ModelCopies" "copies" "Ljava/util/ArrayList;" ∈ wsX5_sources := by decide +kernel
theorem iX5_sources_X5 : ∀ w ∈ wsX50, w ∈ wsX5_sources := by decide +kernel
theorem lX5_sources_c49 : Cond.classLink RX5 49 "ModelCopies$Copy" ∈ wsX5_sources := by decide +kernel
theorem lX5_sources_f139 : Cond.fieldLink RX5 139 "ModelCopies$Copy" "readings" "[I" ∈ wsX5_sources := by decide +kernel
theorem iX5_sources_X0 : ∀ w ∈ wsX00, w ∈ wsX5_sources := by decide +kernel
theorem hd63_X5_requireError : yX5_requireError.cls ≠ "java/lang/invoke/MethodHandle" ∧ yX5_requireError.cls ≠ "java/lang/invoke/VarHandle" ∧ (parseMethodDescriptor yX5_requireError.desc).map (fun d => d.parameters.length) = some 2 := by decide +kernel
section
variable {κ : KxT} {G : GG} {base mc ms : Nat} {post : Option Value → va_W → Prop} {exc : String → va_W → Prop} {X : va_W} {L : List Nat} {K : Nat → Nat} {I : Nat → Nat → Int} {F : Nat → Nat → Option Nat} {R : Nat → Nat → Int} {N : Nat → Nat} {O : Nat → Nat → Option Nat} {l : Launch}
variable {de n m t : Nat} {T : Nat → Nat} {g : Nat → Nat → Nat} {V : Nat → Nat → Int}
abbrev rmX5_rightGuesses : Room := { frames := 5, cells := 0, slots := 0, locals := 160 }
theorem lp_X5_rightGuesses (C : Cx κ cX5_rightGuesses 4 wsX5_rightGuesses RX5 (some .int) rmX5_rightGuesses G base) (h : RP de L K I F R N O T g V 5 n m t) (hw : WFV V n m t)
    (kk : ∀ lv : List (Nat × Value), Z κ 4 G base mc ms post exc 0 0 62 ((2, .int (iI (n : Int))) :: (1, .int (iI (smI (fun i => b01 (0 < i ∧ gsV V i = V 1 i)) n))) :: lv) [] (pw G X L K I F R N O)) :
    ∀ (d k : Nat), k + d = n → Z κ 4 G base mc ms post exc 0 0 4 [(2, .int (iI (k : Int))), (1, .int (iI (smI (fun i => b01 (0 < i ∧ gsV V i = V 1 i)) k))), (0, .ref (g 6 0))] [] (pw G X L K I F R N O) := by
  have hn := hw.2.1
  intro d
  induction d with
  | zero =>
    intro k hk
    have e : k = n := by omega
    subst e
    refine z_iload_n C 0 rfl rfl dX5_rightGuesses_4 (rfl : 4 + 1 = 5) ?_
    refine z_aload_n C 2 rfl rfl dX5_rightGuesses_5 (rfl : 5 + 1 = 6) ?_
    refine z_get C (pwm_MC h.x9.1 h.x9.2.1) rfl iX5_rightGuesses_X5 1 (by decide) lX5_rightGuesses_f16 rfl rfl dX5_rightGuesses_6 (rfl : 6 + 3 = 9) ?_
    rw [h.x9.2.2]
    refine z_callV C 0 0 (c_list_size h.l1) gX5_rightGuesses_Jx4a65c_size_8abf5 rfl hd63_Jx4a65c_size_8abf5 ⟨Nat.le_of_ble_eq_true rfl, Nat.le_of_ble_eq_true rfl⟩ (pwm_AL h.l1.1 h.l1.2.1) rfl rfl (Nat.le_of_ble_eq_true rfl) dX5_rightGuesses_9 (rfl : 9 + 3 = 12) rfl rfl ⟨Nat.le_of_ble_eq_true rfl, Nat.le_of_ble_eq_true rfl⟩ (fun _ _ h => h.elim) ?_ rfl
    rintro _ _ ⟨rfl, rfl⟩
    refine z_v1 ?_
    refine z_icmp_ge (pt := 62) C dX5_rightGuesses_12 (by decide) (rfl : 12 + 3 = 15) (iI_le (by omega) (by omega)).1 (fun q => mt (iI_le (by omega) (by omega)).2 q) (fun c => ?_) (fun c => ?_)
    · exact kk _
    · exact absurd c (by omega)
  | succ d ih =>
    intro k hk
    have hkn : k < n := by omega
    have sk : ∀ lv : List (Nat × Value), ¬ (0 < k ∧ gsV V k = V 1 k) → Z κ 4 G base mc ms post exc 0 0 56 [(3, lv.headD (0, .null) |>.2), (2, .int (iI (k : Int))), (1, .int (iI (smI (fun i => b01 (0 < i ∧ gsV V i = V 1 i)) k))), (0, .ref (g 6 0))] [] (pw G X L K I F R N O) := fun lv hh => by
      refine z_iinc (lv' := [(2, _), (3, _), (1, _), (0, _)]) C 1 dX5_rightGuesses_56 (rfl : 56 + 3 = 59) rfl rfl (by decide) rfl ?_
      refine z_goto (pc' := 4) C dX5_rightGuesses_59 (by decide) ?_
      have e : smI (fun i => b01 (0 < i ∧ gsV V i = V 1 i)) (k + 1) = smI (fun i => b01 (0 < i ∧ gsV V i = V 1 i)) k := by
        show smI _ k + b01 (0 < k ∧ gsV V k = V 1 k) = _
        rw [b01_f hh, Int.add_zero]
      rw [← e]
      exact z_sub [0, 2, 3] rfl (ih (k + 1) (by omega))
    refine z_iload_n C 0 rfl rfl dX5_rightGuesses_4 (rfl : 4 + 1 = 5) ?_
    refine z_aload_n C 2 rfl rfl dX5_rightGuesses_5 (rfl : 5 + 1 = 6) ?_
    refine z_get C (pwm_MC h.x9.1 h.x9.2.1) rfl iX5_rightGuesses_X5 1 (by decide) lX5_rightGuesses_f16 rfl rfl dX5_rightGuesses_6 (rfl : 6 + 3 = 9) ?_
    rw [h.x9.2.2]
    refine z_callV C 0 0 (c_list_size h.l1) gX5_rightGuesses_Jx4a65c_size_8abf5 rfl hd63_Jx4a65c_size_8abf5 ⟨Nat.le_of_ble_eq_true rfl, Nat.le_of_ble_eq_true rfl⟩ (pwm_AL h.l1.1 h.l1.2.1) rfl rfl (Nat.le_of_ble_eq_true rfl) dX5_rightGuesses_9 (rfl : 9 + 3 = 12) rfl rfl ⟨Nat.le_of_ble_eq_true rfl, Nat.le_of_ble_eq_true rfl⟩ (fun _ _ h => h.elim) ?_ rfl
    rintro _ _ ⟨rfl, rfl⟩
    refine z_v1 ?_
    refine z_icmp_ge (pt := 62) C dX5_rightGuesses_12 (by decide) (rfl : 12 + 3 = 15) (iI_le (by omega) (by omega)).1 (fun q => mt (iI_le (by omega) (by omega)).2 q) (fun c => ?_) (fun c => ?_)
    · exact absurd c (by omega)
    refine z_aload_n C 2 rfl rfl dX5_rightGuesses_15 (rfl : 15 + 1 = 16) ?_
    refine z_aload_n C 2 rfl rfl dX5_rightGuesses_16 (rfl : 16 + 1 = 17) ?_
    refine z_get C (pwm_MC h.x9.1 h.x9.2.1) rfl iX5_rightGuesses_X5 1 (by decide) lX5_rightGuesses_f16 rfl rfl dX5_rightGuesses_17 (rfl : 17 + 3 = 20) ?_
    rw [h.x9.2.2]
    refine z_iload_n C 0 rfl rfl dX5_rightGuesses_20 (rfl : 20 + 1 = 21) ?_
    refine z_callV C 0 0 (c_list_get (i := k) h.l1 hkn) gX5_rightGuesses_Jx4a65c_get_915e3 rfl hd63_Jx4a65c_get_915e3 ⟨Nat.le_of_ble_eq_true rfl, Nat.le_of_ble_eq_true rfl⟩ (pwm_AL h.l1.1 h.l1.2.1) rfl rfl (Nat.le_of_ble_eq_true rfl) dX5_rightGuesses_21 (rfl : 21 + 3 = 24) rfl rfl ⟨Nat.le_of_ble_eq_true rfl, Nat.le_of_ble_eq_true rfl⟩ (fun _ _ h => h.elim) ?_ rfl
    rintro _ _ ⟨rfl, rfl⟩
    refine z_v1 ?_
    refine z_cast C (pwm_Copy (h.g0 hkn).1 (h.g0 hkn).2) rfl lX5_rightGuesses_c49 dX5_rightGuesses_24 (rfl : 24 + 3 = 27) ?_
    refine z_callV C 0 0 (c_X5_guessFor h hw hkn) gX5_rightGuesses_X5_guessFor rfl hd63_X5_guessFor ⟨Nat.le_of_ble_eq_true rfl, Nat.le_of_ble_eq_true rfl⟩ (pwm_MC h.x8.1 h.x8.2.1) rfl rfl (Nat.le_of_ble_eq_true rfl) dX5_rightGuesses_27 (rfl : 27 + 3 = 30) rfl rfl ⟨Nat.le_of_ble_eq_true rfl, Nat.le_of_ble_eq_true rfl⟩ (fun _ _ h => h.elim) ?_ rfl
    rintro _ _ ⟨rfl, rfl⟩
    refine z_v1 ?_
    by_cases c0 : k = 0
    · rw [show gsO g V k = none from if_pos c0]
      refine z_astore_nN (lv' := [(3, .null), (2, .int (iI (k : Int))), (1, .int (iI (smI (fun i => b01 (0 < i ∧ gsV V i = V 1 i)) k))), (0, .ref (g 6 0))]) C rfl dX5_rightGuesses_30 (rfl : 30 + 1 = 31) (by decide) rfl ?_
      refine z_aload_nN C 0 rfl rfl dX5_rightGuesses_31 (rfl : 31 + 1 = 32) ?_
      refine z_ifnullN (pc' := 56) C dX5_rightGuesses_32 (by decide) ?_
      exact sk [] (by omega)
    have hg := gsV_rng hw hkn (by omega)
    have h1 := hw.2.2.2.1.2 k (by omega) hkn
    rw [show gsO g V k = some (g 0 (gsV V k).toNat) from if_neg c0]
    refine z_astore_n (lv' := [(3, _), (2, _), (1, _), (0, _)]) C rfl dX5_rightGuesses_30 (rfl : 30 + 1 = 31) (by decide) rfl ?_
    refine z_aload_n C 0 rfl rfl dX5_rightGuesses_31 (rfl : 31 + 1 = 32) ?_
    refine z_ifnull C dX5_rightGuesses_32 (rfl : 32 + 3 = 35) ?_
    refine z_aload_n C 0 rfl rfl dX5_rightGuesses_35 (rfl : 35 + 1 = 36) ?_
    refine z_aload_n C 3 rfl rfl dX5_rightGuesses_36 (rfl : 36 + 1 = 37) ?_
    refine z_get C (pwm_MC h.x9.1 h.x9.2.1) rfl iX5_rightGuesses_X5 1 (by decide) lX5_rightGuesses_f16 rfl rfl dX5_rightGuesses_37 (rfl : 37 + 3 = 40) ?_
    rw [h.x9.2.2]
    refine z_iload_n C 1 rfl rfl dX5_rightGuesses_40 (rfl : 40 + 1 = 41) ?_
    refine z_callV C 0 0 (c_list_get (i := k) h.l1 hkn) gX5_rightGuesses_Jx4a65c_get_915e3 rfl hd63_Jx4a65c_get_915e3 ⟨Nat.le_of_ble_eq_true rfl, Nat.le_of_ble_eq_true rfl⟩ (pwm_AL h.l1.1 h.l1.2.1) rfl rfl (Nat.le_of_ble_eq_true rfl) dX5_rightGuesses_41 (rfl : 41 + 3 = 44) rfl rfl ⟨Nat.le_of_ble_eq_true rfl, Nat.le_of_ble_eq_true rfl⟩ (fun _ _ h => h.elim) ?_ rfl
    rintro _ _ ⟨rfl, rfl⟩
    refine z_v1 ?_
    refine z_cast C (pwm_Copy (h.g0 hkn).1 (h.g0 hkn).2) rfl lX5_rightGuesses_c49 dX5_rightGuesses_44 (rfl : 44 + 3 = 47) ?_
    refine z_get C (pwm_Copy (h.g0 hkn).1 (h.g0 hkn).2) rfl iX5_rightGuesses_X0 1 (by decide) lX5_rightGuesses_f121 rfl rfl dX5_rightGuesses_47 (rfl : 47 + 3 = 50) ?_
    rw [(h.2.1.2.2.2.1 k hkn).2.2.2.1, if_neg (show ¬ V 1 k = -1 by omega)]
    refine z_acmp_ne (pt := 56) C (some (g 0 (gsV V k).toNat)) (some (g 0 (V 1 k).toNat)) dX5_rightGuesses_50 (by decide) (rfl : 50 + 3 = 53) (fun c2 => ?_) (fun c2 => ?_)
    · exact sk [(0, .ref (g 0 (gsV V k).toNat))] (fun hh => c2 (by rw [hh.2]))
    have e1 := h.inj0 hw (i := (gsV V k).toNat) (j := (V 1 k).toNat) (by omega) (by omega) (Option.some.inj c2)
    refine z_iinc (lv' := [(1, _), (3, _), (2, _), (0, _)]) C 2 dX5_rightGuesses_53 (rfl : 53 + 3 = 56) rfl rfl (by decide) rfl ?_
    refine z_iinc (lv' := [(2, _), (1, _), (3, _), (0, _)]) C 2 dX5_rightGuesses_56 (rfl : 56 + 3 = 59) rfl rfl (by decide) rfl ?_
    refine z_goto (pc' := 4) C dX5_rightGuesses_59 (by decide) ?_
    have e : smI (fun i => b01 (0 < i ∧ gsV V i = V 1 i)) (k + 1) = smI (fun i => b01 (0 < i ∧ gsV V i = V 1 i)) k + 1 := by
      show smI _ k + b01 (0 < k ∧ gsV V k = V 1 k) = _
      rw [b01_t ⟨by omega, by omega⟩]
    have := ih (k + 1) (by omega)
    rw [e] at this
    exact z_sub [0, 1, 3] rfl this
theorem c_X5_rightGuesses (h : RX de L K I F R N O T g V n m t) (hw : WFV V n m t) : MC l yX5_rightGuesses wsX5_rightGuesses rmX5_rightGuesses G base [.ref (g 6 0)] (pw G X L K I F R N O) (fun v w => w = (pw G X L K I F R N O) ∧ v = some (.int (iI (smI (fun i => b01 (0 < i ∧ gsV V i = V 1 i)) n)))) (fun _ _ => False) := by
  refine MC.of (cc := cX5_rightGuesses) (by decide) rfl rfl (Nat.le_of_ble_eq_true rfl) ?_
  intro κ C hT hl hnm
  refine z_iconst C dX5_rightGuesses_0 (rfl : 0 + 1 = 1) ?_
  refine z_istore_n (lv' := [(1, _), (0, _)]) C rfl dX5_rightGuesses_1 (rfl : 1 + 1 = 2) (by decide) rfl ?_
  refine z_iconst C dX5_rightGuesses_2 (rfl : 2 + 1 = 3) ?_
  refine z_istore_n (lv' := [(2, _), (1, _), (0, _)]) C rfl dX5_rightGuesses_3 (rfl : 3 + 1 = 4) (by decide) rfl ?_
  refine lp_X5_rightGuesses C h.1 hw (fun lv => ?_) n 0 (by omega)
  refine z_iload_n C 1 rfl rfl dX5_rightGuesses_62 (rfl : 62 + 1 = 63) ?_
  exact z_iret C rfl dX5_rightGuesses_63 ⟨rfl, rfl⟩ (by decide) (by decide)
abbrev rmX5_sources : Room := { frames := 8, cells := 2, slots := 12, locals := 180 }
theorem lp_X5_sources (C : Cx κ cX5_sources 7 wsX5_sources RX5 (some .int) rmX5_sources G base) {p : Nat} {r : Int} (hp : p < 24) (hr : 1 ≤ r ∧ r ≤ 9) (h : RP de L K I F R N O T g V 5 n m t) (hw : WFV V n m t)
    (kk : ∀ lv : List (Nat × Value), Z κ 7 G base mc ms post exc 2 12 80 ((4, .int (iI (n : Int))) :: (3, .int (iI (smI (fun i => b01 (V 0 (24 * i + p) = r ∧ (i = 0 ∨ ¬ V 0 (24 * (gsV V i).toNat + p) = r))) n))) :: lv) [] (pw G X L K I F R N O)) :
    ∀ (d k : Nat), k + d = n → Z κ 7 G base mc ms post exc 2 12 10 [(4, .int (iI (k : Int))), (3, .int (iI (smI (fun i => b01 (V 0 (24 * i + p) = r ∧ (i = 0 ∨ ¬ V 0 (24 * (gsV V i).toNat + p) = r))) k))), (0, .ref (g 6 0)), (1, .int (iI (p : Int))), (2, .int (iI r))] [] (pw G X L K I F R N O) := by
  have hn := hw.2.1
  intro d
  induction d with
  | zero =>
    intro k hk
    have e : k = n := by omega
    subst e
    refine z_iload C 0 rfl dX5_sources_10 (rfl : 10 + 2 = 12) ?_
    refine z_aload_n C 2 rfl rfl dX5_sources_12 (rfl : 12 + 1 = 13) ?_
    refine z_get C (pwm_MC h.x9.1 h.x9.2.1) rfl iX5_sources_X5 1 (by decide) lX5_sources_f16 rfl rfl dX5_sources_13 (rfl : 13 + 3 = 16) ?_
    rw [h.x9.2.2]
    refine z_callV C 2 12 (c_list_size h.l1) gX5_sources_Jx4a65c_size_8abf5 rfl hd63_Jx4a65c_size_8abf5 ⟨Nat.le_of_ble_eq_true rfl, Nat.le_of_ble_eq_true rfl⟩ (pwm_AL h.l1.1 h.l1.2.1) rfl rfl (Nat.le_of_ble_eq_true rfl) dX5_sources_16 (rfl : 16 + 3 = 19) rfl rfl ⟨Nat.le_of_ble_eq_true rfl, Nat.le_of_ble_eq_true rfl⟩ (fun _ _ h => h.elim) ?_ rfl
    rintro _ _ ⟨rfl, rfl⟩
    refine z_v1 ?_
    refine z_icmp_ge (pt := 80) C dX5_sources_19 (by decide) (rfl : 19 + 3 = 22) (iI_le (by omega) (by omega)).1 (fun q => mt (iI_le (by omega) (by omega)).2 q) (fun c => ?_) (fun c => ?_)
    · exact kk _
    · exact absurd c (by omega)
  | succ d ih =>
    intro k hk
    have hkn : k < n := by omega
    have hrk := hw.2.2.1 (24 * k + p) (by omega)
    have sk : ∀ lv : List (Nat × Value), ¬ (V 0 (24 * k + p) = r ∧ (k = 0 ∨ ¬ V 0 (24 * (gsV V k).toNat + p) = r)) → Z κ 7 G base mc ms post exc 2 12 74 ((4, .int (iI (k : Int))) :: (3, .int (iI (smI (fun i => b01 (V 0 (24 * i + p) = r ∧ (i = 0 ∨ ¬ V 0 (24 * (gsV V i).toNat + p) = r))) k))) :: (0, .ref (g 6 0)) :: (1, .int (iI (p : Int))) :: (2, .int (iI r)) :: []) [] (pw G X L K I F R N O) := fun lv hh => by
      refine z_iinc (lv' := [(4, _), (3, _), (0, _), (1, _), (2, _)]) C 0 dX5_sources_74 (rfl : 74 + 3 = 77) rfl rfl (by decide) rfl ?_
      refine z_goto (pc' := 10) C dX5_sources_77 (by decide) ?_
      have e : smI (fun i => b01 (V 0 (24 * i + p) = r ∧ (i = 0 ∨ ¬ V 0 (24 * (gsV V i).toNat + p) = r))) (k + 1) = smI (fun i => b01 (V 0 (24 * i + p) = r ∧ (i = 0 ∨ ¬ V 0 (24 * (gsV V i).toNat + p) = r))) k := by
        show smI _ k + b01 (V 0 (24 * k + p) = r ∧ (k = 0 ∨ ¬ V 0 (24 * (gsV V k).toNat + p) = r)) = _
        rw [b01_f hh, Int.add_zero]
      rw [← e]
      exact ih (k + 1) (by omega)
    have tk : V 0 (24 * k + p) = r ∧ (k = 0 ∨ ¬ V 0 (24 * (gsV V k).toNat + p) = r) → Z κ 7 G base mc ms post exc 2 12 71 ((4, .int (iI (k : Int))) :: (3, .int (iI (smI (fun i => b01 (V 0 (24 * i + p) = r ∧ (i = 0 ∨ ¬ V 0 (24 * (gsV V i).toNat + p) = r))) k))) :: (0, .ref (g 6 0)) :: (1, .int (iI (p : Int))) :: (2, .int (iI r)) :: []) [] (pw G X L K I F R N O) := fun hh => by
      refine z_iinc (lv' := [(3, _), (4, _), (0, _), (1, _), (2, _)]) C 1 dX5_sources_71 (rfl : 71 + 3 = 74) rfl rfl (by decide) rfl ?_
      refine z_iinc (lv' := [(4, _), (3, _), (0, _), (1, _), (2, _)]) C 1 dX5_sources_74 (rfl : 74 + 3 = 77) rfl rfl (by decide) rfl ?_
      refine z_goto (pc' := 10) C dX5_sources_77 (by decide) ?_
      have e : smI (fun i => b01 (V 0 (24 * i + p) = r ∧ (i = 0 ∨ ¬ V 0 (24 * (gsV V i).toNat + p) = r))) (k + 1) = smI (fun i => b01 (V 0 (24 * i + p) = r ∧ (i = 0 ∨ ¬ V 0 (24 * (gsV V i).toNat + p) = r))) k + 1 := by
        show smI _ k + b01 (V 0 (24 * k + p) = r ∧ (k = 0 ∨ ¬ V 0 (24 * (gsV V k).toNat + p) = r)) = _
        rw [b01_t hh]
      have := ih (k + 1) (by omega)
      rw [e] at this
      exact z_sub [0, 1, 2, 3, 4] rfl this
    refine z_iload C 0 rfl dX5_sources_10 (rfl : 10 + 2 = 12) ?_
    refine z_aload_n C 2 rfl rfl dX5_sources_12 (rfl : 12 + 1 = 13) ?_
    refine z_get C (pwm_MC h.x9.1 h.x9.2.1) rfl iX5_sources_X5 1 (by decide) lX5_sources_f16 rfl rfl dX5_sources_13 (rfl : 13 + 3 = 16) ?_
    rw [h.x9.2.2]
    refine z_callV C 2 12 (c_list_size h.l1) gX5_sources_Jx4a65c_size_8abf5 rfl hd63_Jx4a65c_size_8abf5 ⟨Nat.le_of_ble_eq_true rfl, Nat.le_of_ble_eq_true rfl⟩ (pwm_AL h.l1.1 h.l1.2.1) rfl rfl (Nat.le_of_ble_eq_true rfl) dX5_sources_16 (rfl : 16 + 3 = 19) rfl rfl ⟨Nat.le_of_ble_eq_true rfl, Nat.le_of_ble_eq_true rfl⟩ (fun _ _ h => h.elim) ?_ rfl
    rintro _ _ ⟨rfl, rfl⟩
    refine z_v1 ?_
    refine z_icmp_ge (pt := 80) C dX5_sources_19 (by decide) (rfl : 19 + 3 = 22) (iI_le (by omega) (by omega)).1 (fun q => mt (iI_le (by omega) (by omega)).2 q) (fun c => ?_) (fun c => ?_)
    · exact absurd c (by omega)
    refine z_aload_n C 2 rfl rfl dX5_sources_22 (rfl : 22 + 1 = 23) ?_
    refine z_get C (pwm_MC h.x9.1 h.x9.2.1) rfl iX5_sources_X5 1 (by decide) lX5_sources_f16 rfl rfl dX5_sources_23 (rfl : 23 + 3 = 26) ?_
    rw [h.x9.2.2]
    refine z_iload C 0 rfl dX5_sources_26 (rfl : 26 + 2 = 28) ?_
    refine z_callV C 2 12 (c_list_get (i := k) h.l1 hkn) gX5_sources_Jx4a65c_get_915e3 rfl hd63_Jx4a65c_get_915e3 ⟨Nat.le_of_ble_eq_true rfl, Nat.le_of_ble_eq_true rfl⟩ (pwm_AL h.l1.1 h.l1.2.1) rfl rfl (Nat.le_of_ble_eq_true rfl) dX5_sources_28 (rfl : 28 + 3 = 31) rfl rfl ⟨Nat.le_of_ble_eq_true rfl, Nat.le_of_ble_eq_true rfl⟩ (fun _ _ h => h.elim) ?_ rfl
    rintro _ _ ⟨rfl, rfl⟩
    refine z_v1 ?_
    refine z_cast C (pwm_Copy (h.g0 hkn).1 (h.g0 hkn).2) rfl lX5_sources_c49 dX5_sources_31 (rfl : 31 + 3 = 34) ?_
    refine z_astore (lv' := [(5, _), (4, _), (3, _), (0, _), (1, _), (2, _)]) C dX5_sources_34 (rfl : 34 + 2 = 36) (by decide) rfl ?_
    refine z_aload C 0 rfl dX5_sources_36 (rfl : 36 + 2 = 38) ?_
    refine z_get C (pwm_Copy (h.g0 hkn).1 (h.g0 hkn).2) rfl iX5_sources_X0 3 (by decide) lX5_sources_f139 rfl rfl dX5_sources_38 (rfl : 38 + 3 = 41) ?_
    rw [(h.isC hkn).2.2.1]
    refine z_iload_n C 4 rfl rfl dX5_sources_41 (rfl : 41 + 1 = 42) ?_
    refine z_iald C (x := iI (V 0 (24 * k + p))) (pwm_I (h.g1 hkn).1 (h.g1 hkn).2) ⟨by omega, by rw [(h.isC hkn).2.2.2.2.2]; omega⟩ (by omega) (by rw [Int.toNat_natCast, h.rd hkn hp]) dX5_sources_42 (rfl : 42 + 1 = 43) ?_
    refine z_iload_n C 5 rfl rfl dX5_sources_43 (rfl : 43 + 1 = 44) ?_
    refine z_icmp_ne (pt := 74) C dX5_sources_44 (by decide) (rfl : 44 + 3 = 47) (fun q => mt (iI_eq (by omega) (by omega)).2 q) (iI_eq (by omega) (by omega)).1 (fun c2 => ?_) (fun c2 => ?_)
    · exact z_sub [1, 2, 3, 4, 5] rfl (sk [] (fun hh => c2 hh.1))
    refine z_aload_n C 3 rfl rfl dX5_sources_47 (rfl : 47 + 1 = 48) ?_
    refine z_aload C 0 rfl dX5_sources_48 (rfl : 48 + 2 = 50) ?_
    refine z_callV C 2 12 (c_X5_guessFor h hw hkn) gX5_sources_X5_guessFor rfl hd63_X5_guessFor ⟨Nat.le_of_ble_eq_true rfl, Nat.le_of_ble_eq_true rfl⟩ (pwm_MC h.x8.1 h.x8.2.1) rfl rfl (Nat.le_of_ble_eq_true rfl) dX5_sources_50 (rfl : 50 + 3 = 53) rfl rfl ⟨Nat.le_of_ble_eq_true rfl, Nat.le_of_ble_eq_true rfl⟩ (fun _ _ h => h.elim) ?_ rfl
    rintro _ _ ⟨rfl, rfl⟩
    refine z_v1 ?_
    by_cases c0 : k = 0
    · rw [show gsO g V k = none from if_pos c0]
      refine z_astoreN (lv' := [(6, .null), (5, _), (4, _), (3, _), (0, _), (1, _), (2, _)]) C dX5_sources_53 (rfl : 53 + 2 = 55) (by decide) rfl ?_
      refine z_aloadN C 0 rfl dX5_sources_55 (rfl : 55 + 2 = 57) ?_
      refine z_ifnullN (pc' := 71) C dX5_sources_57 (by decide) ?_
      exact z_sub [2, 3, 4, 5, 6] rfl (tk ⟨c2, .inl c0⟩)
    have hg := gsV_rng hw hkn (by omega)
    have hg2 : (gsV V k).toNat < n := by omega
    have hrg := hw.2.2.1 (24 * (gsV V k).toNat + p) (by omega)
    rw [show gsO g V k = some (g 0 (gsV V k).toNat) from if_neg c0]
    refine z_astore (lv' := [(6, _), (5, _), (4, _), (3, _), (0, _), (1, _), (2, _)]) C dX5_sources_53 (rfl : 53 + 2 = 55) (by decide) rfl ?_
    refine z_aload C 0 rfl dX5_sources_55 (rfl : 55 + 2 = 57) ?_
    refine z_ifnull C dX5_sources_57 (rfl : 57 + 3 = 60) ?_
    refine z_aload C 0 rfl dX5_sources_60 (rfl : 60 + 2 = 62) ?_
    refine z_get C (pwm_Copy (h.g0 hg2).1 (h.g0 hg2).2) rfl iX5_sources_X0 3 (by decide) lX5_sources_f139 rfl rfl dX5_sources_62 (rfl : 62 + 3 = 65) ?_
    rw [(h.isC hg2).2.2.1]
    refine z_iload_n C 5 rfl rfl dX5_sources_65 (rfl : 65 + 1 = 66) ?_
    refine z_iald C (x := iI (V 0 (24 * (gsV V k).toNat + p))) (pwm_I (h.g1 hg2).1 (h.g1 hg2).2) ⟨by omega, by rw [(h.isC hg2).2.2.2.2.2]; omega⟩ (by omega) (by rw [Int.toNat_natCast, h.rd hg2 hp]) dX5_sources_66 (rfl : 66 + 1 = 67) ?_
    refine z_iload_n C 6 rfl rfl dX5_sources_67 (rfl : 67 + 1 = 68) ?_
    refine z_icmp_eq (pt := 74) C dX5_sources_68 (by decide) (rfl : 68 + 3 = 71) (iI_eq (by omega) (by omega)).1 (fun q => mt (iI_eq (by omega) (by omega)).2 q) (fun c3 => ?_) (fun c3 => ?_)
    · exact z_sub [2, 3, 4, 5, 6] rfl (sk [] (fun hh => hh.2.elim c0 (fun q => q c3)))
    · exact z_sub [2, 3, 4, 5, 6] rfl (tk ⟨c2, .inr c3⟩)
def rdP2 (w0 : va_W) (P1 P2 : Prop) (ans : Int) : Option Value → va_W → Prop := fun v w => w = w0 ∧ P1 ∧ P2 ∧ v = some (.int (iI ans))
def rdE2 (w0 : va_W) (P1 P2 : Prop) : String → va_W → Prop := fun E w => w = w0 ∧ ((E = "java/lang/IndexOutOfBoundsException" ∧ ¬ P1) ∨ (E = "java/lang/IllegalArgumentException" ∧ P1 ∧ ¬ P2))
theorem rdE2_of {w0 w : va_W} {P1 P2 : Prop} {E : String} [Decidable P1] (h : w = w0 ∧ (if P1 then E = "java/lang/IllegalArgumentException" ∧ ¬ P2 else E = "java/lang/IndexOutOfBoundsException")) : rdE2 w0 P1 P2 E w := by
  refine ⟨h.1, ?_⟩
  by_cases c : P1
  · rw [if_pos c] at h
    exact .inr ⟨h.2.1, c, h.2.2⟩
  · rw [if_neg c] at h
    exact .inl ⟨h.2, c⟩
theorem c_X5_sources {p r : Int} (hp : -2147483648 ≤ p ∧ p < 2147483648) (hr : -2147483648 ≤ r ∧ r < 2147483648) (h : RX de L K I F R N O T g V n m t) (hw : WFV V n m t) : MC l yX5_sources wsX5_sources rmX5_sources G base [.ref (g 6 0), .int (iI p), .int (iI r)] (pw G X L K I F R N O) (rdP2 (pw G X L K I F R N O) (0 ≤ p ∧ p < 24) (1 ≤ r ∧ r ≤ 9) (smI (fun i => b01 (V 0 (24 * i + p.toNat) = r ∧ (i = 0 ∨ ¬ V 0 (24 * (gsV V i).toNat + p.toNat) = r))) n)) (rdE2 (pw G X L K I F R N O) (0 ≤ p ∧ p < 24) (1 ≤ r ∧ r ≤ 9)) := by
  refine MC.of (cc := cX5_sources) (by decide) rfl rfl (Nat.le_of_ble_eq_true rfl) ?_
  intro κ C hT hl hnm
  refine z_sub [0, 1, 2] (lv' := [(0, .ref (g 6 0)), (1, .int (iI p)), (2, .int (iI r))]) rfl ?_
  refine z_iload_n C 1 rfl rfl dX5_sources_0 (rfl : 0 + 1 = 1) ?_
  refine z_iload_n C 2 rfl rfl dX5_sources_1 (rfl : 1 + 1 = 2) ?_
  refine z_callS C 2 12 (c_X5_requireError hp hr) gX5_sources_X5_requireError rfl hd63_X5_requireError ⟨Nat.le_of_ble_eq_true rfl, Nat.le_of_ble_eq_true rfl⟩ rfl (Nat.le_of_ble_eq_true rfl) dX5_sources_2 (rfl : 2 + 3 = 5) rfl rfl ⟨Nat.le_of_ble_eq_true rfl, Nat.le_of_ble_eq_true rfl⟩ (fun E w h => z_out C hT (rdE2_of h) (by decide) (by decide)) ?_ rfl
  rintro _ _ ⟨rfl, rfl, hp2, hr2⟩
  refine z_v0 ?_
  obtain ⟨k, rfl⟩ : ∃ k : Nat, p = (k : Int) := ⟨p.toNat, by omega⟩
  refine z_iconst C dX5_sources_5 (rfl : 5 + 1 = 6) ?_
  refine z_istore_n (lv' := [(3, _), (0, _), (1, _), (2, _)]) C rfl dX5_sources_6 (rfl : 6 + 1 = 7) (by decide) rfl ?_
  refine z_iconst C dX5_sources_7 (rfl : 7 + 1 = 8) ?_
  refine z_istore (lv' := [(4, _), (3, _), (0, _), (1, _), (2, _)]) C dX5_sources_8 (rfl : 8 + 2 = 10) (by decide) rfl ?_
  refine lp_X5_sources C (by omega) hr2 h.1 hw (fun lv => ?_) n 0 (by omega)
  refine z_iload_n C 1 rfl rfl dX5_sources_80 (rfl : 80 + 1 = 81) ?_
  exact z_iret C rfl dX5_sources_81 ⟨rfl, hp2, hr2, rfl⟩ (by decide) (by decide)
end
