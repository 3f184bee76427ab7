theorem lX5_families_f16 : Cond.fieldLink RX5 16 "ModelCopies" "copies" "Ljava/util/ArrayList;" ∈ wsX5_families := by decide +kernel
theorem iX5_families_X5 : ∀ w ∈ wsX50, w ∈ wsX5_families := by decide +kernel
theorem hd62_Jx4a65c_size_8abf5 : yJx4a65c_size_8abf5.cls = RJx4a65c ∧ yJx4a65c_size_8abf5.cls ≠ "java/lang/invoke/MethodHandle" ∧ yJx4a65c_size_8abf5.cls ≠ "java/lang/invoke/VarHandle" ∧ (parseMethodDescriptor yJx4a65c_size_8abf5.desc).map (fun d => d.parameters.length) = some 0 := by decide +kernel
theorem hd62_Jx4a65c_get_915e3 : yJx4a65c_get_915e3.cls = RJx4a65c ∧ yJx4a65c_get_915e3.cls ≠ "java/lang/invoke/MethodHandle" ∧ yJx4a65c_get_915e3.cls ≠ "java/lang/invoke/VarHandle" ∧ (parseMethodDescriptor yJx4a65c_get_915e3.desc).map (fun d => d.parameters.length) = some 1 := by decide +kernel
theorem lX5_families_c49 : Cond.classLink RX5 49 "ModelCopies$Copy" ∈ wsX5_families := by decide +kernel
theorem lX5_families_f127 : Cond.fieldLink RX5 127 "ModelCopies$Copy" "family" "I" ∈ wsX5_families := by decide +kernel
theorem iX5_families_X0 : ∀ w ∈ wsX00, w ∈ wsX5_families := by decide +kernel
theorem lX5_guessFor_f118 : Cond.fieldLink RX5 118 "ModelCopies$Copy" "number" "I" ∈ wsX5_guessFor := by decide +kernel
theorem iX5_guessFor_X0 : ∀ w ∈ wsX00, w ∈ wsX5_guessFor := by decide +kernel
theorem lX5_guessFor_f16 : Cond.fieldLink RX5 16 "ModelCopies" "copies" "Ljava/util/ArrayList;" ∈ wsX5_guessFor := by decide +kernel
theorem iX5_guessFor_X5 : ∀ w ∈ wsX50, w ∈ wsX5_guessFor := by decide +kernel
theorem lX5_guessFor_c49 : Cond.classLink RX5 49 "ModelCopies$Copy" ∈ wsX5_guessFor := by decide +kernel
theorem hd62_X5_worthAsModel : yX5_worthAsModel.cls ≠ "java/lang/invoke/MethodHandle" ∧ yX5_worthAsModel.cls ≠ "java/lang/invoke/VarHandle" ∧ (parseMethodDescriptor yX5_worthAsModel.desc).map (fun d => d.parameters.length) = some 2 := by decide +kernel
theorem hd62_X0_modelIfTold : yX0_modelIfTold.cls = RX0 ∧ yX0_modelIfTold.cls ≠ "java/lang/invoke/MethodHandle" ∧ yX0_modelIfTold.cls ≠ "java/lang/invoke/VarHandle" ∧ (parseMethodDescriptor yX0_modelIfTold.desc).map (fun d => d.parameters.length) = some 0 := by decide +kernel
theorem hd62_X5_findCopy : yX5_findCopy.cls = RX5 ∧ yX5_findCopy.cls ≠ "java/lang/invoke/MethodHandle" ∧ yX5_findCopy.cls ≠ "java/lang/invoke/VarHandle" ∧ (parseMethodDescriptor yX5_findCopy.desc).map (fun d => d.parameters.length) = some 1 := by decide +kernel
theorem hd62_X5_guessFor : yX5_guessFor.cls = RX5 ∧ yX5_guessFor.cls ≠ "java/lang/invoke/MethodHandle" ∧ yX5_guessFor.cls ≠ "java/lang/invoke/VarHandle" ∧ (parseMethodDescriptor yX5_guessFor.desc).map (fun d => d.parameters.length) = some 1 := by decide +kernel
theorem hd62_X5_numberOf : yX5_numberOf.cls ≠ "java/lang/invoke/MethodHandle" ∧ yX5_numberOf.cls ≠ "java/lang/invoke/VarHandle" ∧ (parseMethodDescriptor yX5_numberOf.desc).map (fun d => d.parameters.length) = some 1 := by decide +kernel
section
variable {κ : KxT} {G : GG} {base mc ms : Nat} {post : Option Value → va_W → Prop} {exc : String → va_W → Prop} {X : va_W} {L : List Nat} {K : Nat → Nat} {I : Nat → Nat → Int} {F : Nat → Nat → Option Nat} {R : Nat → Nat → Int} {N : Nat → Nat} {O : Nat → Nat → Option Nat} {l : Launch}
variable {de n m t : Nat} {T : Nat → Nat} {g : Nat → Nat → Nat} {V : Nat → Nat → Int}
abbrev rmX5_families : Room := { frames := 3, cells := 0, slots := 0, locals := 80 }
theorem lp_X5_families (C : Cx κ cX5_families 3 wsX5_families RX5 (some .int) rmX5_families G base) (h : RP de L K I F R N O T g V 5 n m t) (hw : WFV V n m t) (hf : rgF (I 2) n (g 0))
    (kk : Z κ 3 G base mc ms post exc 0 0 42 [(2, .int (iI (n : Int))), (1, .int (iI (smI (fun i => b01 (I 2 (g 0 i) = (i : Int))) n))), (0, .ref (g 6 0))] [] (pw G X L K I F R N O)) :
    ∀ (d k : Nat), k + d = n → Z κ 3 G base mc ms post exc 0 0 4 [(2, .int (iI (k : Int))), (1, .int (iI (smI (fun i => b01 (I 2 (g 0 i) = (i : Int))) k))), (0, .ref (g 6 0))] [] (pw G X L K I F R N O) := by
  have hn := hw.2.1
  intro d
  induction d with
  | zero =>
    intro k hk
    have e : k = n := by omega
    subst e
    refine z_iload_n C 0 rfl rfl dX5_families_4 (rfl : 4 + 1 = 5) ?_
    refine z_aload_n C 2 rfl rfl dX5_families_5 (rfl : 5 + 1 = 6) ?_
    refine z_get C (pwm_MC h.x9.1 h.x9.2.1) rfl iX5_families_X5 1 (by decide) lX5_families_f16 rfl rfl dX5_families_6 (rfl : 6 + 3 = 9) ?_
    rw [h.x9.2.2]
    refine z_callV C 0 0 (c_list_size h.l1) gX5_families_Jx4a65c_size_8abf5 rfl hd62_Jx4a65c_size_8abf5 ⟨Nat.le_of_ble_eq_true rfl, Nat.le_of_ble_eq_true rfl⟩ (pwm_AL h.l1.1 h.l1.2.1) rfl rfl (Nat.le_of_ble_eq_true rfl) dX5_families_9 (rfl : 9 + 3 = 12) rfl rfl ⟨Nat.le_of_ble_eq_true rfl, Nat.le_of_ble_eq_true rfl⟩ (fun _ _ h => h.elim) ?_ rfl
    rintro _ _ ⟨rfl, rfl⟩
    refine z_v1 ?_
    refine z_icmp_ge (pt := 42) C dX5_families_12 (by decide) (rfl : 12 + 3 = 15) (iI_le (by omega) (by omega)).1 (fun q => mt (iI_le (by omega) (by omega)).2 q) (fun c => ?_) (fun c => ?_)
    · exact kk
    · exact absurd c (by omega)
  | succ d ih =>
    intro k hk
    have hkn : k < n := by omega
    have hr := hf k hkn
    refine z_iload_n C 0 rfl rfl dX5_families_4 (rfl : 4 + 1 = 5) ?_
    refine z_aload_n C 2 rfl rfl dX5_families_5 (rfl : 5 + 1 = 6) ?_
    refine z_get C (pwm_MC h.x9.1 h.x9.2.1) rfl iX5_families_X5 1 (by decide) lX5_families_f16 rfl rfl dX5_families_6 (rfl : 6 + 3 = 9) ?_
    rw [h.x9.2.2]
    refine z_callV C 0 0 (c_list_size h.l1) gX5_families_Jx4a65c_size_8abf5 rfl hd62_Jx4a65c_size_8abf5 ⟨Nat.le_of_ble_eq_true rfl, Nat.le_of_ble_eq_true rfl⟩ (pwm_AL h.l1.1 h.l1.2.1) rfl rfl (Nat.le_of_ble_eq_true rfl) dX5_families_9 (rfl : 9 + 3 = 12) rfl rfl ⟨Nat.le_of_ble_eq_true rfl, Nat.le_of_ble_eq_true rfl⟩ (fun _ _ h => h.elim) ?_ rfl
    rintro _ _ ⟨rfl, rfl⟩
    refine z_v1 ?_
    refine z_icmp_ge (pt := 42) C dX5_families_12 (by decide) (rfl : 12 + 3 = 15) (iI_le (by omega) (by omega)).1 (fun q => mt (iI_le (by omega) (by omega)).2 q) (fun c => ?_) (fun c => ?_)
    · exact absurd c (by omega)
    refine z_aload_n C 2 rfl rfl dX5_families_15 (rfl : 15 + 1 = 16) ?_
    refine z_get C (pwm_MC h.x9.1 h.x9.2.1) rfl iX5_families_X5 1 (by decide) lX5_families_f16 rfl rfl dX5_families_16 (rfl : 16 + 3 = 19) ?_
    rw [h.x9.2.2]
    refine z_iload_n C 0 rfl rfl dX5_families_19 (rfl : 19 + 1 = 20) ?_
    refine z_callV C 0 0 (c_list_get (i := k) h.l1 hkn) gX5_families_Jx4a65c_get_915e3 rfl hd62_Jx4a65c_get_915e3 ⟨Nat.le_of_ble_eq_true rfl, Nat.le_of_ble_eq_true rfl⟩ (pwm_AL h.l1.1 h.l1.2.1) rfl rfl (Nat.le_of_ble_eq_true rfl) dX5_families_20 (rfl : 20 + 3 = 23) rfl rfl ⟨Nat.le_of_ble_eq_true rfl, Nat.le_of_ble_eq_true rfl⟩ (fun _ _ h => h.elim) ?_ rfl
    rintro _ _ ⟨rfl, rfl⟩
    refine z_v1 ?_
    refine z_cast C (pwm_Copy (h.g0 hkn).1 (h.g0 hkn).2) rfl lX5_families_c49 dX5_families_23 (rfl : 23 + 3 = 26) ?_
    refine z_get C (pwm_Copy (h.g0 hkn).1 (h.g0 hkn).2) rfl iX5_families_X0 6 (by decide) lX5_families_f127 rfl rfl dX5_families_26 (rfl : 26 + 3 = 29) ?_
    refine z_iload_n C 0 rfl rfl dX5_families_29 (rfl : 29 + 1 = 30) ?_
    refine z_icmp_ne (pt := 36) C dX5_families_30 (by decide) (rfl : 30 + 3 = 33) (fun q => mt (iI_eq (by omega) (by omega)).2 q) (iI_eq (by omega) (by omega)).1 (fun c2 => ?_) (fun c2 => ?_)
    · refine z_iinc (lv' := [(2, _), (1, _), (0, _)]) C 0 dX5_families_36 (rfl : 36 + 3 = 39) rfl rfl (by decide) rfl ?_
      refine z_goto (pc' := 4) C dX5_families_39 (by decide) ?_
      have e : smI (fun i => b01 (I 2 (g 0 i) = (i : Int))) (k + 1) = smI (fun i => b01 (I 2 (g 0 i) = (i : Int))) k := by
        show smI _ k + b01 (I 2 (g 0 k) = (k : Int)) = _
        rw [b01_f c2, Int.add_zero]
      rw [← e]
      exact ih (k + 1) (by omega)
    refine z_iinc (lv' := [(1, _), (2, _), (0, _)]) C 1 dX5_families_33 (rfl : 33 + 3 = 36) rfl rfl (by decide) rfl ?_
    refine z_iinc (lv' := [(2, _), (1, _), (0, _)]) C 1 dX5_families_36 (rfl : 36 + 3 = 39) rfl rfl (by decide) rfl ?_
    refine z_goto (pc' := 4) C dX5_families_39 (by decide) ?_
    have e : smI (fun i => b01 (I 2 (g 0 i) = (i : Int))) (k + 1) = smI (fun i => b01 (I 2 (g 0 i) = (i : Int))) k + 1 := by
      show smI _ k + b01 (I 2 (g 0 k) = (k : Int)) = _
      rw [b01_t c2]
    refine z_sub [0, 1, 2] (lv' := [(2, .int (iI ((k + 1 : Nat) : Int))), (1, .int (iI (smI (fun i => b01 (I 2 (g 0 i) = (i : Int))) (k + 1)))), (0, .ref (g 6 0))]) (by rw [e]; rfl) ?_
    exact ih (k + 1) (by omega)
theorem c_X5_families (h : RX de L K I F R N O T g V n m t) (hw : WFV V n m t) : MC l yX5_families wsX5_families rmX5_families G base [.ref (g 6 0)] (pw G X L K I F R N O) (fun v w => w = (pw G X L K I F R N O) ∧ ∃ f : Nat → Int, IsFam V n f ∧ v = some (.int (iI (smI (fun i => b01 (f i = (i : Int))) n)))) (fun _ _ => False) := by
  refine MC.of (cc := cX5_families) (by decide) rfl rfl (Nat.le_of_ble_eq_true rfl) ?_
  intro κ C hT hl hnm
  refine z_iconst C dX5_families_0 (rfl : 0 + 1 = 1) ?_
  refine z_istore_n (lv' := [(1, _), (0, _)]) C rfl dX5_families_1 (rfl : 1 + 1 = 2) (by decide) rfl ?_
  refine z_iconst C dX5_families_2 (rfl : 2 + 1 = 3) ?_
  refine z_istore_n (lv' := [(2, _), (1, _), (0, _)]) C rfl dX5_families_3 (rfl : 3 + 1 = 4) (by decide) rfl ?_
  refine lp_X5_families C h.1 hw (h.rgF hw) ?_ n 0 (by omega)
  refine z_iload_n C 1 rfl rfl dX5_families_42 (rfl : 42 + 1 = 43) ?_
  exact z_iret C rfl dX5_families_43 ⟨rfl, _, h.2, rfl⟩ (by decide) (by decide)
abbrev rmX5_guessFor : Room := { frames := 4, cells := 0, slots := 0, locals := 120 }
def bsO (g : Nat → Nat → Nat) (V : Nat → Nat → Int) (c k : Nat) : Option Nat := if k = 0 then none else some (g 0 (bstV V c k).1)
def gsO (g : Nat → Nat → Nat) (V : Nat → Nat → Int) (c : Nat) : Option Nat := if c = 0 then none else some (g 0 (gsV V c).toNat)
theorem lp_X5_guessFor (C : Cx κ cX5_guessFor 8 wsX5_guessFor RX5 (some (.object "ModelCopies$Copy")) rmX5_guessFor G base) {c : Nat} (h : RP de L K I F R N O T g V 5 n m t) (hw : WFV V n m t) (hc : c < n) (hp : post (some (va_rf (bsO g V c c))) (pw G X L K I F R N O)) :
    ∀ (d k : Nat), k + d = c → Z κ 8 G base mc ms post exc 0 0 19 [(5, .int (iI (k : Int))), (4, .int (iI (bstV V c k).2)), (3, va_rf (bsO g V c k)), (2, .null), (0, .ref (g 6 0)), (1, .ref (g 0 c))] [] (pw G X L K I F R N O) := by
  have hn := hw.2.1
  have e0 : I 0 (g 0 c) = (c : Int) := (h.2.1.2.2.2.1 c hc).2.2.1
  intro d
  induction d with
  | zero =>
    intro k hk
    have e : k = c := by omega
    subst e
    refine z_iload C 0 rfl dX5_guessFor_19 (rfl : 19 + 2 = 21) ?_
    refine z_aload_n C 5 rfl rfl dX5_guessFor_21 (rfl : 21 + 1 = 22) ?_
    refine z_get C (pwm_Copy (h.g0 hc).1 (h.g0 hc).2) rfl iX5_guessFor_X0 0 (by decide) lX5_guessFor_f118 rfl rfl dX5_guessFor_22 (rfl : 22 + 3 = 25) ?_
    rw [e0]
    refine z_icmp_ge (pt := 86) C dX5_guessFor_25 (by decide) (rfl : 25 + 3 = 28) (iI_le (by omega) (by omega)).1 (fun q => mt (iI_le (by omega) (by omega)).2 q) (fun c1 => ?_) (fun c1 => ?_)
    · refine z_aload_nV C 2 rfl rfl dX5_guessFor_86 (rfl : 86 + 1 = 87) ?_
      exact z_aret (v := bsO g V k k) C rfl (.inl ⟨_, rfl⟩) dX5_guessFor_87 hp (Nat.zero_le _) (Nat.zero_le _)
    · exact absurd c1 (by omega)
  | succ d ih =>
    intro k hk
    have hkn : k < n := by omega
    have hb := bstV_rng V c k
    have hwv := wV_rng V c k
    refine z_iload C 0 rfl dX5_guessFor_19 (rfl : 19 + 2 = 21) ?_
    refine z_aload_n C 5 rfl rfl dX5_guessFor_21 (rfl : 21 + 1 = 22) ?_
    refine z_get C (pwm_Copy (h.g0 hc).1 (h.g0 hc).2) rfl iX5_guessFor_X0 0 (by decide) lX5_guessFor_f118 rfl rfl dX5_guessFor_22 (rfl : 22 + 3 = 25) ?_
    rw [e0]
    refine z_icmp_ge (pt := 86) C dX5_guessFor_25 (by decide) (rfl : 25 + 3 = 28) (iI_le (by omega) (by omega)).1 (fun q => mt (iI_le (by omega) (by omega)).2 q) (fun c1 => ?_) (fun c1 => ?_)
    · exact absurd c1 (by omega)
    refine z_iload C 0 rfl dX5_guessFor_28 (rfl : 28 + 2 = 30) ?_
    refine z_aload_n C 4 rfl rfl dX5_guessFor_30 (rfl : 30 + 1 = 31) ?_
    refine z_get C (pwm_MC h.x9.1 h.x9.2.1) rfl iX5_guessFor_X5 1 (by decide) lX5_guessFor_f16 rfl rfl dX5_guessFor_31 (rfl : 31 + 3 = 34) ?_
    rw [h.x9.2.2]
    refine z_callV C 0 0 (c_list_size h.l1) gX5_guessFor_Jx4a65c_size_8abf5 rfl hd62_Jx4a65c_size_8abf5 ⟨Nat.le_of_ble_eq_true rfl, Nat.le_of_ble_eq_true rfl⟩ (pwm_AL h.l1.1 h.l1.2.1) rfl rfl (Nat.le_of_ble_eq_true rfl) dX5_guessFor_34 (rfl : 34 + 3 = 37) rfl rfl ⟨Nat.le_of_ble_eq_true rfl, Nat.le_of_ble_eq_true rfl⟩ (fun _ _ h => h.elim) ?_ rfl
    rintro _ _ ⟨rfl, rfl⟩
    refine z_v1 ?_
    refine z_icmp_ge (pt := 86) C dX5_guessFor_37 (by decide) (rfl : 37 + 3 = 40) (iI_le (by omega) (by omega)).1 (fun q => mt (iI_le (by omega) (by omega)).2 q) (fun c2 => ?_) (fun c2 => ?_)
    · exact absurd c2 (by omega)
    refine z_aload_n C 4 rfl rfl dX5_guessFor_40 (rfl : 40 + 1 = 41) ?_
    refine z_get C (pwm_MC h.x9.1 h.x9.2.1) rfl iX5_guessFor_X5 1 (by decide) lX5_guessFor_f16 rfl rfl dX5_guessFor_41 (rfl : 41 + 3 = 44) ?_
    rw [h.x9.2.2]
    refine z_iload C 0 rfl dX5_guessFor_44 (rfl : 44 + 2 = 46) ?_
    refine z_callV C 0 0 (c_list_get (i := k) h.l1 hkn) gX5_guessFor_Jx4a65c_get_915e3 rfl hd62_Jx4a65c_get_915e3 ⟨Nat.le_of_ble_eq_true rfl, Nat.le_of_ble_eq_true rfl⟩ (pwm_AL h.l1.1 h.l1.2.1) rfl rfl (Nat.le_of_ble_eq_true rfl) dX5_guessFor_46 (rfl : 46 + 3 = 49) rfl rfl ⟨Nat.le_of_ble_eq_true rfl, Nat.le_of_ble_eq_true rfl⟩ (fun _ _ h => h.elim) ?_ rfl
    rintro _ _ ⟨rfl, rfl⟩
    refine z_v1 ?_
    refine z_cast C (pwm_Copy (h.g0 hkn).1 (h.g0 hkn).2) rfl lX5_guessFor_c49 dX5_guessFor_49 (rfl : 49 + 3 = 52) ?_
    refine z_astore (lv' := [(6, _), (5, _), (4, _), (3, _), (2, _), (0, _), (1, _)]) C dX5_guessFor_52 (rfl : 52 + 2 = 54) (by decide) rfl ?_
    refine z_aload C 0 rfl dX5_guessFor_54 (rfl : 54 + 2 = 56) ?_
    refine z_aload_n C 6 rfl rfl dX5_guessFor_56 (rfl : 56 + 1 = 57) ?_
    refine z_callS C 0 0 (c_X5_worthAsModel (h.isC hkn) (h.isC hc) (h.rg9 hw hkn) (h.rg9 hw hc)) gX5_guessFor_X5_worthAsModel rfl hd62_X5_worthAsModel ⟨Nat.le_of_ble_eq_true rfl, Nat.le_of_ble_eq_true rfl⟩ rfl (Nat.le_of_ble_eq_true rfl) dX5_guessFor_57 (rfl : 57 + 3 = 60) rfl rfl ⟨Nat.le_of_ble_eq_true rfl, Nat.le_of_ble_eq_true rfl⟩ (fun _ _ h => h.elim) ?_ rfl
    rintro _ _ ⟨rfl, rfl⟩
    refine z_v1 ?_
    rw [h.sh hc hkn, h.sh hkn hkn, show 3 * shV V c k - shV V k k = wV V c k from rfl]
    refine z_istore (lv' := [(7, _), (6, _), (5, _), (4, _), (3, _), (2, _), (0, _), (1, _)]) C dX5_guessFor_60 (rfl : 60 + 2 = 62) (by decide) rfl ?_
    have nx : ∀ z1 z2 : Value, (k = 0 ∨ (bstV V c k).2 < wV V c k) → Z κ 8 G base mc ms post exc 0 0 73 [(7, .int (iI (wV V c k))), (6, .ref (g 0 k)), (5, .int (iI (k : Int))), (4, z1), (3, z2), (2, .null), (0, .ref (g 6 0)), (1, .ref (g 0 c))] [] (pw G X L K I F R N O) := fun z1 z2 hh => by
      refine z_aload C 1 rfl dX5_guessFor_73 (rfl : 73 + 2 = 75) ?_
      refine z_astore_n (lv' := [(3, _), (7, _), (6, _), (5, _), (4, _), (2, _), (0, _), (1, _)]) C rfl dX5_guessFor_75 (rfl : 75 + 1 = 76) (by decide) rfl ?_
      refine z_iload C 1 rfl dX5_guessFor_76 (rfl : 76 + 2 = 78) ?_
      refine z_istore (lv' := [(4, _), (3, _), (7, _), (6, _), (5, _), (2, _), (0, _), (1, _)]) C dX5_guessFor_78 (rfl : 78 + 2 = 80) (by decide) rfl ?_
      refine z_iinc (lv' := [(5, _), (4, _), (3, _), (7, _), (6, _), (2, _), (0, _), (1, _)]) C 4 dX5_guessFor_80 (rfl : 80 + 3 = 83) rfl rfl (by decide) rfl ?_
      refine z_goto (pc' := 19) C dX5_guessFor_83 (by decide) ?_
      have e1 : bstV V c (k + 1) = (k, wV V c k) := by simp only [bstV]; rw [if_pos hh]
      have e2 : bsO g V c (k + 1) = some (g 0 k) := by unfold bsO; rw [if_neg (by omega), e1]
      have := ih (k + 1) (by omega)
      rw [e1, e2] at this
      exact z_sub [0, 1, 2, 5, 6, 7] rfl this
    refine z_aload_nV C 4 rfl rfl dX5_guessFor_62 (rfl : 62 + 1 = 63) ?_
    by_cases ek : k = 0
    · rw [show bsO g V c k = none from if_pos ek]
      refine z_ifnullN (pc' := 73) C dX5_guessFor_63 (by decide) ?_
      exact nx _ _ (.inl ek)
    rw [show bsO g V c k = some (g 0 (bstV V c k).1) from if_neg ek]
    refine z_ifnull C dX5_guessFor_63 (rfl : 63 + 3 = 66) ?_
    refine z_iload C 0 rfl dX5_guessFor_66 (rfl : 66 + 2 = 68) ?_
    refine z_iload C 3 rfl dX5_guessFor_68 (rfl : 68 + 2 = 70) ?_
    refine z_icmp_le (pt := 80) C dX5_guessFor_70 (by decide) (rfl : 70 + 3 = 73) (iI_le (by omega) (by omega)).1 (fun q => mt (iI_le (by omega) (by omega)).2 q) (fun c3 => ?_) (fun c3 => ?_)
    · have e1 : bstV V c (k + 1) = bstV V c k := by simp only [bstV]; rw [if_neg (by omega)]
      have e2 : bsO g V c (k + 1) = some (g 0 (bstV V c k).1) := by unfold bsO; rw [if_neg (by omega), e1]
      refine z_iinc (lv' := [(5, _), (7, _), (6, _), (4, _), (3, _), (2, _), (0, _), (1, _)]) C 2 dX5_guessFor_80 (rfl : 80 + 3 = 83) rfl rfl (by decide) rfl ?_
      refine z_goto (pc' := 19) C dX5_guessFor_83 (by decide) ?_
      have := ih (k + 1) (by omega)
      rw [e1, e2] at this
      exact z_sub [0, 3, 4, 5, 6, 7] rfl this
    · exact nx _ _ (.inr (by omega))
theorem c_X5_guessFor {c : Nat} (h : RP de L K I F R N O T g V 5 n m t) (hw : WFV V n m t) (hc : c < n) : MC l yX5_guessFor wsX5_guessFor rmX5_guessFor G base [.ref (g 6 0), .ref (g 0 c)] (pw G X L K I F R N O) (fun v w => w = (pw G X L K I F R N O) ∧ v = some (va_rf (gsO g V c))) (fun _ _ => False) := by
  refine MC.of (cc := cX5_guessFor) (by decide) rfl rfl (Nat.le_of_ble_eq_true rfl) ?_
  intro κ C hT hl hnm
  have hn := hw.2.1
  have h2 := hw.2.2.2.2.1
  have h20 := h2.2 c (by omega)
  have h1 := hw.mo hc
  have hm0 := hw.2.2.2.1
  refine z_sub [0, 1] (lv' := [(0, .ref (g 6 0)), (1, .ref (g 0 c))]) rfl ?_
  refine z_aload_n C 1 rfl rfl dX5_guessFor_0 (rfl : 0 + 1 = 1) ?_
  refine z_callV C 0 0 (c_X0_modelIfTold (h.isC hc) (h.cpv hw c hc).2) gX5_guessFor_X0_modelIfTold rfl hd62_X0_modelIfTold ⟨Nat.le_of_ble_eq_true rfl, Nat.le_of_ble_eq_true rfl⟩ (pwm_Copy (h.g0 hc).1 (h.g0 hc).2) rfl rfl (Nat.le_of_ble_eq_true rfl) dX5_guessFor_1 (rfl : 1 + 3 = 4) rfl rfl ⟨Nat.le_of_ble_eq_true rfl, Nat.le_of_ble_eq_true rfl⟩ (fun _ _ h => h.elim) ?_ rfl
  rintro _ _ ⟨rfl, rfl⟩
  refine z_v1 ?_
  rw [h.tmE hc]
  by_cases ct : V 2 c = 0 ∨ V 1 c = -1
  · rw [if_pos ct]
    refine z_astore_nN (lv' := [(2, .null), (0, .ref (g 6 0)), (1, .ref (g 0 c))]) C rfl dX5_guessFor_4 (rfl : 4 + 1 = 5) (by decide) rfl ?_
    refine z_aload_nN C 0 rfl rfl dX5_guessFor_5 (rfl : 5 + 1 = 6) ?_
    refine z_ifnullN (pc' := 11) C dX5_guessFor_6 (by decide) ?_
    refine z_null C dX5_guessFor_11 (rfl : 11 + 1 = 12) ?_
    refine z_astore_nN (lv' := [(3, .null), (2, .null), (0, .ref (g 6 0)), (1, .ref (g 0 c))]) C rfl dX5_guessFor_12 (rfl : 12 + 1 = 13) (by decide) rfl ?_
    refine z_iconst C dX5_guessFor_13 (rfl : 13 + 1 = 14) ?_
    refine z_istore (lv' := [(4, _), (3, _), (2, _), (0, _), (1, _)]) C dX5_guessFor_14 (rfl : 14 + 2 = 16) (by decide) rfl ?_
    refine z_iconst C dX5_guessFor_16 (rfl : 16 + 1 = 17) ?_
    refine z_istore (lv' := [(5, _), (4, _), (3, _), (2, _), (0, _), (1, _)]) C dX5_guessFor_17 (rfl : 17 + 2 = 19) (by decide) rfl ?_
    refine lp_X5_guessFor C h hw hc ⟨rfl, ?_⟩ c 0 (by omega)
    congr 2
    unfold bsO gsO gsV
    by_cases c0 : c = 0
    · rw [if_pos c0, if_pos c0]
    · have := hm0.2 c (by omega) hc
      rw [if_neg c0, if_neg c0, if_neg (by omega)]
      rfl
  rw [if_neg ct]
  refine z_astore_n (lv' := [(2, _), (0, _), (1, _)]) C rfl dX5_guessFor_4 (rfl : 4 + 1 = 5) (by decide) rfl ?_
  refine z_aload_n C 0 rfl rfl dX5_guessFor_5 (rfl : 5 + 1 = 6) ?_
  refine z_ifnull C dX5_guessFor_6 (rfl : 6 + 3 = 9) ?_
  refine z_aload_n C 0 rfl rfl dX5_guessFor_9 (rfl : 9 + 1 = 10) ?_
  refine z_aret (v := some (g 0 (V 1 c).toNat)) C rfl (.inl ⟨_, rfl⟩) dX5_guessFor_10 ⟨rfl, ?_⟩ (by decide) (by decide)
  congr 2
  unfold gsO gsV
  have c0 : c ≠ 0 := fun e => by subst e; omega
  rw [if_neg c0, if_pos (.inr (by omega))]
abbrev rmX5_guess : Room := { frames := 7, cells := 1, slots := 6, locals := 160 }
theorem c_X5_guess {z : Int} (hz : -2147483648 ≤ z ∧ z < 2147483648) (h : RX de L K I F R N O T g V n m t) (hw : WFV V n m t) : MC l yX5_guess wsX5_guess rmX5_guess G base [.ref (g 6 0), .int (iI z)] (pw G X L K I F R N O) (rdP (pw G X L K I F R N O) (0 ≤ z ∧ z < n) (gsV V z.toNat)) (rdE (pw G X L K I F R N O) (0 ≤ z ∧ z < n)) := by
  refine MC.of (cc := cX5_guess) (by decide) rfl rfl (Nat.le_of_ble_eq_true rfl) ?_
  intro κ C hT hl hnm
  have hn := hw.2.1
  refine z_sub [0, 1] (lv' := [(0, .ref (g 6 0)), (1, .int (iI z))]) rfl ?_
  refine z_aload_n C 0 rfl rfl dX5_guess_0 (rfl : 0 + 1 = 1) ?_
  refine z_aload_n C 0 rfl rfl dX5_guess_1 (rfl : 1 + 1 = 2) ?_
  refine z_iload_n C 1 rfl rfl dX5_guess_2 (rfl : 2 + 1 = 3) ?_
  refine z_callV C 1 6 (c_X5_findCopy (rA := g 1) hz h.1.x9 h.1.l1 (by omega) (fun i hi => h.1.isC hi)) gX5_guess_X5_findCopy rfl hd62_X5_findCopy ⟨Nat.le_of_ble_eq_true rfl, Nat.le_of_ble_eq_true rfl⟩ (pwm_MC h.1.x8.1 h.1.x8.2.1) rfl rfl (Nat.le_of_ble_eq_true rfl) dX5_guess_3 (rfl : 3 + 3 = 6) rfl rfl ⟨Nat.le_of_ble_eq_true rfl, Nat.le_of_ble_eq_true rfl⟩ (fun E w h => z_out C hT ⟨h.1, h.2.1, h.2.2⟩ (by decide) (by decide)) ?_ rfl
  rintro _ _ ⟨rfl, i, rfl, hi, rfl⟩
  refine z_v1 ?_
  refine z_callV C 1 6 (c_X5_guessFor h.1 hw hi) gX5_guess_X5_guessFor rfl hd62_X5_guessFor ⟨Nat.le_of_ble_eq_true rfl, Nat.le_of_ble_eq_true rfl⟩ (pwm_MC h.1.x8.1 h.1.x8.2.1) rfl rfl (Nat.le_of_ble_eq_true rfl) dX5_guess_6 (rfl : 6 + 3 = 9) rfl rfl ⟨Nat.le_of_ble_eq_true rfl, Nat.le_of_ble_eq_true rfl⟩ (fun _ _ h => h.elim) ?_ rfl
  rintro _ _ ⟨rfl, rfl⟩
  refine z_v1 ?_
  by_cases c0 : i = 0
  · rw [show gsO g V i = none from if_pos c0]
    refine z_callS C 1 6 (c_X5_numberOfN) gX5_guess_X5_numberOf rfl hd62_X5_numberOf ⟨Nat.le_of_ble_eq_true rfl, Nat.le_of_ble_eq_true rfl⟩ rfl (Nat.le_of_ble_eq_true rfl) dX5_guess_9 (rfl : 9 + 3 = 12) rfl rfl ⟨Nat.le_of_ble_eq_true rfl, Nat.le_of_ble_eq_true rfl⟩ (fun _ _ h => h.elim) ?_ rfl
    rintro _ _ ⟨rfl, rfl⟩
    refine z_v1 ?_
    refine z_topi (y := iI (gsV V i)) (by subst c0; unfold gsV; rw [if_pos (.inl rfl), hw.2.2.2.1.1]) ?_
    exact z_iret C rfl dX5_guess_12 ⟨rfl, ⟨by omega, by omega⟩, rfl⟩ (by decide) (by decide)
  have hg := gsV_rng hw hi (by omega)
  rw [show gsO g V i = some (g 0 (gsV V i).toNat) from if_neg c0]
  refine z_callS C 1 6 (c_X5_numberOf (a := g 0 (gsV V i).toNat) (h.1.g0 (by omega)).1 (h.1.g0 (by omega)).2) gX5_guess_X5_numberOf rfl hd62_X5_numberOf ⟨Nat.le_of_ble_eq_true rfl, Nat.le_of_ble_eq_true rfl⟩ rfl (Nat.le_of_ble_eq_true rfl) dX5_guess_9 (rfl : 9 + 3 = 12) rfl rfl ⟨Nat.le_of_ble_eq_true rfl, Nat.le_of_ble_eq_true rfl⟩ (fun _ _ h => h.elim) ?_ rfl
  rintro _ _ ⟨rfl, rfl⟩
  refine z_v1 ?_
  refine z_topi (y := iI (gsV V i)) (by rw [(h.1.2.1.2.2.2.1 (gsV V i).toNat (by omega)).2.2.1]; congr 1; omega) ?_
  exact z_iret C rfl dX5_guess_12 ⟨rfl, ⟨by omega, by omega⟩, rfl⟩ (by decide) (by decide)
end
