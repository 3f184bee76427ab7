theorem lX5_familyByErrors_f16 : Cond.fieldLink RX5 16 "ModelCopies" "copies" "Ljava/util/ArrayList;" ∈ wsX5_familyByErrors := by decide +kernel
theorem iX5_familyByErrors_X5 : ∀ w ∈ wsX50, w ∈ wsX5_familyByErrors := by decide +kernel
theorem hd72_Jx4a65c_size_8abf5 : yJx4a65c_size_8abf5.cls = RJx4a65c ∧ yJx4a65c_size_8abf5.cls ≠ "java/lang/invoke/MethodHandle" ∧ yJx4a65c_size_8abf5.cls ≠ "java/lang/invoke/VarHandle" ∧ (parseMethodDescriptor yJx4a65c_size_8abf5.desc).map (fun d => d.parameters.length) = some 0 := by decide +kernel
theorem hd72_X5_lowestIn : yX5_lowestIn.cls = RX5 ∧ yX5_lowestIn.cls ≠ "java/lang/invoke/MethodHandle" ∧ yX5_lowestIn.cls ≠ "java/lang/invoke/VarHandle" ∧ (parseMethodDescriptor yX5_lowestIn.desc).map (fun d => d.parameters.length) = some 1 := by decide +kernel
theorem hd72_Jx4a65c_get_915e3 : yJx4a65c_get_915e3.cls = RJx4a65c ∧ yJx4a65c_get_915e3.cls ≠ "java/lang/invoke/MethodHandle" ∧ yJx4a65c_get_915e3.cls ≠ "java/lang/invoke/VarHandle" ∧ (parseMethodDescriptor yJx4a65c_get_915e3.desc).map (fun d => d.parameters.length) = some 1 := by decide +kernel
theorem lX5_familyByErrors_c49 : Cond.classLink RX5 49 "ModelCopies$Copy" ∈ wsX5_familyByErrors := by decide +kernel
theorem hd72_X5_setOf : yX5_setOf.cls ≠ "java/lang/invoke/MethodHandle" ∧ yX5_setOf.cls ≠ "java/lang/invoke/VarHandle" ∧ (parseMethodDescriptor yX5_setOf.desc).map (fun d => d.parameters.length) = some 1 := by decide +kernel
theorem hd72_X5_kinByErrors : yX5_kinByErrors.cls = RX5 ∧ yX5_kinByErrors.cls ≠ "java/lang/invoke/MethodHandle" ∧ yX5_kinByErrors.cls ≠ "java/lang/invoke/VarHandle" ∧ (parseMethodDescriptor yX5_kinByErrors.desc).map (fun d => d.parameters.length) = some 1 := by decide +kernel
theorem hd72_X5_kinByModels : yX5_kinByModels.cls = RX5 ∧ yX5_kinByModels.cls ≠ "java/lang/invoke/MethodHandle" ∧ yX5_kinByModels.cls ≠ "java/lang/invoke/VarHandle" ∧ (parseMethodDescriptor yX5_kinByModels.desc).map (fun d => d.parameters.length) = some 1 := by decide +kernel
theorem hd72_X5_findCopy : yX5_findCopy.cls = RX5 ∧ yX5_findCopy.cls ≠ "java/lang/invoke/MethodHandle" ∧ yX5_findCopy.cls ≠ "java/lang/invoke/VarHandle" ∧ (parseMethodDescriptor yX5_findCopy.desc).map (fun d => d.parameters.length) = some 1 := by decide +kernel
def FBI (V : Nat → Nat → Int) (n c : Nat) (Fd Dn : Nat → Bool) (k : Nat) : Prop := (Fd c = true) ∧ (∀ i, i < n → Dn i = true → Fd i = true ∧ ∀ j, j < n → kinV V i j = true → Fd j = true) ∧ (∀ i, i < n → Fd i = true → rch V n c i) ∧ smI (fun i => b01 (Dn i = true)) n = (k : Int)
theorem smI_full {p : Nat → Prop} [DecidablePred p] : ∀ n : Nat, smI (fun i => b01 (p i)) n = (n : Int) → ∀ i, i < n → p i
  | 0, _ => fun i hi => absurd hi (Nat.not_lt_zero i)
  | n + 1, h => by
    have r := smI_b01 (p := p) n
    simp only [smI] at h
    have q := b01_01 (p n)
    have e1 : b01 (p n) = 1 := by omega
    have e2 : smI (fun i => b01 (p i)) n = (n : Int) := by omega
    intro i hi
    by_cases e : i = n
    · subst e
      by_cases c : p i
      · exact c
      · rw [b01_f c] at e1; omega
    · exact smI_full n e2 i (by omega)
theorem FBI.fin {V : Nat → Nat → Int} {n c k : Nat} {Fd Dn : Nat → Bool} (h : FBI V n c Fd Dn k) (hc : c < n) (hcl : ∀ i, i < n → Fd i = true → Dn i = true) {f : Nat → Int} (hf : IsFam V n f) {z : Int} (hz : lowP Fd n z) : z = f c := by
  obtain ⟨⟨r, e1, e2, e3⟩, -⟩ := hf c hc
  have hr : r < n ∧ Fd r = true := e3 (fun i => i < n ∧ Fd i = true) ⟨hc, h.1⟩ (fun a b ha hb hk hP => ⟨hb, (h.2.1 a ha (hcl a ha hP.2)).2 b hb hk⟩)
  rcases hz with ⟨i, hi, fi, lo, rfl⟩ | ⟨no, -⟩
  · have hci := hf.const hc (h.2.2.1 i hi fi)
    obtain ⟨⟨r2, g1, g2, -⟩, -⟩ := hf i hi
    have : ¬ r < i := fun q => by
      have := lo r q
      rw [hr.2] at this
      cases this
    omega
  · have := no c hc
    rw [h.1] at this
    cases this
theorem FBI.step {V : Nat → Nat → Int} {n c k x : Nat} {Fd Dn : Nat → Bool} (h : FBI V n c Fd Dn k) (hx : x < n) (h1 : Fd x = true) (h2 : Dn x = false) : FBI V n c (fun i => Fd i || kinV V x i) (fun i => Dn i || decide (i = x)) (k + 1) := by
  obtain ⟨a1, a2, a3, a4⟩ := h
  refine ⟨by simp [a1], fun i hi hd => ?_, fun i hi hfi => ?_, ?_⟩
  · simp only [Bool.or_eq_true, decide_eq_true_eq] at hd
    rcases hd with hd | rfl
    · obtain ⟨b1, b2⟩ := a2 i hi hd
      exact ⟨by simp [b1], fun j hj hk => by simp [b2 j hj hk]⟩
    · exact ⟨by simp [h1], fun j hj hk => by simp [hk]⟩
  · simp only [Bool.or_eq_true] at hfi
    rcases hfi with q | q
    · exact a3 i hi q
    · exact (a3 x hx h1).tr (rch.one hx hi q)
  · have e : smI (fun i => b01 ((Dn i || decide (i = x)) = true)) n = smI (va_up (fun i => b01 (Dn i = true)) x 1) n := smI_cong n (fun i _ => by
      by_cases q : i = x
      · subst q; rw [va_up_self, b01_t (by simp)]
      · rw [va_up_ne _ _ q]; simp [q])
    rw [e, smI_up, if_pos hx, a4]
    have : b01 (Dn x = true) = 0 := b01_f (by rw [h2]; simp)
    show (k : Int) - b01 (Dn x = true) + 1 = _
    rw [this]
    omega
theorem lX5_fbe_k244 : Cond.constantLong RX5 244 (-1) ∈ wsX5_familyByErrors := by decide +kernel
theorem lN_m1 : (-1 : Int64) = lN (2 ^ 64 - 1) := by decide +kernel
section
variable {κ : KxT} {G : GG} {base mc ms : Nat} {post : Option Value → va_W → Prop} {exc : String → va_W → Prop} {X : va_W} {L : List Nat} {K : Nat → Nat} {I : Nat → Nat → Int} {F : Nat → Nat → Option Nat} {R : Nat → Nat → Int} {N : Nat → Nat} {O : Nat → Nat → Option Nat} {l : Launch}
variable {de n m t : Nat} {T : Nat → Nat} {g : Nat → Nat → Nat} {V : Nat → Nat → Int}
abbrev rmX5_familyByErrors : Room := { frames := 7, cells := 1, slots := 6, locals := 180 }
theorem lp_X5_fbe (C : Cx κ cX5_familyByErrors 9 wsX5_familyByErrors RX5 (some .int) rmX5_familyByErrors G base) {c : Nat} (hc : c < n) (h : RP de L K I F R N O T g V 5 n m t) (hw : WFV V n m t)
    (kk : ∀ (Fd Dn : Nat → Bool) (k : Nat) (lv : List (Nat × Value)), FBI V n c Fd Dn k → (∀ i, i < n → Fd i = true → Dn i = true) → Z κ 9 G base mc ms post exc 1 6 107 ((2, .long (lN (bitN Fd n))) :: (0, .ref (g 6 0)) :: lv) [] (pw G X L K I F R N O)) :
    ∀ (d k : Nat) (Fd Dn : Nat → Bool), k + d = n → FBI V n c Fd Dn k → Z κ 9 G base mc ms post exc 1 6 15 [(6, .int (iI (k : Int))), (4, .long (lN (bitN Dn n))), (2, .long (lN (bitN Fd n))), (0, .ref (g 6 0))] [] (pw G X L K I F R N O) := by
  have hn := hw.2.1
  intro d
  induction d with
  | zero =>
    intro k Fd Dn hk hI
    have e : k = n := by omega
    subst e
    refine z_iload C 0 rfl dX5_familyByErrors_15 (rfl : 15 + 2 = 17) ?_
    refine z_aload_n C 3 rfl rfl dX5_familyByErrors_17 (rfl : 17 + 1 = 18) ?_
    refine z_get C (pwm_MC h.x9.1 h.x9.2.1) rfl iX5_familyByErrors_X5 1 (by decide) lX5_familyByErrors_f16 rfl rfl dX5_familyByErrors_18 (rfl : 18 + 3 = 21) ?_
    rw [h.x9.2.2]
    refine z_callV C 1 6 (c_list_size h.l1) gX5_familyByErrors_Jx4a65c_size_8abf5 rfl hd72_Jx4a65c_size_8abf5 ⟨Nat.le_of_ble_eq_true rfl, Nat.le_of_ble_eq_true rfl⟩ (pwm_AL h.l1.1 h.l1.2.1) rfl rfl (Nat.le_of_ble_eq_true rfl) dX5_familyByErrors_21 (rfl : 21 + 3 = 24) rfl rfl ⟨Nat.le_of_ble_eq_true rfl, Nat.le_of_ble_eq_true rfl⟩ (fun _ _ h => h.elim) ?_ rfl
    rintro _ _ ⟨rfl, rfl⟩
    refine z_v1 ?_
    refine z_icmp_ge (pt := 107) C dX5_familyByErrors_24 (by decide) (rfl : 24 + 3 = 27) (iI_le (by omega) (by omega)).1 (fun q => mt (iI_le (by omega) (by omega)).2 q) (fun c1 => ?_) (fun c1 => ?_)
    · exact z_sub [2, 3] rfl (kk Fd Dn k [] hI (fun i hi _ => smI_full k hI.2.2.2 i hi))
    · exact absurd c1 (by omega)
  | succ d ih =>
    intro k Fd Dn hk hI
    refine z_iload C 0 rfl dX5_familyByErrors_15 (rfl : 15 + 2 = 17) ?_
    refine z_aload_n C 3 rfl rfl dX5_familyByErrors_17 (rfl : 17 + 1 = 18) ?_
    refine z_get C (pwm_MC h.x9.1 h.x9.2.1) rfl iX5_familyByErrors_X5 1 (by decide) lX5_familyByErrors_f16 rfl rfl dX5_familyByErrors_18 (rfl : 18 + 3 = 21) ?_
    rw [h.x9.2.2]
    refine z_callV C 1 6 (c_list_size h.l1) gX5_familyByErrors_Jx4a65c_size_8abf5 rfl hd72_Jx4a65c_size_8abf5 ⟨Nat.le_of_ble_eq_true rfl, Nat.le_of_ble_eq_true rfl⟩ (pwm_AL h.l1.1 h.l1.2.1) rfl rfl (Nat.le_of_ble_eq_true rfl) dX5_familyByErrors_21 (rfl : 21 + 3 = 24) rfl rfl ⟨Nat.le_of_ble_eq_true rfl, Nat.le_of_ble_eq_true rfl⟩ (fun _ _ h => h.elim) ?_ rfl
    rintro _ _ ⟨rfl, rfl⟩
    refine z_v1 ?_
    refine z_icmp_ge (pt := 107) C dX5_familyByErrors_24 (by decide) (rfl : 24 + 3 = 27) (iI_le (by omega) (by omega)).1 (fun q => mt (iI_le (by omega) (by omega)).2 q) (fun c1 => ?_) (fun c1 => ?_)
    · exact absurd c1 (by omega)
    refine z_aload_n C 3 rfl rfl dX5_familyByErrors_27 (rfl : 27 + 1 = 28) ?_
    refine z_lload_n C 2 rfl rfl dX5_familyByErrors_28 (rfl : 28 + 1 = 29) ?_
    refine z_lload C 1 rfl dX5_familyByErrors_29 (rfl : 29 + 2 = 31) ?_
    refine z_ldc2 C (C.hts lX5_fbe_k244) dX5_familyByErrors_31 (rfl : 31 + 3 = 34) ?_
    refine z_lxor C dX5_familyByErrors_34 (rfl : 34 + 1 = 35) ?_
    refine z_land C dX5_familyByErrors_35 (rfl : 35 + 1 = 36) ?_
    refine z_topl (y := lN (bitN (fun i => Fd i && !Dn i) n)) (by rw [lN_m1, lN_xor, lN_and, bitN_diff _ _ (by omega)]) ?_
    refine z_callV C 1 6 (c_X5_lowestIn h hw) gX5_familyByErrors_X5_lowestIn rfl hd72_X5_lowestIn ⟨Nat.le_of_ble_eq_true rfl, Nat.le_of_ble_eq_true rfl⟩ (pwm_MC h.x8.1 h.x8.2.1) rfl rfl (Nat.le_of_ble_eq_true rfl) dX5_familyByErrors_36 (rfl : 36 + 3 = 39) rfl rfl ⟨Nat.le_of_ble_eq_true rfl, Nat.le_of_ble_eq_true rfl⟩ (fun _ _ h => h.elim) ?_ rfl
    rintro _ _ ⟨rfl, z, hz, rfl⟩
    refine z_v1 ?_
    refine z_istore (lv' := [(7, _), (6, _), (4, _), (2, _), (0, _)]) C dX5_familyByErrors_39 (rfl : 39 + 2 = 41) (by decide) rfl ?_
    refine z_iload C 0 rfl dX5_familyByErrors_41 (rfl : 41 + 2 = 43) ?_
    rcases hz with ⟨x, hx, fx, lo, rfl⟩ | ⟨no, rfl⟩
    rotate_left
    · refine z_if_lt (pt := 107) C dX5_familyByErrors_43 (by decide) (rfl : 43 + 3 = 46) (iI_lt0 (by omega)).1 (fun q => mt (iI_lt0 (by omega)).2 q) (fun c2 => ?_) (fun c2 => ?_)
      · refine z_sub [3, 4] rfl (kk Fd Dn k [] hI (fun i hi hf => ?_))
        have := no i hi
        simp [hf] at this
        exact this
      · exact absurd c2 (by decide)
    have fx1 : Fd x = true ∧ Dn x = false := by simpa using fx
    refine z_if_lt (pt := 107) C dX5_familyByErrors_43 (by decide) (rfl : 43 + 3 = 46) (iI_lt0 (by omega)).1 (fun q => mt (iI_lt0 (by omega)).2 q) (fun c2 => ?_) (fun c2 => ?_)
    · exact absurd c2 (by omega)
    refine z_iload C 0 rfl dX5_familyByErrors_46 (rfl : 46 + 2 = 48) ?_
    refine z_aload_n C 4 rfl rfl dX5_familyByErrors_48 (rfl : 48 + 1 = 49) ?_
    refine z_get C (pwm_MC h.x9.1 h.x9.2.1) rfl iX5_familyByErrors_X5 1 (by decide) lX5_familyByErrors_f16 rfl rfl dX5_familyByErrors_49 (rfl : 49 + 3 = 52) ?_
    rw [h.x9.2.2]
    refine z_callV C 1 6 (c_list_size h.l1) gX5_familyByErrors_Jx4a65c_size_8abf5 rfl hd72_Jx4a65c_size_8abf5 ⟨Nat.le_of_ble_eq_true rfl, Nat.le_of_ble_eq_true rfl⟩ (pwm_AL h.l1.1 h.l1.2.1) rfl rfl (Nat.le_of_ble_eq_true rfl) dX5_familyByErrors_52 (rfl : 52 + 3 = 55) rfl rfl ⟨Nat.le_of_ble_eq_true rfl, Nat.le_of_ble_eq_true rfl⟩ (fun _ _ h => h.elim) ?_ rfl
    rintro _ _ ⟨rfl, rfl⟩
    refine z_v1 ?_
    refine z_icmp_lt (pt := 61) C dX5_familyByErrors_55 (by decide) (rfl : 55 + 3 = 58) (iI_lt (by omega) (by omega)).1 (fun q => mt (iI_lt (by omega) (by omega)).2 q) (fun c3 => ?_) (fun c3 => ?_)
    rotate_left
    · exact absurd c3 (by omega)
    refine z_aload_n C 4 rfl rfl dX5_familyByErrors_61 (rfl : 61 + 1 = 62) ?_
    refine z_get C (pwm_MC h.x9.1 h.x9.2.1) rfl iX5_familyByErrors_X5 1 (by decide) lX5_familyByErrors_f16 rfl rfl dX5_familyByErrors_62 (rfl : 62 + 3 = 65) ?_
    rw [h.x9.2.2]
    refine z_iload C 0 rfl dX5_familyByErrors_65 (rfl : 65 + 2 = 67) ?_
    refine z_callV C 1 6 (c_list_get (i := x) h.l1 hx) gX5_familyByErrors_Jx4a65c_get_915e3 rfl hd72_Jx4a65c_get_915e3 ⟨Nat.le_of_ble_eq_true rfl, Nat.le_of_ble_eq_true rfl⟩ (pwm_AL h.l1.1 h.l1.2.1) rfl rfl (Nat.le_of_ble_eq_true rfl) dX5_familyByErrors_67 (rfl : 67 + 3 = 70) rfl rfl ⟨Nat.le_of_ble_eq_true rfl, Nat.le_of_ble_eq_true rfl⟩ (fun _ _ h => h.elim) ?_ rfl
    rintro _ _ ⟨rfl, rfl⟩
    refine z_v1 ?_
    refine z_cast C (pwm_Copy (h.g0 hx).1 (h.g0 hx).2) rfl lX5_familyByErrors_c49 dX5_familyByErrors_70 (rfl : 70 + 3 = 73) ?_
    refine z_astore (lv' := [(8, _), (7, _), (6, _), (4, _), (2, _), (0, _)]) C dX5_familyByErrors_73 (rfl : 73 + 2 = 75) (by decide) rfl ?_
    refine z_lload C 3 rfl dX5_familyByErrors_75 (rfl : 75 + 2 = 77) ?_
    refine z_aload C 0 rfl dX5_familyByErrors_77 (rfl : 77 + 2 = 79) ?_
    refine z_callS C 1 6 (c_X5_setOf (h.g0 hx).1 (h.g0 hx).2 (h.2.1.2.2.2.1 x hx).2.2.1 (by omega)) gX5_familyByErrors_X5_setOf rfl hd72_X5_setOf ⟨Nat.le_of_ble_eq_true rfl, Nat.le_of_ble_eq_true rfl⟩ rfl (Nat.le_of_ble_eq_true rfl) dX5_familyByErrors_79 (rfl : 79 + 3 = 82) rfl rfl ⟨Nat.le_of_ble_eq_true rfl, Nat.le_of_ble_eq_true rfl⟩ (fun _ _ h => h.elim) ?_ rfl
    rintro _ _ ⟨rfl, rfl⟩
    refine z_v1 ?_
    refine z_lor C dX5_familyByErrors_82 (rfl : 82 + 1 = 83) ?_
    refine z_topl (y := lN (bitN (fun i => Dn i || decide (i = x)) n)) (by rw [lN_or, bitN_pow hx, bitN_ior]) ?_
    refine z_lstore (lv' := [(4, _), (8, _), (7, _), (6, _), (2, _), (0, _)]) C dX5_familyByErrors_83 (rfl : 83 + 2 = 85) (by decide) rfl ?_
    refine z_lload_n C 4 rfl rfl dX5_familyByErrors_85 (rfl : 85 + 1 = 86) ?_
    refine z_aload_n C 5 rfl rfl dX5_familyByErrors_86 (rfl : 86 + 1 = 87) ?_
    refine z_aload C 1 rfl dX5_familyByErrors_87 (rfl : 87 + 2 = 89) ?_
    refine z_callV C 1 6 (c_X5_kinByErrors hx h hw) gX5_familyByErrors_X5_kinByErrors rfl hd72_X5_kinByErrors ⟨Nat.le_of_ble_eq_true rfl, Nat.le_of_ble_eq_true rfl⟩ (pwm_MC h.x8.1 h.x8.2.1) rfl rfl (Nat.le_of_ble_eq_true rfl) dX5_familyByErrors_89 (rfl : 89 + 3 = 92) rfl rfl ⟨Nat.le_of_ble_eq_true rfl, Nat.le_of_ble_eq_true rfl⟩ (fun _ _ h => h.elim) ?_ rfl
    rintro _ _ ⟨rfl, rfl⟩
    refine z_v1 ?_
    refine z_aload_n C 5 rfl rfl dX5_familyByErrors_92 (rfl : 92 + 1 = 93) ?_
    refine z_aload C 1 rfl dX5_familyByErrors_93 (rfl : 93 + 2 = 95) ?_
    refine z_callV C 1 6 (c_X5_kinByModels hx h hw) gX5_familyByErrors_X5_kinByModels rfl hd72_X5_kinByModels ⟨Nat.le_of_ble_eq_true rfl, Nat.le_of_ble_eq_true rfl⟩ (pwm_MC h.x8.1 h.x8.2.1) rfl rfl (Nat.le_of_ble_eq_true rfl) dX5_familyByErrors_95 (rfl : 95 + 3 = 98) rfl rfl ⟨Nat.le_of_ble_eq_true rfl, Nat.le_of_ble_eq_true rfl⟩ (fun _ _ h => h.elim) ?_ rfl
    rintro _ _ ⟨rfl, rfl⟩
    refine z_v1 ?_
    refine z_lor C dX5_familyByErrors_98 (rfl : 98 + 1 = 99) ?_
    refine z_lor C dX5_familyByErrors_99 (rfl : 99 + 1 = 100) ?_
    refine z_topl (y := lN (bitN (fun i => Fd i || kinV V x i) n)) (by rw [lN_or, lN_or, bitN_ior, bitN_ior]; congr 1; exact bitN_cong n (fun i hi => by rw [kinV_kb V hi])) ?_
    refine z_lstore_n (lv' := [(2, _), (4, _), (8, _), (7, _), (6, _), (0, _)]) C rfl dX5_familyByErrors_100 (rfl : 100 + 1 = 101) (by decide) rfl ?_
    refine z_iinc (lv' := [(6, _), (2, _), (4, _), (8, _), (7, _), (0, _)]) C 4 dX5_familyByErrors_101 (rfl : 101 + 3 = 104) rfl rfl (by decide) rfl ?_
    refine z_goto (pc' := 15) C dX5_familyByErrors_104 (by decide) ?_
    exact z_sub [0, 2, 1, 5] rfl (ih (k + 1) _ _ (by omega) (hI.step hx fx1.1 fx1.2))
theorem c_X5_familyByErrors {z : Int} (hz : -2147483648 ≤ z ∧ z < 2147483648) (h : RX de L K I F R N O T g V n m t) (hw : WFV V n m t) : MC l yX5_familyByErrors wsX5_familyByErrors rmX5_familyByErrors G base [.ref (g 6 0), .int (iI z)] (pw G X L K I F R N O) (fun v w => w = (pw G X L K I F R N O) ∧ (0 ≤ z ∧ z < n) ∧ ∃ f : Nat → Int, IsFam V n f ∧ v = some (.int (iI (f z.toNat)))) (rdE (pw G X L K I F R N O) (0 ≤ z ∧ z < n)) := by
  refine MC.of (cc := cX5_familyByErrors) (by decide) rfl rfl (Nat.le_of_ble_eq_true rfl) ?_
  intro κ C hT hl hnm
  have hn := hw.2.1
  refine z_sub [0, 1] (lv' := [(0, .ref (g 6 0)), (1, .int (iI z))]) rfl ?_
  refine z_aload_n C 0 rfl rfl dX5_familyByErrors_0 (rfl : 0 + 1 = 1) ?_
  refine z_iload_n C 1 rfl rfl dX5_familyByErrors_1 (rfl : 1 + 1 = 2) ?_
  refine z_callV C 1 6 (c_X5_findCopy (rA := g 1) hz h.1.x9 h.1.l1 (by omega) (fun i hi => h.1.isC hi)) gX5_familyByErrors_X5_findCopy rfl hd72_X5_findCopy ⟨Nat.le_of_ble_eq_true rfl, Nat.le_of_ble_eq_true rfl⟩ (pwm_MC h.1.x8.1 h.1.x8.2.1) rfl rfl (Nat.le_of_ble_eq_true rfl) dX5_familyByErrors_2 (rfl : 2 + 3 = 5) rfl rfl ⟨Nat.le_of_ble_eq_true rfl, Nat.le_of_ble_eq_true rfl⟩ (fun E w h => z_out C hT ⟨h.1, h.2.1, h.2.2⟩ (by decide) (by decide)) ?_ rfl
  rintro _ _ ⟨rfl, c, rfl, hc, rfl⟩
  refine z_v1 ?_
  refine z_callS C 1 6 (c_X5_setOf (h.1.g0 hc).1 (h.1.g0 hc).2 (h.1.2.1.2.2.2.1 c hc).2.2.1 (by omega)) gX5_familyByErrors_X5_setOf rfl hd72_X5_setOf ⟨Nat.le_of_ble_eq_true rfl, Nat.le_of_ble_eq_true rfl⟩ rfl (Nat.le_of_ble_eq_true rfl) dX5_familyByErrors_5 (rfl : 5 + 3 = 8) rfl rfl ⟨Nat.le_of_ble_eq_true rfl, Nat.le_of_ble_eq_true rfl⟩ (fun _ _ h => h.elim) ?_ rfl
  rintro _ _ ⟨rfl, rfl⟩
  refine z_v1 ?_
  refine z_lstore_n (lv' := [(2, _), (0, _), (1, _)]) C rfl dX5_familyByErrors_8 (rfl : 8 + 1 = 9) (by decide) rfl ?_
  refine z_lconst (v := 0) C (by decide) dX5_familyByErrors_9 (rfl : 9 + 1 = 10) ?_
  refine z_lstore (lv' := [(4, _), (2, _), (0, _), (1, _)]) C dX5_familyByErrors_10 (rfl : 10 + 2 = 12) (by decide) rfl ?_
  refine z_iconst C dX5_familyByErrors_12 (rfl : 12 + 1 = 13) ?_
  refine z_istore (lv' := [(6, _), (4, _), (2, _), (0, _), (1, _)]) C dX5_familyByErrors_13 (rfl : 13 + 2 = 15) (by decide) rfl ?_
  have e0 : bitN (fun _ => false) n = 0 := by
    apply Nat.eq_of_testBit_eq
    intro i
    rw [bitN_tb, Nat.zero_testBit]
    simp
  refine z_sub [0, 1, 2, 3] (lv' := [(6, .int (iI ((0 : Nat) : Int))), (4, .long (lN (bitN (fun _ => false) n))), (2, .long (lN (bitN (fun i => decide (i = c)) n))), (0, .ref (g 6 0))]) (by rw [e0, ← bitN_pow hc]; rfl) ?_
  have z0 : ∀ k : Nat, smI (fun i => b01 ((fun _ : Nat => false) i = true)) k = 0 := fun k => by
    induction k with
    | zero => rfl
    | succ k ih => simp only [smI]; rw [ih]; rfl
  refine lp_X5_fbe C hc h.1 hw (fun Fd Dn k lv hI hcl => ?_) n 0 _ _ (by omega) ⟨by simp, fun i _ hd => absurd (show false = true from hd) (by decide), fun i _ hf => ?_, z0 n⟩
  rotate_left
  · have : i = c := by simpa using hf
    subst this
    exact rch.rf
  refine z_aload_n C 1 rfl rfl dX5_familyByErrors_107 (rfl : 107 + 1 = 108) ?_
  refine z_lload_n C 0 rfl rfl dX5_familyByErrors_108 (rfl : 108 + 1 = 109) ?_
  refine z_callV C 1 6 (c_X5_lowestIn h.1 hw) gX5_familyByErrors_X5_lowestIn rfl hd72_X5_lowestIn ⟨Nat.le_of_ble_eq_true rfl, Nat.le_of_ble_eq_true rfl⟩ (pwm_MC h.1.x8.1 h.1.x8.2.1) rfl rfl (Nat.le_of_ble_eq_true rfl) dX5_familyByErrors_109 (rfl : 109 + 3 = 112) rfl rfl ⟨Nat.le_of_ble_eq_true rfl, Nat.le_of_ble_eq_true rfl⟩ (fun _ _ h => h.elim) ?_ rfl
  rintro _ _ ⟨rfl, z, hz, rfl⟩
  refine z_v1 ?_
  have ef := hI.fin hc hcl h.2 hz
  exact z_iret C rfl dX5_familyByErrors_112 ⟨rfl, ⟨by omega, by omega⟩, _, h.2, by rw [ef]; rfl⟩ (by decide) (by decide)
end
