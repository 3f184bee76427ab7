theorem lX5_kinByModels_f16 : Cond.fieldLink RX5 16 "ModelCopies" "copies" "Ljava/util/ArrayList;" ∈ wsX5_kinByModels := by decide +kernel
theorem iX5_kinByModels_X5 : ∀ w ∈ wsX50, w ∈ wsX5_kinByModels := by decide +kernel
theorem hd70_Jx4a65c_size_8abf5 : yJx4a65c_size_8abf5.cls = RJx4a65c ∧ yJx4a65c_size_8abf5.cls ≠ "java/lang/invoke/MethodHandle" ∧ yJx4a65c_size_8abf5.cls ≠ "java/lang/invoke/VarHandle" ∧ (parseMethodDescriptor yJx4a65c_size_8abf5.desc).map (fun d => d.parameters.length) = some 0 := by decide +kernel
theorem hd70_Jx4a65c_get_915e3 : yJx4a65c_get_915e3.cls = RJx4a65c ∧ yJx4a65c_get_915e3.cls ≠ "java/lang/invoke/MethodHandle" ∧ yJx4a65c_get_915e3.cls ≠ "java/lang/invoke/VarHandle" ∧ (parseMethodDescriptor yJx4a65c_get_915e3.desc).map (fun d => d.parameters.length) = some 1 := by decide +kernel
theorem lX5_kinByModels_c49 : Cond.classLink RX5 49 "ModelCopies$Copy" ∈ wsX5_kinByModels := by decide +kernel
theorem hd70_X0_modelIfTold : yX0_modelIfTold.cls = RX0 ∧ yX0_modelIfTold.cls ≠ "java/lang/invoke/MethodHandle" ∧ yX0_modelIfTold.cls ≠ "java/lang/invoke/VarHandle" ∧ (parseMethodDescriptor yX0_modelIfTold.desc).map (fun d => d.parameters.length) = some 0 := by decide +kernel
theorem hd70_X5_setOf : yX5_setOf.cls ≠ "java/lang/invoke/MethodHandle" ∧ yX5_setOf.cls ≠ "java/lang/invoke/VarHandle" ∧ (parseMethodDescriptor yX5_setOf.desc).map (fun d => d.parameters.length) = some 1 := by decide +kernel
def kmB (V : Nat → Nat → Int) (c k i : Nat) : Bool := decide (V 2 c = 1 ∧ V 1 c = (i : Int)) || (decide (i < k) && decide (V 2 i = 1 ∧ V 1 i = (c : Int)))
theorem kinV_kb (V : Nat → Nat → Int) {n c i : Nat} (hi : i < n) : kinV V c i = (keB V c 24 i || kmB V c n i) := by
  unfold kinV keB kmB shV
  rw [decide_eq_true hi]
  simp [Bool.or_assoc]
section
variable {κ : KxT} {G : GG} {base mc ms : Nat} {post : Option Value → va_W → Prop} {exc : String → va_W → Prop} {X : va_W} {L : List Nat} {K : Nat → Nat} {I : Nat → Nat → Int} {F : Nat → Nat → Option Nat} {R : Nat → Nat → Int} {N : Nat → Nat} {O : Nat → Nat → Option Nat} {l : Launch}
variable {de n m t : Nat} {T : Nat → Nat} {g : Nat → Nat → Nat} {V : Nat → Nat → Int}
abbrev rmX5_kinByModels : Room := { frames := 3, cells := 0, slots := 0, locals := 80 }
theorem lp_X5_kinByModels (C : Cx κ cX5_kinByModels 7 wsX5_kinByModels RX5 (some .long) rmX5_kinByModels G base) {c : Nat} (hc : c < n) (h : RP de L K I F R N O T g V 5 n m t) (hw : WFV V n m t)
    (hq : post (some (.long (lN (bitN (kmB V c n) n)))) (pw G X L K I F R N O)) :
    ∀ (d k : Nat), k + d = n → Z κ 7 G base mc ms post exc 0 0 21 [(5, .int (iI (k : Int))), (3, .long (lN (bitN (kmB V c k) n))), (0, .ref (g 6 0)), (1, .ref (g 0 c))] [] (pw G X L K I F R N O) := by
  have hn := hw.2.1
  intro d
  induction d with
  | zero =>
    intro k hk
    have e : k = n := by omega
    subst e
    refine z_iload C 0 rfl dX5_kinByModels_21 (rfl : 21 + 2 = 23) ?_
    refine z_aload_n C 2 rfl rfl dX5_kinByModels_23 (rfl : 23 + 1 = 24) ?_
    refine z_get C (pwm_MC h.x9.1 h.x9.2.1) rfl iX5_kinByModels_X5 1 (by decide) lX5_kinByModels_f16 rfl rfl dX5_kinByModels_24 (rfl : 24 + 3 = 27) ?_
    rw [h.x9.2.2]
    refine z_callV C 0 0 (c_list_size h.l1) gX5_kinByModels_Jx4a65c_size_8abf5 rfl hd70_Jx4a65c_size_8abf5 ⟨Nat.le_of_ble_eq_true rfl, Nat.le_of_ble_eq_true rfl⟩ (pwm_AL h.l1.1 h.l1.2.1) rfl rfl (Nat.le_of_ble_eq_true rfl) dX5_kinByModels_27 (rfl : 27 + 3 = 30) rfl rfl ⟨Nat.le_of_ble_eq_true rfl, Nat.le_of_ble_eq_true rfl⟩ (fun _ _ h => h.elim) ?_ rfl
    rintro _ _ ⟨rfl, rfl⟩
    refine z_v1 ?_
    refine z_icmp_ge (pt := 70) C dX5_kinByModels_30 (by decide) (rfl : 30 + 3 = 33) (iI_le (by omega) (by omega)).1 (fun q => mt (iI_le (by omega) (by omega)).2 q) (fun c1 => ?_) (fun c1 => ?_)
    · refine z_lload_n C 1 rfl rfl dX5_kinByModels_70 (rfl : 70 + 1 = 71) ?_
      exact z_lret C rfl dX5_kinByModels_71 hq (Nat.zero_le _) (Nat.zero_le _)
    · exact absurd c1 (by omega)
  | succ d ih =>
    intro k hk
    have hkn : k < n := by omega
    have tj := h.tmj hw hkn hc
    refine z_iload C 0 rfl dX5_kinByModels_21 (rfl : 21 + 2 = 23) ?_
    refine z_aload_n C 2 rfl rfl dX5_kinByModels_23 (rfl : 23 + 1 = 24) ?_
    refine z_get C (pwm_MC h.x9.1 h.x9.2.1) rfl iX5_kinByModels_X5 1 (by decide) lX5_kinByModels_f16 rfl rfl dX5_kinByModels_24 (rfl : 24 + 3 = 27) ?_
    rw [h.x9.2.2]
    refine z_callV C 0 0 (c_list_size h.l1) gX5_kinByModels_Jx4a65c_size_8abf5 rfl hd70_Jx4a65c_size_8abf5 ⟨Nat.le_of_ble_eq_true rfl, Nat.le_of_ble_eq_true rfl⟩ (pwm_AL h.l1.1 h.l1.2.1) rfl rfl (Nat.le_of_ble_eq_true rfl) dX5_kinByModels_27 (rfl : 27 + 3 = 30) rfl rfl ⟨Nat.le_of_ble_eq_true rfl, Nat.le_of_ble_eq_true rfl⟩ (fun _ _ h => h.elim) ?_ rfl
    rintro _ _ ⟨rfl, rfl⟩
    refine z_v1 ?_
    refine z_icmp_ge (pt := 70) C dX5_kinByModels_30 (by decide) (rfl : 30 + 3 = 33) (iI_le (by omega) (by omega)).1 (fun q => mt (iI_le (by omega) (by omega)).2 q) (fun c1 => ?_) (fun c1 => ?_)
    · exact absurd c1 (by omega)
    refine z_aload_n C 2 rfl rfl dX5_kinByModels_33 (rfl : 33 + 1 = 34) ?_
    refine z_get C (pwm_MC h.x9.1 h.x9.2.1) rfl iX5_kinByModels_X5 1 (by decide) lX5_kinByModels_f16 rfl rfl dX5_kinByModels_34 (rfl : 34 + 3 = 37) ?_
    rw [h.x9.2.2]
    refine z_iload C 0 rfl dX5_kinByModels_37 (rfl : 37 + 2 = 39) ?_
    refine z_callV C 0 0 (c_list_get (i := k) h.l1 hkn) gX5_kinByModels_Jx4a65c_get_915e3 rfl hd70_Jx4a65c_get_915e3 ⟨Nat.le_of_ble_eq_true rfl, Nat.le_of_ble_eq_true rfl⟩ (pwm_AL h.l1.1 h.l1.2.1) rfl rfl (Nat.le_of_ble_eq_true rfl) dX5_kinByModels_39 (rfl : 39 + 3 = 42) rfl rfl ⟨Nat.le_of_ble_eq_true rfl, Nat.le_of_ble_eq_true rfl⟩ (fun _ _ h => h.elim) ?_ rfl
    rintro _ _ ⟨rfl, rfl⟩
    refine z_v1 ?_
    refine z_cast C (pwm_Copy (h.g0 hkn).1 (h.g0 hkn).2) rfl lX5_kinByModels_c49 dX5_kinByModels_42 (rfl : 42 + 3 = 45) ?_
    refine z_astore (lv' := [(6, _), (5, _), (3, _), (0, _), (1, _)]) C dX5_kinByModels_45 (rfl : 45 + 2 = 47) (by decide) rfl ?_
    refine z_aload C 0 rfl dX5_kinByModels_47 (rfl : 47 + 2 = 49) ?_
    refine z_callV C 0 0 (c_X0_modelIfTold (h.isC hkn) (h.cpv hw k hkn).2) gX5_kinByModels_X0_modelIfTold rfl hd70_X0_modelIfTold ⟨Nat.le_of_ble_eq_true rfl, Nat.le_of_ble_eq_true rfl⟩ (pwm_Copy (h.g0 hkn).1 (h.g0 hkn).2) rfl rfl (Nat.le_of_ble_eq_true rfl) dX5_kinByModels_49 (rfl : 49 + 3 = 52) rfl rfl ⟨Nat.le_of_ble_eq_true rfl, Nat.le_of_ble_eq_true rfl⟩ (fun _ _ h => h.elim) ?_ rfl
    rintro _ _ ⟨rfl, rfl⟩
    refine z_v1 ?_
    refine z_aload_n C 4 rfl rfl dX5_kinByModels_52 (rfl : 52 + 1 = 53) ?_
    refine z_acmp_ne (pt := 64) C (tmo I F (g 0 k)) (some (g 0 c)) dX5_kinByModels_53 (by decide) (rfl : 53 + 3 = 56) (fun c2 => ?_) (fun c2 => ?_)
    · have e : bitN (kmB V c (k + 1)) n = bitN (kmB V c k) n := bitN_cong n (fun i _ => by
        unfold kmB
        by_cases q : i = k
        · subst q
          have : ¬ (V 2 i = 1 ∧ V 1 i = (c : Int)) := fun x => c2 (tj.mpr x)
          simp [this]
        · have : (i < k + 1) = (i < k) := by rw [eq_iff_iff]; omega
          simp only [this])
      refine z_iinc (lv' := [(5, _), (6, _), (3, _), (0, _), (1, _)]) C 1 dX5_kinByModels_64 (rfl : 64 + 3 = 67) rfl rfl (by decide) rfl ?_
      refine z_goto (pc' := 21) C dX5_kinByModels_67 (by decide) ?_
      have := ih (k + 1) (by omega)
      rw [e] at this
      exact z_sub [0, 2, 3, 4] rfl this
    refine z_lload_n C 2 rfl rfl dX5_kinByModels_56 (rfl : 56 + 1 = 57) ?_
    refine z_aload C 0 rfl dX5_kinByModels_57 (rfl : 57 + 2 = 59) ?_
    refine z_callS C 0 0 (c_X5_setOf (h.g0 hkn).1 (h.g0 hkn).2 (h.2.1.2.2.2.1 k hkn).2.2.1 (by omega)) gX5_kinByModels_X5_setOf rfl hd70_X5_setOf ⟨Nat.le_of_ble_eq_true rfl, Nat.le_of_ble_eq_true rfl⟩ rfl (Nat.le_of_ble_eq_true rfl) dX5_kinByModels_59 (rfl : 59 + 3 = 62) rfl rfl ⟨Nat.le_of_ble_eq_true rfl, Nat.le_of_ble_eq_true rfl⟩ (fun _ _ h => h.elim) ?_ rfl
    rintro _ _ ⟨rfl, rfl⟩
    refine z_v1 ?_
    refine z_lor C dX5_kinByModels_62 (rfl : 62 + 1 = 63) ?_
    have e : bitN (kmB V c k) n ||| 2 ^ k = bitN (kmB V c (k + 1)) n := by
      rw [bitN_pow hkn, bitN_ior]
      refine bitN_cong n (fun i _ => ?_)
      unfold kmB
      by_cases q : i = k
      · subst q
        have : V 2 i = 1 ∧ V 1 i = (c : Int) := tj.mp c2
        simp [this]
      · have : (i < k + 1) = (i < k) := by rw [eq_iff_iff]; omega
        simp only [this, decide_eq_false q, Bool.or_false]
    refine z_topl (y := lN (bitN (kmB V c (k + 1)) n)) (by rw [lN_or, e]) ?_
    refine z_lstore_n (lv' := [(3, _), (6, _), (5, _), (0, _), (1, _)]) C rfl dX5_kinByModels_63 (rfl : 63 + 1 = 64) (by decide) rfl ?_
    refine z_iinc (lv' := [(5, _), (3, _), (6, _), (0, _), (1, _)]) C 2 dX5_kinByModels_64 (rfl : 64 + 3 = 67) rfl rfl (by decide) rfl ?_
    refine z_goto (pc' := 21) C dX5_kinByModels_67 (by decide) ?_
    exact z_sub [0, 1, 3, 4] rfl (ih (k + 1) (by omega))
theorem c_X5_kinByModels {c : Nat} (hc : c < n) (h : RP de L K I F R N O T g V 5 n m t) (hw : WFV V n m t) : MC l yX5_kinByModels wsX5_kinByModels rmX5_kinByModels G base [.ref (g 6 0), .ref (g 0 c)] (pw G X L K I F R N O) (fun v w => v = some (.long (lN (bitN (kmB V c n) n))) ∧ w = (pw G X L K I F R N O)) (fun _ _ => False) := by
  refine MC.of (cc := cX5_kinByModels) (by decide) rfl rfl (Nat.le_of_ble_eq_true rfl) ?_
  intro κ C hT hl hnm
  have hn := hw.2.1
  have h2 := hw.2.2.2.2.1.2 c (by omega)
  have h1 := hw.mo hc
  refine z_sub [0, 1] (lv' := [(0, .ref (g 6 0)), (1, .ref (g 0 c))]) rfl ?_
  refine z_aload_n C 1 rfl rfl dX5_kinByModels_0 (rfl : 0 + 1 = 1) ?_
  refine z_callV C 0 0 (c_X0_modelIfTold (h.isC hc) (h.cpv hw c hc).2) gX5_kinByModels_X0_modelIfTold rfl hd70_X0_modelIfTold ⟨Nat.le_of_ble_eq_true rfl, Nat.le_of_ble_eq_true rfl⟩ (pwm_Copy (h.g0 hc).1 (h.g0 hc).2) rfl rfl (Nat.le_of_ble_eq_true rfl) dX5_kinByModels_1 (rfl : 1 + 3 = 4) rfl rfl ⟨Nat.le_of_ble_eq_true rfl, Nat.le_of_ble_eq_true rfl⟩ (fun _ _ h => h.elim) ?_ rfl
  rintro _ _ ⟨rfl, rfl⟩
  refine z_v1 ?_
  rw [h.tmE hc]
  by_cases ct : V 2 c = 0 ∨ V 1 c = -1
  · rw [if_pos ct]
    refine z_astore_nN (lv' := [(2, .null), (0, .ref (g 6 0)), (1, .ref (g 0 c))]) C rfl dX5_kinByModels_4 (rfl : 4 + 1 = 5) (by decide) rfl ?_
    refine z_aload_nN C 0 rfl rfl dX5_kinByModels_5 (rfl : 5 + 1 = 6) ?_
    refine z_ifnonnullN C  dX5_kinByModels_6 (rfl : 6 + 3 = 9) ?_
    refine z_lconst (v := 0) C (by decide) dX5_kinByModels_9 (rfl : 9 + 1 = 10) ?_
    refine z_goto (pc' := 17) C dX5_kinByModels_10 (by decide) ?_
    refine z_lstore_n (lv' := [(3, _), (2, _), (0, _), (1, _)]) C rfl dX5_kinByModels_17 (rfl : 17 + 1 = 18) (by decide) rfl ?_
    refine z_iconst C dX5_kinByModels_18 (rfl : 18 + 1 = 19) ?_
    refine z_istore (lv' := [(5, _), (3, _), (2, _), (0, _), (1, _)]) C dX5_kinByModels_19 (rfl : 19 + 2 = 21) (by decide) rfl ?_
    have e : bitN (kmB V c 0) n = 0 := by
      apply Nat.eq_of_testBit_eq
      intro i
      rw [bitN_tb, Nat.zero_testBit]
      have q : ¬ (V 2 c = 1 ∧ V 1 c = (i : Int)) := by omega
      have : kmB V c 0 i = false := by unfold kmB; simp [q]
      simp [this]
    refine z_sub [0, 1, 3, 4] (lv' := [(5, .int (iI ((0 : Nat) : Int))), (3, .long (lN (bitN (kmB V c 0) n))), (0, .ref (g 6 0)), (1, .ref (g 0 c))]) (by rw [e]; rfl) ?_
    exact lp_X5_kinByModels C hc h hw ⟨rfl, rfl⟩ n 0 (by omega)
  rw [if_neg ct]
  refine z_astore_n (lv' := [(2, _), (0, _), (1, _)]) C rfl dX5_kinByModels_4 (rfl : 4 + 1 = 5) (by decide) rfl ?_
  refine z_aload_n C 0 rfl rfl dX5_kinByModels_5 (rfl : 5 + 1 = 6) ?_
  refine z_ifnonnull (pc' := 13) C dX5_kinByModels_6 (by decide) ?_
  refine z_aload_n C 0 rfl rfl dX5_kinByModels_13 (rfl : 13 + 1 = 14) ?_
  have hmn : (V 1 c).toNat < n := by omega
  refine z_callS C 0 0 (c_X5_setOf (h.g0 hmn).1 (h.g0 hmn).2 (h.2.1.2.2.2.1 _ hmn).2.2.1 (by omega)) gX5_kinByModels_X5_setOf rfl hd70_X5_setOf ⟨Nat.le_of_ble_eq_true rfl, Nat.le_of_ble_eq_true rfl⟩ rfl (Nat.le_of_ble_eq_true rfl) dX5_kinByModels_14 (rfl : 14 + 3 = 17) rfl rfl ⟨Nat.le_of_ble_eq_true rfl, Nat.le_of_ble_eq_true rfl⟩ (fun _ _ h => h.elim) ?_ rfl
  rintro _ _ ⟨rfl, rfl⟩
  refine z_v1 ?_
  refine z_lstore_n (lv' := [(3, _), (2, _), (0, _), (1, _)]) C rfl dX5_kinByModels_17 (rfl : 17 + 1 = 18) (by decide) rfl ?_
  refine z_iconst C dX5_kinByModels_18 (rfl : 18 + 1 = 19) ?_
  refine z_istore (lv' := [(5, _), (3, _), (2, _), (0, _), (1, _)]) C dX5_kinByModels_19 (rfl : 19 + 2 = 21) (by decide) rfl ?_
  have e : 2 ^ (V 1 c).toNat = bitN (kmB V c 0) n := by
    rw [bitN_pow hmn]
    refine bitN_cong n (fun i _ => ?_)
    unfold kmB
    by_cases q : i = (V 1 c).toNat
    · have : V 2 c = 1 ∧ V 1 c = (i : Int) := by omega
      simp [this]
    · have : ¬ (V 2 c = 1 ∧ V 1 c = (i : Int)) := by omega
      simp [this, q]
  refine z_sub [0, 1, 3, 4] (lv' := [(5, .int (iI ((0 : Nat) : Int))), (3, .long (lN (bitN (kmB V c 0) n))), (0, .ref (g 6 0)), (1, .ref (g 0 c))]) (by rw [← e]; rfl) ?_
  exact lp_X5_kinByModels C hc h hw ⟨rfl, rfl⟩ n 0 (by omega)
end
