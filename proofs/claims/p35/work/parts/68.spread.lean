theorem lX5_copiesThatRead_f16 : Cond.fieldLink RX5 16 "ModelCopies" "copies" "Ljava/util/ArrayList;" ∈ wsX5_copiesThatRead := by decide +kernel
theorem iX5_copiesThatRead_X5 : ∀ w ∈ wsX50, w ∈ wsX5_copiesThatRead := by decide +kernel
theorem hd68_Jx4a65c_size_8abf5 : yJx4a65c_size_8abf5.cls = RJx4a65c ∧ yJx4a65c_size_8abf5.cls ≠ "java/lang/invoke/MethodHandle" ∧ yJx4a65c_size_8abf5.cls ≠ "java/lang/invoke/VarHandle" ∧ (parseMethodDescriptor yJx4a65c_size_8abf5.desc).map (fun d => d.parameters.length) = some 0 := by decide +kernel
theorem hd68_Jx4a65c_get_915e3 : yJx4a65c_get_915e3.cls = RJx4a65c ∧ yJx4a65c_get_915e3.cls ≠ "java/lang/invoke/MethodHandle" ∧ yJx4a65c_get_915e3.cls ≠ "java/lang/invoke/VarHandle" ∧ (parseMethodDescriptor yJx4a65c_get_915e3.desc).map (fun d => d.parameters.length) = some 1 := by decide +kernel
theorem lX5_copiesThatRead_c49 : Cond.classLink RX5 49 "ModelCopies$Copy" ∈ wsX5_copiesThatRead := by decide +kernel
theorem lX5_copiesThatRead_f139 : Cond.fieldLink RX5 139 "ModelCopies$Copy" "readings" "[I" ∈ wsX5_copiesThatRead := by decide +kernel
theorem iX5_copiesThatRead_X0 : ∀ w ∈ wsX00, w ∈ wsX5_copiesThatRead := by decide +kernel
theorem hd68_X5_setOf : yX5_setOf.cls ≠ "java/lang/invoke/MethodHandle" ∧ yX5_setOf.cls ≠ "java/lang/invoke/VarHandle" ∧ (parseMethodDescriptor yX5_setOf.desc).map (fun d => d.parameters.length) = some 1 := by decide +kernel
theorem hd68_X5_requireError : yX5_requireError.cls ≠ "java/lang/invoke/MethodHandle" ∧ yX5_requireError.cls ≠ "java/lang/invoke/VarHandle" ∧ (parseMethodDescriptor yX5_requireError.desc).map (fun d => d.parameters.length) = some 2 := by decide +kernel
theorem hd68_X5_copiesThatRead : yX5_copiesThatRead.cls = RX5 ∧ yX5_copiesThatRead.cls ≠ "java/lang/invoke/MethodHandle" ∧ yX5_copiesThatRead.cls ≠ "java/lang/invoke/VarHandle" ∧ (parseMethodDescriptor yX5_copiesThatRead.desc).map (fun d => d.parameters.length) = some 2 := by decide +kernel
theorem hd68_J13_bitCount_95d88 : yJ13_bitCount_95d88.cls ≠ "java/lang/invoke/MethodHandle" ∧ yJ13_bitCount_95d88.cls ≠ "java/lang/invoke/VarHandle" ∧ (parseMethodDescriptor yJ13_bitCount_95d88.desc).map (fun d => d.parameters.length) = some 1 := by decide +kernel
def rdB (V : Nat → Nat → Int) (p : Nat) (r : Int) (i : Nat) : Bool := decide (V 0 (24 * i + p) = r)
section
variable {κ : KxT} {G : GG} {base mc ms : Nat} {post : Option Value → va_W → Prop} {exc : String → va_W → Prop} {X : va_W} {L : List Nat} {K : Nat → Nat} {I : Nat → Nat → Int} {F : Nat → Nat → Option Nat} {R : Nat → Nat → Int} {N : Nat → Nat} {O : Nat → Nat → Option Nat} {l : Launch}
variable {de n m t : Nat} {T : Nat → Nat} {g : Nat → Nat → Nat} {V : Nat → Nat → Int}
abbrev rmX5_copiesThatRead : Room := { frames := 3, cells := 0, slots := 0, locals := 80 }
theorem lp_X5_copiesThatRead (C : Cx κ cX5_copiesThatRead 7 wsX5_copiesThatRead RX5 (some .long) rmX5_copiesThatRead G base) {p : Nat} {r : Int} (hp : p < 24) (hr : -2147483648 ≤ r ∧ r < 2147483648) (h : RP de L K I F R N O T g V 5 n m t) (hw : WFV V n m t)
    (hq : post (some (.long (lN (bitN (rdB V p r) n)))) (pw G X L K I F R N O)) :
    ∀ (d k : Nat), k + d = n → Z κ 7 G base mc ms post exc 0 0 17 [(5, .int (iI (k : Int))), (3, .long (lN (bitN (rdB V p r) k))), (0, .ref (g 6 0)), (1, .int (iI (p : Int))), (2, .int (iI r))] [] (pw G X L K I F R N O) := by
  have hn := hw.2.1
  intro d
  induction d with
  | zero =>
    intro k hk
    have e : k = n := by omega
    subst e
    refine z_iload C 0 rfl dX5_copiesThatRead_17 (rfl : 17 + 2 = 19) ?_
    refine z_aload_n C 2 rfl rfl dX5_copiesThatRead_19 (rfl : 19 + 1 = 20) ?_
    refine z_get C (pwm_MC h.x9.1 h.x9.2.1) rfl iX5_copiesThatRead_X5 1 (by decide) lX5_copiesThatRead_f16 rfl rfl dX5_copiesThatRead_20 (rfl : 20 + 3 = 23) ?_
    rw [h.x9.2.2]
    refine z_callV C 0 0 (c_list_size h.l1) gX5_copiesThatRead_Jx4a65c_size_8abf5 rfl hd68_Jx4a65c_size_8abf5 ⟨Nat.le_of_ble_eq_true rfl, Nat.le_of_ble_eq_true rfl⟩ (pwm_AL h.l1.1 h.l1.2.1) rfl rfl (Nat.le_of_ble_eq_true rfl) dX5_copiesThatRead_23 (rfl : 23 + 3 = 26) rfl rfl ⟨Nat.le_of_ble_eq_true rfl, Nat.le_of_ble_eq_true rfl⟩ (fun _ _ h => h.elim) ?_ rfl
    rintro _ _ ⟨rfl, rfl⟩
    refine z_v1 ?_
    refine z_icmp_ge (pt := 68) C dX5_copiesThatRead_26 (by decide) (rfl : 26 + 3 = 29) (iI_le (by omega) (by omega)).1 (fun q => mt (iI_le (by omega) (by omega)).2 q) (fun c => ?_) (fun c => ?_)
    · refine z_lload_n C 1 rfl rfl dX5_copiesThatRead_68 (rfl : 68 + 1 = 69) ?_
      exact z_lret C rfl dX5_copiesThatRead_69 hq (Nat.zero_le _) (Nat.zero_le _)
    · exact absurd c (by omega)
  | succ d ih =>
    intro k hk
    have hkn : k < n := by omega
    have hrk := hw.2.2.1 (24 * k + p) (by omega)
    refine z_iload C 0 rfl dX5_copiesThatRead_17 (rfl : 17 + 2 = 19) ?_
    refine z_aload_n C 2 rfl rfl dX5_copiesThatRead_19 (rfl : 19 + 1 = 20) ?_
    refine z_get C (pwm_MC h.x9.1 h.x9.2.1) rfl iX5_copiesThatRead_X5 1 (by decide) lX5_copiesThatRead_f16 rfl rfl dX5_copiesThatRead_20 (rfl : 20 + 3 = 23) ?_
    rw [h.x9.2.2]
    refine z_callV C 0 0 (c_list_size h.l1) gX5_copiesThatRead_Jx4a65c_size_8abf5 rfl hd68_Jx4a65c_size_8abf5 ⟨Nat.le_of_ble_eq_true rfl, Nat.le_of_ble_eq_true rfl⟩ (pwm_AL h.l1.1 h.l1.2.1) rfl rfl (Nat.le_of_ble_eq_true rfl) dX5_copiesThatRead_23 (rfl : 23 + 3 = 26) rfl rfl ⟨Nat.le_of_ble_eq_true rfl, Nat.le_of_ble_eq_true rfl⟩ (fun _ _ h => h.elim) ?_ rfl
    rintro _ _ ⟨rfl, rfl⟩
    refine z_v1 ?_
    refine z_icmp_ge (pt := 68) C dX5_copiesThatRead_26 (by decide) (rfl : 26 + 3 = 29) (iI_le (by omega) (by omega)).1 (fun q => mt (iI_le (by omega) (by omega)).2 q) (fun c => ?_) (fun c => ?_)
    · exact absurd c (by omega)
    refine z_aload_n C 2 rfl rfl dX5_copiesThatRead_29 (rfl : 29 + 1 = 30) ?_
    refine z_get C (pwm_MC h.x9.1 h.x9.2.1) rfl iX5_copiesThatRead_X5 1 (by decide) lX5_copiesThatRead_f16 rfl rfl dX5_copiesThatRead_30 (rfl : 30 + 3 = 33) ?_
    rw [h.x9.2.2]
    refine z_iload C 0 rfl dX5_copiesThatRead_33 (rfl : 33 + 2 = 35) ?_
    refine z_callV C 0 0 (c_list_get (i := k) h.l1 hkn) gX5_copiesThatRead_Jx4a65c_get_915e3 rfl hd68_Jx4a65c_get_915e3 ⟨Nat.le_of_ble_eq_true rfl, Nat.le_of_ble_eq_true rfl⟩ (pwm_AL h.l1.1 h.l1.2.1) rfl rfl (Nat.le_of_ble_eq_true rfl) dX5_copiesThatRead_35 (rfl : 35 + 3 = 38) rfl rfl ⟨Nat.le_of_ble_eq_true rfl, Nat.le_of_ble_eq_true rfl⟩ (fun _ _ h => h.elim) ?_ rfl
    rintro _ _ ⟨rfl, rfl⟩
    refine z_v1 ?_
    refine z_cast C (pwm_Copy (h.g0 hkn).1 (h.g0 hkn).2) rfl lX5_copiesThatRead_c49 dX5_copiesThatRead_38 (rfl : 38 + 3 = 41) ?_
    refine z_astore (lv' := [(6, _), (5, _), (3, _), (0, _), (1, _), (2, _)]) C dX5_copiesThatRead_41 (rfl : 41 + 2 = 43) (by decide) rfl ?_
    refine z_aload C 0 rfl dX5_copiesThatRead_43 (rfl : 43 + 2 = 45) ?_
    refine z_get C (pwm_Copy (h.g0 hkn).1 (h.g0 hkn).2) rfl iX5_copiesThatRead_X0 3 (by decide) lX5_copiesThatRead_f139 rfl rfl dX5_copiesThatRead_45 (rfl : 45 + 3 = 48) ?_
    rw [(h.isC hkn).2.2.1]
    refine z_iload_n C 4 rfl rfl dX5_copiesThatRead_48 (rfl : 48 + 1 = 49) ?_
    refine z_iald C (x := iI (V 0 (24 * k + p))) (pwm_I (h.g1 hkn).1 (h.g1 hkn).2) ⟨by omega, by rw [(h.isC hkn).2.2.2.2.2]; omega⟩ (by omega) (by rw [Int.toNat_natCast, h.rd hkn hp]) dX5_copiesThatRead_49 (rfl : 49 + 1 = 50) ?_
    refine z_iload_n C 5 rfl rfl dX5_copiesThatRead_50 (rfl : 50 + 1 = 51) ?_
    refine z_icmp_ne (pt := 62) C dX5_copiesThatRead_51 (by decide) (rfl : 51 + 3 = 54) (fun q => mt (iI_eq (by omega) (by omega)).2 q) (iI_eq (by omega) (by omega)).1 (fun c2 => ?_) (fun c2 => ?_)
    · refine z_iinc (lv' := [(5, _), (6, _), (3, _), (0, _), (1, _), (2, _)]) C 1 dX5_copiesThatRead_62 (rfl : 62 + 3 = 65) rfl rfl (by decide) rfl ?_
      refine z_goto (pc' := 17) C dX5_copiesThatRead_65 (by decide) ?_
      have e : bitN (rdB V p r) (k + 1) = bitN (rdB V p r) k := by
        simp only [bitN]
        rw [if_neg (by unfold rdB; simp [c2]), Nat.add_zero]
      have := ih (k + 1) (by omega)
      rw [e] at this
      exact z_sub [0, 2, 3, 4, 5] rfl this
    refine z_lload_n C 2 rfl rfl dX5_copiesThatRead_54 (rfl : 54 + 1 = 55) ?_
    refine z_aload C 0 rfl dX5_copiesThatRead_55 (rfl : 55 + 2 = 57) ?_
    refine z_callS C 0 0 (c_X5_setOf (h.g0 hkn).1 (h.g0 hkn).2 (h.2.1.2.2.2.1 k hkn).2.2.1 (by omega)) gX5_copiesThatRead_X5_setOf rfl hd68_X5_setOf ⟨Nat.le_of_ble_eq_true rfl, Nat.le_of_ble_eq_true rfl⟩ rfl (Nat.le_of_ble_eq_true rfl) dX5_copiesThatRead_57 (rfl : 57 + 3 = 60) rfl rfl ⟨Nat.le_of_ble_eq_true rfl, Nat.le_of_ble_eq_true rfl⟩ (fun _ _ h => h.elim) ?_ rfl
    rintro _ _ ⟨rfl, rfl⟩
    refine z_v1 ?_
    refine z_lor C dX5_copiesThatRead_60 (rfl : 60 + 1 = 61) ?_
    refine z_topl (y := lN (bitN (rdB V p r) (k + 1))) (by rw [lN_or, bitN_or _ _ (by unfold rdB; simp [c2])]) ?_
    refine z_lstore_n (lv' := [(3, _), (6, _), (5, _), (0, _), (1, _), (2, _)]) C rfl dX5_copiesThatRead_61 (rfl : 61 + 1 = 62) (by decide) rfl ?_
    refine z_iinc (lv' := [(5, _), (3, _), (6, _), (0, _), (1, _), (2, _)]) C 2 dX5_copiesThatRead_62 (rfl : 62 + 3 = 65) rfl rfl (by decide) rfl ?_
    refine z_goto (pc' := 17) C dX5_copiesThatRead_65 (by decide) ?_
    exact z_sub [0, 1, 3, 4, 5] rfl (ih (k + 1) (by omega))
theorem c_X5_copiesThatRead {p : Nat} {r : Int} (hp : p < 24) (hr : -2147483648 ≤ r ∧ r < 2147483648) (h : RP de L K I F R N O T g V 5 n m t) (hw : WFV V n m t) : MC l yX5_copiesThatRead wsX5_copiesThatRead rmX5_copiesThatRead G base [.ref (g 6 0), .int (iI (p : Int)), .int (iI r)] (pw G X L K I F R N O) (fun v w => v = some (.long (lN (bitN (rdB V p r) n))) ∧ w = (pw G X L K I F R N O)) (fun _ _ => False) := by
  refine MC.of (cc := cX5_copiesThatRead) (by decide) rfl rfl (Nat.le_of_ble_eq_true rfl) ?_
  intro κ C hT hl hnm
  refine z_sub [0, 1, 2] (lv' := [(0, .ref (g 6 0)), (1, .int (iI (p : Int))), (2, .int (iI r))]) rfl ?_
  refine z_iload_n C 1 rfl rfl dX5_copiesThatRead_0 (rfl : 0 + 1 = 1) ?_
  refine z_if_lt (pt := 10) C dX5_copiesThatRead_1 (by decide) (rfl : 1 + 3 = 4) (iI_lt0 (by omega)).1 (fun q => mt (iI_lt0 (by omega)).2 q) (fun c => ?_) (fun c => ?_)
  · exact absurd c (by omega)
  refine z_iload_n C 1 rfl rfl dX5_copiesThatRead_4 (rfl : 4 + 1 = 5) ?_
  refine z_bipush (c := 24) C (by decide) dX5_copiesThatRead_5 (rfl : 5 + 2 = 7) ?_
  refine z_icmp_lt (pt := 12) C dX5_copiesThatRead_7 (by decide) (rfl : 7 + 3 = 10) (iI_lt (by omega) (by omega)).1 (fun q => mt (iI_lt (by omega) (by omega)).2 q) (fun c2 => ?_) (fun c2 => ?_)
  rotate_left
  · exact absurd c2 (by omega)
  refine z_lconst (v := 0) C (by decide) dX5_copiesThatRead_12 (rfl : 12 + 1 = 13) ?_
  refine z_lstore_n (lv' := [(3, _), (0, _), (1, _), (2, _)]) C rfl dX5_copiesThatRead_13 (rfl : 13 + 1 = 14) (by decide) rfl ?_
  refine z_iconst C dX5_copiesThatRead_14 (rfl : 14 + 1 = 15) ?_
  refine z_istore (lv' := [(5, _), (3, _), (0, _), (1, _), (2, _)]) C dX5_copiesThatRead_15 (rfl : 15 + 2 = 17) (by decide) rfl ?_
  exact z_sub [0, 1, 2, 3, 4] rfl (lp_X5_copiesThatRead C hp hr h hw ⟨rfl, rfl⟩ n 0 (by omega))
abbrev rmX5_spread : Room := { frames := 8, cells := 2, slots := 12, locals := 180 }
theorem c_X5_spread {p r : Int} (hp : -2147483648 ≤ p ∧ p < 2147483648) (hr : -2147483648 ≤ r ∧ r < 2147483648) (h : RX de L K I F R N O T g V n m t) (hw : WFV V n m t) : MC l yX5_spread wsX5_spread rmX5_spread G base [.ref (g 6 0), .int (iI p), .int (iI r)] (pw G X L K I F R N O) (rdP2 (pw G X L K I F R N O) (0 ≤ p ∧ p < 24) (1 ≤ r ∧ r ≤ 9) (smI (fun i => b01 (V 0 (24 * i + p.toNat) = r)) n)) (rdE2 (pw G X L K I F R N O) (0 ≤ p ∧ p < 24) (1 ≤ r ∧ r ≤ 9)) := by
  refine MC.of (cc := cX5_spread) (by decide) rfl rfl (Nat.le_of_ble_eq_true rfl) ?_
  intro κ C hT hl hnm
  have hn := hw.2.1
  refine z_sub [0, 1, 2] (lv' := [(0, .ref (g 6 0)), (1, .int (iI p)), (2, .int (iI r))]) rfl ?_
  refine z_iload_n C 1 rfl rfl dX5_spread_0 (rfl : 0 + 1 = 1) ?_
  refine z_iload_n C 2 rfl rfl dX5_spread_1 (rfl : 1 + 1 = 2) ?_
  refine z_callS C 2 12 (c_X5_requireError hp hr) gX5_spread_X5_requireError rfl hd68_X5_requireError ⟨Nat.le_of_ble_eq_true rfl, Nat.le_of_ble_eq_true rfl⟩ rfl (Nat.le_of_ble_eq_true rfl) dX5_spread_2 (rfl : 2 + 3 = 5) rfl rfl ⟨Nat.le_of_ble_eq_true rfl, Nat.le_of_ble_eq_true rfl⟩ (fun E w h => z_out C hT (rdE2_of h) (by decide) (by decide)) ?_ rfl
  rintro _ _ ⟨rfl, rfl, hp2, hr2⟩
  refine z_v0 ?_
  obtain ⟨k, rfl⟩ : ∃ k : Nat, p = (k : Int) := ⟨p.toNat, by omega⟩
  refine z_aload_n C 0 rfl rfl dX5_spread_5 (rfl : 5 + 1 = 6) ?_
  refine z_iload_n C 1 rfl rfl dX5_spread_6 (rfl : 6 + 1 = 7) ?_
  refine z_iload_n C 2 rfl rfl dX5_spread_7 (rfl : 7 + 1 = 8) ?_
  refine z_callV C 2 12 (c_X5_copiesThatRead (p := k) (by omega) hr h.1 hw) gX5_spread_X5_copiesThatRead rfl hd68_X5_copiesThatRead ⟨Nat.le_of_ble_eq_true rfl, Nat.le_of_ble_eq_true rfl⟩ (pwm_MC h.1.x8.1 h.1.x8.2.1) rfl rfl (Nat.le_of_ble_eq_true rfl) dX5_spread_8 (rfl : 8 + 3 = 11) rfl rfl ⟨Nat.le_of_ble_eq_true rfl, Nat.le_of_ble_eq_true rfl⟩ (fun _ _ h => h.elim) ?_ rfl
  rintro _ _ ⟨rfl, rfl⟩
  refine z_v1 ?_
  have hb : bitN (rdB V k r) n < 2 ^ 40 := Nat.lt_of_lt_of_le (bitN_lt _ n) (Nat.pow_le_pow_right (by decide) (by omega))
  refine z_callS C 2 12 (c_bitCount hb) gX5_spread_J13_bitCount_95d88 rfl hd68_J13_bitCount_95d88 ⟨Nat.le_of_ble_eq_true rfl, Nat.le_of_ble_eq_true rfl⟩ rfl (Nat.le_of_ble_eq_true rfl) dX5_spread_11 (rfl : 11 + 3 = 14) rfl rfl ⟨Nat.le_of_ble_eq_true rfl, Nat.le_of_ble_eq_true rfl⟩ (fun _ _ h => h.elim) ?_ rfl
  rintro _ _ ⟨rfl, rfl⟩
  refine z_v1 ?_
  have e := cntN_bit (rdB V k r) n 40 (Nat.le_refl _)
  rw [show min 40 n = n by omega] at e
  refine z_topi (y := iI (smI (fun i => b01 (V 0 (24 * i + k) = r)) n)) (by rw [e]; congr 1; exact smI_cong n (fun i _ => by unfold rdB; simp)) ?_
  exact z_iret C rfl dX5_spread_14 ⟨rfl, hp2, hr2, rfl⟩ (by decide) (by decide)
end
