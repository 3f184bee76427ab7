theorem lN_shr {a : Nat} {k : Nat} (ha : a < 2 ^ 63) (hk : k < 64) : ((lN a).toUInt64 >>> ((iI (k : Int)).toInt64.toUInt64 &&& Int64.toUInt64 63)).toInt64 = lN (a / 2 ^ k) := by
  have e : ∀ k : Nat, k < 64 → (iI (k : Int)).toInt64.toUInt64 &&& Int64.toUInt64 63 = UInt64.ofNat k := by decide +kernel
  rw [e k hk]
  apply Int64.toBitVec_inj.mp
  show (BitVec.ofNat 64 a) >>> ((UInt64.ofNat k).toBitVec % 64) = BitVec.ofNat 64 (a / 2 ^ k)
  apply BitVec.eq_of_toNat_eq
  have hk2 : ((UInt64.ofNat k).toBitVec % 64).toNat = k := by
    show (BitVec.ofNat 64 k % 64).toNat = k
    rw [BitVec.toNat_umod]
    simp
    omega
  rw [show (BitVec.ofNat 64 a) >>> ((UInt64.ofNat k).toBitVec % 64) = (BitVec.ofNat 64 a) >>> ((UInt64.ofNat k).toBitVec % 64).toNat from rfl, hk2, BitVec.toNat_ushiftRight]
  simp only [BitVec.toNat_ofNat]
  rw [Nat.mod_eq_of_lt (by omega), Nat.shiftRight_eq_div_pow, Nat.mod_eq_of_lt (Nat.lt_of_le_of_lt (Nat.div_le_self _ _) (by omega))]
theorem lN_c1 : (6148914691236517205 : Int64) = lN 6148914691236517205 := rfl
theorem lN_c2 : (3689348814741910323 : Int64) = lN 3689348814741910323 := rfl
theorem lN_c3 : (1085102592571150095 : Int64) = lN 1085102592571150095 := rfl
theorem nI_127 (x : Nat) : nI x &&& iI 127 = iI ((x % 128 : Nat) : Int) := by
  apply Int32.toBitVec_inj.mp
  show BitVec.ofNat 32 x &&& BitVec.ofNat 32 127 = BitVec.ofInt 32 ((x % 128 : Nat) : Int)
  rw [BitVec.ofInt_natCast]
  apply BitVec.eq_of_toNat_eq
  rw [BitVec.toNat_and]
  simp only [BitVec.toNat_ofNat]
  rw [show (127 : Nat) % 2 ^ 32 = 2 ^ 7 - 1 from rfl, Nat.and_two_pow_sub_one_eq_mod]
  omega
theorem lJ13_k314 : Cond.constantLong RJ13 314 6148914691236517205 ∈ wsJ13_bitCount_95d88 := by decide +kernel
theorem lJ13_k316 : Cond.constantLong RJ13 316 3689348814741910323 ∈ wsJ13_bitCount_95d88 := by decide +kernel
theorem lJ13_k318 : Cond.constantLong RJ13 318 1085102592571150095 ∈ wsJ13_bitCount_95d88 := by decide +kernel
section
variable {κ : KxT} {G : GG} {base mc ms : Nat} {post : Option Value → va_W → Prop} {exc : String → va_W → Prop} {X : va_W} {L : List Nat} {K : Nat → Nat} {I : Nat → Nat → Int} {F : Nat → Nat → Option Nat} {R : Nat → Nat → Int} {N : Nat → Nat} {O : Nat → Nat → Option Nat} {l : Launch}
abbrev rmJ13_bitCount_95d88 : Room := { frames := 0, cells := 0, slots := 0, locals := 0 }
theorem c_bitCount {a : Nat} {ws : va_W} (ha : a < 2 ^ 40) : MC l yJ13_bitCount_95d88 wsJ13_bitCount_95d88 rmJ13_bitCount_95d88 G base [.long (lN a)] ws (fun v w => v = some (.int (iI (cntN a 40 : Nat))) ∧ w = ws) (fun _ _ => False) := by
  refine MC.of (cc := cJ13_bitCount_95d88) (by decide) rfl rfl (Nat.le_of_ble_eq_true rfl) ?_
  intro κ C hT hl hnm
  rw [← swar_cnt ha]
  have u1 : (a / 2) &&& 6148914691236517205 ≤ a := Nat.le_trans Nat.and_le_left (Nat.div_le_self _ _)
  refine z_sub [0] (lv' := [(0, .long (lN a))]) rfl ?_
  refine z_lload_n C 0 rfl rfl dJ13_bitCount_95d88_0 (rfl : 0 + 1 = 1) ?_
  refine z_lload_n C 0 rfl rfl dJ13_bitCount_95d88_1 (rfl : 1 + 1 = 2) ?_
  refine z_iconst C dJ13_bitCount_95d88_2 (rfl : 2 + 1 = 3) ?_
  refine z_lushr C (lN_shr (k := 1) (by omega) (by decide)) dJ13_bitCount_95d88_3 (rfl : 3 + 1 = 4) ?_
  refine z_ldc2 C (C.hts lJ13_k314) dJ13_bitCount_95d88_4 (rfl : 4 + 3 = 7) ?_
  refine z_land C dJ13_bitCount_95d88_7 (rfl : 7 + 1 = 8) ?_
  refine z_topl (y := lN ((a / 2) &&& 6148914691236517205)) (by rw [lN_c1, lN_and]) ?_
  refine z_lsub C dJ13_bitCount_95d88_8 (rfl : 8 + 1 = 9) ?_
  refine z_topl (y := lN (a - ((a / 2) &&& 6148914691236517205))) (lN_sub u1) ?_
  have e0 : swar a = f6 (((((a - ((a / 2) &&& 6148914691236517205)) &&& 3689348814741910323) + (((a - ((a / 2) &&& 6148914691236517205)) / 4) &&& 3689348814741910323)) + (((a - ((a / 2) &&& 6148914691236517205)) &&& 3689348814741910323) + (((a - ((a / 2) &&& 6148914691236517205)) / 4) &&& 3689348814741910323)) / 16) &&& 1085102592571150095) % 128 := rfl
  rw [e0]
  have l1 : a - ((a / 2) &&& 6148914691236517205) < 2 ^ 40 := by omega
  generalize a - ((a / 2) &&& 6148914691236517205) = b at l1 ⊢
  refine z_lstore_n (lv' := [(0, _)]) C rfl dJ13_bitCount_95d88_9 (rfl : 9 + 1 = 10) (by decide) rfl ?_
  refine z_lload_n C 0 rfl rfl dJ13_bitCount_95d88_10 (rfl : 10 + 1 = 11) ?_
  refine z_ldc2 C (C.hts lJ13_k316) dJ13_bitCount_95d88_11 (rfl : 11 + 3 = 14) ?_
  refine z_land C dJ13_bitCount_95d88_14 (rfl : 14 + 1 = 15) ?_
  refine z_lload_n C 0 rfl rfl dJ13_bitCount_95d88_15 (rfl : 15 + 1 = 16) ?_
  refine z_iconst C dJ13_bitCount_95d88_16 (rfl : 16 + 1 = 17) ?_
  refine z_lushr C (lN_shr (k := 2) (by omega) (by decide)) dJ13_bitCount_95d88_17 (rfl : 17 + 1 = 18) ?_
  refine z_ldc2 C (C.hts lJ13_k316) dJ13_bitCount_95d88_18 (rfl : 18 + 3 = 21) ?_
  refine z_land C dJ13_bitCount_95d88_21 (rfl : 21 + 1 = 22) ?_
  refine z_ladd C dJ13_bitCount_95d88_22 (rfl : 22 + 1 = 23) ?_
  have l2 : (b &&& 3689348814741910323) + ((b / 4) &&& 3689348814741910323) < 2 ^ 42 := by
    have x1 : b &&& 3689348814741910323 ≤ b := Nat.and_le_left
    have x2 : (b / 4) &&& 3689348814741910323 ≤ b / 4 := Nat.and_le_left
    omega
  refine z_topl (y := lN ((b &&& 3689348814741910323) + ((b / 4) &&& 3689348814741910323))) (by rw [lN_c2, lN_and, lN_and, lN_add]) ?_
  generalize (b &&& 3689348814741910323) + ((b / 4) &&& 3689348814741910323) = c at l2 ⊢
  refine z_lstore_n (lv' := [(0, _)]) C rfl dJ13_bitCount_95d88_23 (rfl : 23 + 1 = 24) (by decide) rfl ?_
  refine z_lload_n C 0 rfl rfl dJ13_bitCount_95d88_24 (rfl : 24 + 1 = 25) ?_
  refine z_lload_n C 0 rfl rfl dJ13_bitCount_95d88_25 (rfl : 25 + 1 = 26) ?_
  refine z_iconst C dJ13_bitCount_95d88_26 (rfl : 26 + 1 = 27) ?_
  refine z_lushr C (lN_shr (k := 4) (by omega) (by decide)) dJ13_bitCount_95d88_27 (rfl : 27 + 1 = 28) ?_
  refine z_ladd C dJ13_bitCount_95d88_28 (rfl : 28 + 1 = 29) ?_
  refine z_ldc2 C (C.hts lJ13_k318) dJ13_bitCount_95d88_29 (rfl : 29 + 3 = 32) ?_
  refine z_land C dJ13_bitCount_95d88_32 (rfl : 32 + 1 = 33) ?_
  have l3 : (c + c / 16) &&& 1085102592571150095 < 2 ^ 44 := Nat.lt_of_le_of_lt Nat.and_le_left (by omega)
  refine z_topl (y := lN ((c + c / 16) &&& 1085102592571150095)) (by rw [lN_add, lN_c3, lN_and]) ?_
  generalize (c + c / 16) &&& 1085102592571150095 = d at l3 ⊢
  refine z_lstore_n (lv' := [(0, _)]) C rfl dJ13_bitCount_95d88_33 (rfl : 33 + 1 = 34) (by decide) rfl ?_
  refine z_lload_n C 0 rfl rfl dJ13_bitCount_95d88_34 (rfl : 34 + 1 = 35) ?_
  refine z_lload_n C 0 rfl rfl dJ13_bitCount_95d88_35 (rfl : 35 + 1 = 36) ?_
  refine z_bipush (c := 8) C (by decide) dJ13_bitCount_95d88_36 (rfl : 36 + 2 = 38) ?_
  refine z_lushr C (lN_shr (k := 8) (by omega) (by decide)) dJ13_bitCount_95d88_38 (rfl : 38 + 1 = 39) ?_
  refine z_ladd C dJ13_bitCount_95d88_39 (rfl : 39 + 1 = 40) ?_
  have l4 : f4 d < 2 ^ 45 := by unfold f4; omega
  refine z_topl (y := lN (f4 d)) (by rw [lN_add]; rfl) ?_
  refine z_lstore_n (lv' := [(0, _)]) C rfl dJ13_bitCount_95d88_40 (rfl : 40 + 1 = 41) (by decide) rfl ?_
  refine z_lload_n C 0 rfl rfl dJ13_bitCount_95d88_41 (rfl : 41 + 1 = 42) ?_
  refine z_lload_n C 0 rfl rfl dJ13_bitCount_95d88_42 (rfl : 42 + 1 = 43) ?_
  refine z_bipush (c := 16) C (by decide) dJ13_bitCount_95d88_43 (rfl : 43 + 2 = 45) ?_
  refine z_lushr C (lN_shr (k := 16) (by omega) (by decide)) dJ13_bitCount_95d88_45 (rfl : 45 + 1 = 46) ?_
  refine z_ladd C dJ13_bitCount_95d88_46 (rfl : 46 + 1 = 47) ?_
  have l5 : f5 d < 2 ^ 46 := by unfold f5; omega
  refine z_topl (y := lN (f5 d)) (by rw [lN_add]; rfl) ?_
  refine z_lstore_n (lv' := [(0, _)]) C rfl dJ13_bitCount_95d88_47 (rfl : 47 + 1 = 48) (by decide) rfl ?_
  refine z_lload_n C 0 rfl rfl dJ13_bitCount_95d88_48 (rfl : 48 + 1 = 49) ?_
  refine z_lload_n C 0 rfl rfl dJ13_bitCount_95d88_49 (rfl : 49 + 1 = 50) ?_
  refine z_bipush (c := 32) C (by decide) dJ13_bitCount_95d88_50 (rfl : 50 + 2 = 52) ?_
  refine z_lushr C (lN_shr (k := 32) (by omega) (by decide)) dJ13_bitCount_95d88_52 (rfl : 52 + 1 = 53) ?_
  refine z_ladd C dJ13_bitCount_95d88_53 (rfl : 53 + 1 = 54) ?_
  refine z_topl (y := lN (f6 d)) (by rw [lN_add]; rfl) ?_
  refine z_lstore_n (lv' := [(0, _)]) C rfl dJ13_bitCount_95d88_54 (rfl : 54 + 1 = 55) (by decide) rfl ?_
  refine z_lload_n C 0 rfl rfl dJ13_bitCount_95d88_55 (rfl : 55 + 1 = 56) ?_
  refine z_l2i C (lN_i (f6 d)) dJ13_bitCount_95d88_56 (rfl : 56 + 1 = 57) ?_
  refine z_bipush (c := 127) C (by decide) dJ13_bitCount_95d88_57 (rfl : 57 + 2 = 59) ?_
  refine z_iand C dJ13_bitCount_95d88_59 (rfl : 59 + 1 = 60) ?_
  refine z_topi (y := iI ((f6 d % 128 : Nat) : Int)) (nI_127 _) ?_
  exact z_iret C rfl dJ13_bitCount_95d88_60 ⟨rfl, rfl⟩ (by decide) (by decide)
end
