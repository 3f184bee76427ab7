theorem lX5_giveBack_f36 : Cond.fieldLink RX5 36 "ModelCopies" "today" "I" ∈ wsX5_giveBack := by decide +kernel
theorem iX5_giveBack_X5 : ∀ w ∈ wsX50, w ∈ wsX5_giveBack := by decide +kernel
theorem hd79_X4_daysLateOn : yX4_daysLateOn.cls = RX4 ∧ yX4_daysLateOn.cls ≠ "java/lang/invoke/MethodHandle" ∧ yX4_daysLateOn.cls ≠ "java/lang/invoke/VarHandle" ∧ (parseMethodDescriptor yX4_daysLateOn.desc).map (fun d => d.parameters.length) = some 1 := by decide +kernel
theorem lX5_giveBack_f220 : Cond.fieldLink RX5 220 "ModelCopies$Loan" "daysLateAtEnd" "I" ∈ wsX5_giveBack := by decide +kernel
theorem iX5_giveBack_X4 : ∀ w ∈ wsX40, w ∈ wsX5_giveBack := by decide +kernel
theorem lX5_giveBack_f202 : Cond.fieldLink RX5 202 "ModelCopies$Loan" "isBack" "Z" ∈ wsX5_giveBack := by decide +kernel
theorem lX5_giveBack_f191 : Cond.fieldLink RX5 191 "ModelCopies$House" "laidDown" "I" ∈ wsX5_giveBack := by decide +kernel
theorem iX5_giveBack_X2 : ∀ w ∈ wsX20, w ∈ wsX5_giveBack := by decide +kernel
theorem lX5_giveBack_f223 : Cond.fieldLink RX5 223 "ModelCopies$Loan" "pledge" "I" ∈ wsX5_giveBack := by decide +kernel
theorem lX5_giveBack_f179 : Cond.fieldLink RX5 179 "ModelCopies$House" "coins" "I" ∈ wsX5_giveBack := by decide +kernel
theorem lX5_giveBack_f210 : Cond.fieldLink RX5 210 "ModelCopies$Loan" "copy" "LModelCopies$Copy;" ∈ wsX5_giveBack := by decide +kernel
theorem lX5_giveBack_f91 : Cond.fieldLink RX5 91 "ModelCopies$Copy" "house" "LModelCopies$House;" ∈ wsX5_giveBack := by decide +kernel
theorem iX5_giveBack_X0 : ∀ w ∈ wsX00, w ∈ wsX5_giveBack := by decide +kernel
theorem hd79_X2_takeLettersOf : yX2_takeLettersOf.cls = RX2 ∧ yX2_takeLettersOf.cls ≠ "java/lang/invoke/MethodHandle" ∧ yX2_takeLettersOf.cls ≠ "java/lang/invoke/VarHandle" ∧ (parseMethodDescriptor yX2_takeLettersOf.desc).map (fun d => d.parameters.length) = some 1 := by decide +kernel
theorem hd79_X5_findLoan : yX5_findLoan.cls = RX5 ∧ yX5_findLoan.cls ≠ "java/lang/invoke/MethodHandle" ∧ yX5_findLoan.cls ≠ "java/lang/invoke/VarHandle" ∧ (parseMethodDescriptor yX5_findLoan.desc).map (fun d => d.parameters.length) = some 1 := by decide +kernel
theorem tX5_giveBack_ISE : ∀ w ∈ (vx_atS RX5 72 "java/lang/IllegalStateException" ["java/lang/RuntimeException", "java/lang/Exception"]).filter goodWord, w ∈ wsX5_giveBack := by decide +kernel
theorem lX5_giveBack_c68 : Cond.classLink RX5 68 "java/lang/IllegalStateException" ∈ wsX5_giveBack := by decide +kernel
theorem nX5_giveBack_ISE : Cond.initialized "java/lang/IllegalStateException" ∈ wsX5_giveBack := by decide +kernel
theorem lX5_giveBack_f207 : Cond.fieldLink RX5 207 "ModelCopies$Loan" "borrower" "LModelCopies$House;" ∈ wsX5_giveBack := by decide +kernel
theorem lX5_giveBack_f174 : Cond.fieldLink RX5 174 "ModelCopies$Copy" "owner" "LModelCopies$House;" ∈ wsX5_giveBack := by decide +kernel
theorem hd79_X4_lostOn : yX4_lostOn.cls = RX4 ∧ yX4_lostOn.cls ≠ "java/lang/invoke/MethodHandle" ∧ yX4_lostOn.cls ≠ "java/lang/invoke/VarHandle" ∧ (parseMethodDescriptor yX4_lostOn.desc).map (fun d => d.parameters.length) = some 1 := by decide +kernel
section
variable {κ : KxT} {G : GG} {base mc ms : Nat} {post : Option Value → va_W → Prop} {exc : String → va_W → Prop} {X : va_W} {L : List Nat} {K : Nat → Nat} {I : Nat → Nat → Int} {F : Nat → Nat → Option Nat} {R : Nat → Nat → Int} {N : Nat → Nat} {O : Nat → Nat → Option Nat} {l : Launch}
variable {n m t : Nat} {T : Nat → Nat} {g : Nat → Nat → Nat} {V : Nat → Nat → Int}
abbrev rmX5_giveBack : Room := { frames := 7, cells := 2, slots := 12, locals := 200 }
theorem tl_X5_back (C : Cx κ cX5_giveBack 6 wsX5_giveBack RX5 (some .int) rmX5_giveBack G base) {j cc bb oo : Nat} {z : Int} (hj : j < t) (hc : cc < n) (hb5 : bb < 5) (ho5 : oo < 5) (e15 : V 15 j = (cc : Int)) (e16 : V 16 j = (bb : Int)) (e3 : V 3 cc = (oo : Int)) (h : RX (gde G) L K I F R N O T g V n m t) (hw : WFV V n m t) (kk : ∀ w, MUT G X (g 6 0) (fun V' => ∃ f, gtL V m oo bb f ∧ V' = va_up (nsBack V j) 13 f) n m t w → post (some (.int (iI (lostOf (lateOf (V 9 0) (V 17 j)) (V 18 j))))) w) (h1 : 1 ≤ mc) (h2 : 6 ≤ ms) : Z κ 6 G base mc ms post exc 1 6 47 [(5, .int (iI (lostOf (lateOf (V 9 0) (V 17 j)) (V 18 j)))), (4, .ref (g 2 oo)), (3, .ref (g 2 bb)), (2, .ref (g 5 j)), (0, .ref (g 6 0))] [] (pw G X L K I F R N O) := by
  have hn := hw.2.1
  have l10 := hw.2.2.2.2.2.2.2.2.2.1 j hj
  have d12 := hw.2.2.2.2.2.2.2.2.2.2.2
  obtain ⟨f6, f7, i10, i11⟩ := h.1.2.1.2.2.2.2.2 j hj
  have mN : ∀ {I' : Nat → Nat → Int} {F' : Nat → Nat → Option Nat}, (g 5 j, .inr (5, [va_rf (F' 6 (g 5 j)), va_rf (F' 7 (g 5 j)), .int (iI (I' 10 (g 5 j))), .int (iI (I' 11 (g 5 j))), .int (iI (I' 12 (g 5 j))), .int (iI (I' 13 (g 5 j)))])) ∈ pw G X L K I' F' R N O := pwm_Loan (h.1.g5 hj).1 (h.1.g5 hj).2
  have mH : ∀ {I' : Nat → Nat → Int} {F' : Nat → Nat → Option Nat} {i : Nat}, i < 5 → (g 2 i, .inr (3, [.int (iI (I' 4 (g 2 i))), va_rf (F' 5 (g 2 i)), .int (iI (I' 5 (g 2 i))), .int (iI (I' 6 (g 2 i)))])) ∈ pw G X L K I' F' R N O := fun hi => pwm_House (h.1.g2 hi).1 (h.1.g2 hi).2
  refine z_aload_n C 3 rfl rfl dX5_giveBack_47 (rfl : 47 + 1 = 48) ?_
  refine z_aload_n C 3 rfl rfl dX5_giveBack_48 (rfl : 48 + 1 = 49) ?_
  refine z_aload_n C 4 rfl rfl dX5_giveBack_49 (rfl : 49 + 1 = 50) ?_
  refine z_get C (pwm_MC h.1.x13.1 h.1.x13.2.1) rfl iX5_giveBack_X5 6 (by decide) lX5_giveBack_f36 rfl rfl dX5_giveBack_50 (rfl : 50 + 3 = 53) ?_
  rw [show I 14 (g 6 0) = V 9 0 from h.1.2.2.2.1]
  refine z_callV C 1 6 (c_X4_daysLateOn (h.1.g5 hj).1 (h.1.g5 hj).2 (by omega) (by rw [i10]; omega)) gX5_giveBack_X4_daysLateOn rfl hd79_X4_daysLateOn ⟨Nat.le_of_ble_eq_true rfl, Nat.le_of_ble_eq_true rfl⟩ mN rfl rfl (Nat.le_of_ble_eq_true rfl) dX5_giveBack_53 (rfl : 53 + 3 = 56) rfl rfl ⟨Nat.le_of_ble_eq_true rfl, Nat.le_of_ble_eq_true rfl⟩ (fun _ _ h => h.elim) ?_ rfl
  rintro _ _ ⟨rfl, rfl⟩
  refine z_v1 ?_
  rw [i10]
  refine z_put C tyX4 tyX4_ok nmX4 mN rfl iX5_giveBack_X4 5 (by decide) lX5_giveBack_f220 rfl rfl rfl rfl rfl (Nat.le_of_ble_eq_true rfl) dX5_giveBack_56 (rfl : 56 + 3 = 59) (pws_Loan_daysLateAtEnd (h.1.g5 hj).1 (h.1.g5 hj).2) ?_
  refine z_aload_n C 3 rfl rfl dX5_giveBack_59 (rfl : 59 + 1 = 60) ?_
  refine z_iconst C dX5_giveBack_60 (rfl : 60 + 1 = 61) ?_
  refine z_put C tyX4 tyX4_ok nmX4 mN rfl iX5_giveBack_X4 4 (by decide) lX5_giveBack_f202 rfl rfl rfl (iI_bool (.inr rfl)) (iI_fitb (.inr rfl)) (Nat.le_of_ble_eq_true rfl) dX5_giveBack_61 (rfl : 61 + 3 = 64) (pws_Loan_isBack (h.1.g5 hj).1 (h.1.g5 hj).2) ?_
  have hR1 := h.1.setBack (by omega) hj (lateOf (V 9 0) (V 17 j))
  have w5 : ∀ {I' : Nat → Nat → Int} {F' : Nat → Nat → Option Nat} {V' : Nat → Nat → Int}, RP (gde G) L K I' F' R N O T g V' 5 n m t → ∀ i, i < 5 → I' 5 (g 2 i) = V' 22 i ∧ I' 6 (g 2 i) = V' 23 i := fun q i hi => q.2.2.2.2.2.2.2.1 i hi
  refine z_aload_n C 2 rfl rfl dX5_giveBack_64 (rfl : 64 + 1 = 65) ?_
  refine z_dup C rfl dX5_giveBack_65 (rfl : 65 + 1 = 66) ?_
  refine z_get C (mH hb5) rfl iX5_giveBack_X2 3 (by decide) lX5_giveBack_f191 rfl rfl dX5_giveBack_66 (rfl : 66 + 3 = 69) ?_
  rw [show up2 (up2 I 13 (g 5 j) (lateOf (V 9 0) (V 17 j))) 12 (g 5 j) 1 6 (g 2 bb) = V 23 bb from (w5 hR1 bb hb5).2]
  refine z_aload_n C 3 rfl rfl dX5_giveBack_69 (rfl : 69 + 1 = 70) ?_
  refine z_get C mN rfl iX5_giveBack_X4 3 (by decide) lX5_giveBack_f223 rfl rfl dX5_giveBack_70 (rfl : 70 + 3 = 73) ?_
  rw [show up2 (up2 I 13 (g 5 j) (lateOf (V 9 0) (V 17 j))) 12 (g 5 j) 1 11 (g 5 j) = V 18 j from i11]
  refine z_isub C dX5_giveBack_73 (rfl : 73 + 1 = 74) rfl ?_
  refine z_put C tyX2 tyX2_ok nmX2 (mH hb5) rfl iX5_giveBack_X2 3 (by decide) lX5_giveBack_f191 rfl rfl rfl rfl rfl (Nat.le_of_ble_eq_true rfl) dX5_giveBack_74 (rfl : 74 + 3 = 77) (pws_House_laidDown (h.1.g2 hb5).1 (h.1.g2 hb5).2) ?_
  have hR2 := hR1.laid hb5 (by decide) (V 23 bb - V 18 j)
  refine z_aload_n C 2 rfl rfl dX5_giveBack_77 (rfl : 77 + 1 = 78) ?_
  refine z_dup C rfl dX5_giveBack_78 (rfl : 78 + 1 = 79) ?_
  refine z_get C (mH hb5) rfl iX5_giveBack_X2 2 (by decide) lX5_giveBack_f179 rfl rfl dX5_giveBack_79 (rfl : 79 + 3 = 82) ?_
  rw [show up2 (up2 (up2 I 13 (g 5 j) (lateOf (V 9 0) (V 17 j))) 12 (g 5 j) 1) 6 (g 2 bb) (V 23 bb - V 18 j) 5 (g 2 bb) = V 22 bb from (w5 hR2 bb hb5).1]
  refine z_aload_n C 3 rfl rfl dX5_giveBack_82 (rfl : 82 + 1 = 83) ?_
  refine z_get C mN rfl iX5_giveBack_X4 3 (by decide) lX5_giveBack_f223 rfl rfl dX5_giveBack_83 (rfl : 83 + 3 = 86) ?_
  rw [show up2 (up2 (up2 I 13 (g 5 j) (lateOf (V 9 0) (V 17 j))) 12 (g 5 j) 1) 6 (g 2 bb) (V 23 bb - V 18 j) 11 (g 5 j) = V 18 j from i11]
  refine z_iload C 0 rfl dX5_giveBack_86 (rfl : 86 + 2 = 88) ?_
  refine z_isub C dX5_giveBack_88 (rfl : 88 + 1 = 89) rfl ?_
  refine z_iadd C dX5_giveBack_89 (rfl : 89 + 1 = 90) rfl ?_
  refine z_put C tyX2 tyX2_ok nmX2 (mH hb5) rfl iX5_giveBack_X2 2 (by decide) lX5_giveBack_f179 rfl rfl rfl rfl rfl (Nat.le_of_ble_eq_true rfl) dX5_giveBack_90 (rfl : 90 + 3 = 93) (pws_House_coins (h.1.g2 hb5).1 (h.1.g2 hb5).2) ?_
  have hR3 := hR2.coins hb5 (by decide) (V 22 bb + (V 18 j - lostOf (lateOf (V 9 0) (V 17 j)) (V 18 j)))
  refine z_aload C 1 rfl dX5_giveBack_93 (rfl : 93 + 2 = 95) ?_
  refine z_dup C rfl dX5_giveBack_95 (rfl : 95 + 1 = 96) ?_
  refine z_get C (mH ho5) rfl iX5_giveBack_X2 2 (by decide) lX5_giveBack_f179 rfl rfl dX5_giveBack_96 (rfl : 96 + 3 = 99) ?_
  rw [(w5 hR3 oo ho5).1]
  refine z_iload C 0 rfl dX5_giveBack_99 (rfl : 99 + 2 = 101) ?_
  refine z_iadd C dX5_giveBack_101 (rfl : 101 + 1 = 102) rfl ?_
  refine z_put C tyX2 tyX2_ok nmX2 (mH ho5) rfl iX5_giveBack_X2 2 (by decide) lX5_giveBack_f179 rfl rfl rfl rfl rfl (Nat.le_of_ble_eq_true rfl) dX5_giveBack_102 (rfl : 102 + 3 = 105) (pws_House_coins (h.1.g2 ho5).1 (h.1.g2 ho5).2) ?_
  have hR4 := hR3.coins ho5 (by decide) (up2 (up2 (up2 (up2 V 19 j (lateOf (V 9 0) (V 17 j))) 20 j 1) 23 bb (V 23 bb - V 18 j)) 22 bb (V 22 bb + (V 18 j - lostOf (lateOf (V 9 0) (V 17 j)) (V 18 j))) 22 oo + lostOf (lateOf (V 9 0) (V 17 j)) (V 18 j))
  refine z_aload_n C 3 rfl rfl dX5_giveBack_105 (rfl : 105 + 1 = 106) ?_
  refine z_get C mN rfl iX5_giveBack_X4 0 (by decide) lX5_giveBack_f210 rfl rfl dX5_giveBack_106 (rfl : 106 + 3 = 109) ?_
  rw [f6.trans (show some (g 0 (V 15 j).toNat) = some (g 0 cc) from congrArg (fun z => some (g 0 z)) (by omega))]
  refine z_aload C 1 rfl dX5_giveBack_109 (rfl : 109 + 2 = 111) ?_
  refine z_put C tyX0 tyX0_ok nmX0 (pwm_Copy (h.1.g0 hc).1 (h.1.g0 hc).2) rfl iX5_giveBack_X0 4 (by decide) lX5_giveBack_f91 rfl rfl rfl rfl rfl (Nat.le_of_ble_eq_true rfl) dX5_giveBack_111 (rfl : 111 + 3 = 114) (pws_Copy_house (z := some (g 2 oo)) (h.1.g0 hc).1 (h.1.g0 hc).2) ?_
  have hR5 := hR4.setHouse (y := oo) (by omega) hc
  have v6 : ∀ i, i < 5 → ∀ l, l < 60 → R (g 3 i) l = V 13 (60 * i + l) := fun i hi l hl => hR5.2.2.2.2.2.2.2.2.1 i hi l hl
  refine z_aload C 1 rfl dX5_giveBack_114 (rfl : 114 + 2 = 116) ?_
  refine z_aload_n C 2 rfl rfl dX5_giveBack_116 (rfl : 116 + 1 = 117) ?_
  refine z_callV C 1 6 (c_X2_takeLettersOf (hR5.isH ho5) (hR5.isH hb5) (fun k hk => by rw [v6 bb hb5 k hk]; exact hw.2.2.2.2.2.2.2.2.1.1 _ (by omega))) gX5_giveBack_X2_takeLettersOf rfl hd79_X2_takeLettersOf ⟨Nat.le_of_ble_eq_true rfl, Nat.le_of_ble_eq_true rfl⟩ (mH ho5) rfl rfl (Nat.le_of_ble_eq_true rfl) dX5_giveBack_117 (rfl : 117 + 3 = 120) rfl rfl ⟨Nat.le_of_ble_eq_true rfl, Nat.le_of_ble_eq_true rfl⟩ (fun _ _ h => h.elim) ?_ rfl
  rintro _ _ ⟨rfl, f, hf, rfl⟩
  refine z_v0 ?_
  refine z_iload C 0 rfl dX5_giveBack_120 (rfl : 120 + 2 = 122) ?_
  refine z_iret C rfl dX5_giveBack_122 (kk _ ⟨L, K, _, _, _, N, O, T, g, rfl, rfl, fun V' hV' => ?_⟩) h1 h2
  obtain ⟨f', hg, rfl⟩ := hV'
  have eb : (V 16 j).toNat = bb := by omega
  have ec : (V 15 j).toNat = cc := by omega
  have eo : (V 3 (V 15 j).toNat).toNat = oo := by rw [ec]; omega
  have ens : nsBack V j = up2 (up2 (up2 (up2 (up2 (up2 V 19 j (lateOf (V 9 0) (V 17 j))) 20 j 1) 23 bb (V 23 bb - V 18 j)) 22 bb (V 22 bb + (V 18 j - lostOf (lateOf (V 9 0) (V 17 j)) (V 18 j)))) 22 oo (up2 (up2 (up2 (up2 V 19 j (lateOf (V 9 0) (V 17 j))) 20 j 1) 23 bb (V 23 bb - V 18 j)) 22 bb (V 22 bb + (V 18 j - lostOf (lateOf (V 9 0) (V 17 j)) (V 18 j))) 22 oo + lostOf (lateOf (V 9 0) (V 17 j)) (V 18 j))) 4 cc (oo : Int) := by
    unfold nsBack
    rw [eb, eo, ec]
  rw [ens]
  refine ⟨hR5.rowH (f := f) (f' := f') (j := oo) (by omega) ho5 (fun k hk => by
    rw [hf k hk, v6 bb hb5 k hk, v6 oo ho5 k hk]
    exact gt_row hw ho5 hb5 hg hk) (fun i _ hi2 => hg.2 i (fun k hk => hi2 k (by omega))), h.2.congV (fun i j hi hj => kinV_cong (V := V) (fun _ _ => ⟨rfl, rfl⟩) (fun i hi k hk => rfl) hi hj)⟩
theorem c_X5_giveBack {z : Int} (hz : -2147483648 ≤ z ∧ z < 2147483648) (h : RX (gde G) L K I F R N O T g V n m t) (hw : WFV V n m t) : MC l yX5_giveBack wsX5_giveBack rmX5_giveBack G base [.ref (g 6 0), .int (iI z)] (pw G X L K I F R N O) (mxP ((0 ≤ z ∧ z < t) ∧ V 20 z.toNat = 0) (lostOf (lateOf (V 9 0) (V 17 z.toNat)) (V 18 z.toNat)) (MUT G X (g 6 0) (fun V' => ∃ f, gtL V m (V 3 (V 15 z.toNat).toNat).toNat (V 16 z.toNat).toNat f ∧ V' = va_up (nsBack V z.toNat) 13 f) n m t)) (mxE (pw G X L K I F R N O) sIOB sISE (0 ≤ z ∧ z < t) (V 20 z.toNat = 0)) := by
  refine MC.of (cc := cX5_giveBack) (by decide) rfl rfl (Nat.le_of_ble_eq_true rfl) ?_
  intro κ C hT hl hnm
  have hn := hw.2.1
  refine z_sub [0, 1] (lv' := [(0, .ref (g 6 0)), (1, .int (iI z))]) rfl ?_
  refine z_aload_n C 0 rfl rfl dX5_giveBack_0 (rfl : 0 + 1 = 1) ?_
  refine z_iload_n C 1 rfl rfl dX5_giveBack_1 (rfl : 1 + 1 = 2) ?_
  refine z_callV C 1 6 (c_X5_findLoan hz h.1.x11 h.1.l3 (by omega) (fun j hj => h.1.g5 hj)) gX5_giveBack_X5_findLoan rfl hd79_X5_findLoan ⟨Nat.le_of_ble_eq_true rfl, Nat.le_of_ble_eq_true rfl⟩ (pwm_MC h.1.x8.1 h.1.x8.2.1) rfl rfl (Nat.le_of_ble_eq_true rfl) dX5_giveBack_2 (rfl : 2 + 3 = 5) rfl rfl ⟨Nat.le_of_ble_eq_true rfl, Nat.le_of_ble_eq_true rfl⟩ (fun E w h => z_out C hT ⟨h.2.1, .inl ⟨h.1, h.2.2⟩⟩ (by decide) (by decide)) ?_ rfl
  rintro _ _ ⟨rfl, j, rfl, hj, rfl⟩
  refine z_v1 ?_
  have l10 := hw.2.2.2.2.2.2.2.2.2.1 j hj
  have d12 := hw.2.2.2.2.2.2.2.2.2.2.2
  have b20 := hw.2.2.2.2.2.2.2.2.2.2.1 j (by omega)
  have r6 := hw.2.2.2.2.2.1 (V 15 j).toNat (by omega)
  obtain ⟨f6, f7, i10, i11⟩ := h.1.2.1.2.2.2.2.2 j hj
  have hc : (V 15 j).toNat < n := by omega
  have mN := pwm_Loan (G := G) (X := X) (I := I) (F := F) (R := R) (N := N) (O := O) (h.1.g5 hj).1 (h.1.g5 hj).2
  refine z_astore_n (lv' := [(2, _), (0, _), (1, _)]) C rfl dX5_giveBack_5 (rfl : 5 + 1 = 6) (by decide) rfl ?_
  refine z_aload_n C 0 rfl rfl dX5_giveBack_6 (rfl : 6 + 1 = 7) ?_
  refine z_get C mN rfl iX5_giveBack_X4 4 (by decide) lX5_giveBack_f202 rfl rfl dX5_giveBack_7 (rfl : 7 + 3 = 10) ?_
  rw [(h.1.2.2.2.2.2.2.2.2.2.2.2.2 j hj).1]
  refine z_if_eq (pt := 23) C dX5_giveBack_10 (by decide) (rfl : 10 + 3 = 13) (iI_eq0 (by omega)).1 (fun q => mt (iI_eq0 (by omega)).2 q) (fun c1 => ?_) (fun c1 => ?_)
  rotate_left
  · exact z_throw C hT rfl lX5_giveBack_c68 nX5_giveBack_ISE (List.mem_of_getElem? (i := 21) rfl) tX5_giveBack_ISE thN_ISE thG_ISE dX5_giveBack_13 dX5_giveBack_16 dX5_giveBack_17 dX5_giveBack_19 dX5_giveBack_22 (by decide) (Nat.le_of_ble_eq_true rfl) (by decide) (by decide) (by decide) (by decide) ⟨rfl, .inr ⟨rfl, by omega, c1⟩⟩
  refine z_aload_n C 0 rfl rfl dX5_giveBack_23 (rfl : 23 + 1 = 24) ?_
  refine z_get C mN rfl iX5_giveBack_X4 1 (by decide) lX5_giveBack_f207 rfl rfl dX5_giveBack_24 (rfl : 24 + 3 = 27) ?_
  rw [f7]
  refine z_astore_n (lv' := [(3, _), (2, _), (0, _), (1, _)]) C rfl dX5_giveBack_27 (rfl : 27 + 1 = 28) (by decide) rfl ?_
  refine z_aload_n C 1 rfl rfl dX5_giveBack_28 (rfl : 28 + 1 = 29) ?_
  refine z_get C mN rfl iX5_giveBack_X4 0 (by decide) lX5_giveBack_f210 rfl rfl dX5_giveBack_29 (rfl : 29 + 3 = 32) ?_
  rw [f6]
  refine z_get C (pwm_Copy (h.1.g0 hc).1 (h.1.g0 hc).2) rfl iX5_giveBack_X0 2 (by decide) lX5_giveBack_f174 rfl rfl dX5_giveBack_32 (rfl : 32 + 3 = 35) ?_
  rw [(h.1.2.1.2.2.2.1 _ hc).2.2.2.2]
  refine z_astore (lv' := [(4, _), (3, _), (2, _), (0, _), (1, _)]) C dX5_giveBack_35 (rfl : 35 + 2 = 37) (by decide) rfl ?_
  refine z_aload_n C 2 rfl rfl dX5_giveBack_37 (rfl : 37 + 1 = 38) ?_
  refine z_aload_n C 3 rfl rfl dX5_giveBack_38 (rfl : 38 + 1 = 39) ?_
  refine z_get C (pwm_MC h.1.x8.1 h.1.x8.2.1) rfl iX5_giveBack_X5 6 (by decide) lX5_giveBack_f36 rfl rfl dX5_giveBack_39 (rfl : 39 + 3 = 42) ?_
  rw [show I 14 (g 6 0) = V 9 0 from h.1.2.2.2.1]
  refine z_callV C 1 6 (c_X4_lostOn (h.1.g5 hj).1 (h.1.g5 hj).2 (by omega) (by rw [i10]; omega) (by rw [i11]; omega)) gX5_giveBack_X4_lostOn rfl hd79_X4_lostOn ⟨Nat.le_of_ble_eq_true rfl, Nat.le_of_ble_eq_true rfl⟩ mN rfl rfl (Nat.le_of_ble_eq_true rfl) dX5_giveBack_42 (rfl : 42 + 3 = 45) rfl rfl ⟨Nat.le_of_ble_eq_true rfl, Nat.le_of_ble_eq_true rfl⟩ (fun _ _ h => h.elim) ?_ rfl
  rintro _ _ ⟨rfl, rfl⟩
  refine z_v1 ?_
  rw [i10, i11]
  refine z_istore (lv' := [(5, _), (4, _), (3, _), (2, _), (0, _), (1, _)]) C dX5_giveBack_45 (rfl : 45 + 2 = 47) (by decide) rfl ?_
  refine z_sub [0, 1, 2, 3, 4] (lv' := [(5, .int (iI (lostOf (lateOf (V 9 0) (V 17 j)) (V 18 j)))), (4, .ref (g 2 (V 3 (V 15 j).toNat).toNat)), (3, .ref (g 2 (V 16 j).toNat)), (2, .ref (g 5 j)), (0, .ref (g 6 0))]) rfl ?_
  exact tl_X5_back (z := 0) C hj hc (by omega) (by omega) (by omega) (by omega) (by omega) h hw (fun w hm => ⟨⟨by omega, c1⟩, rfl, hm⟩) (by decide) (by decide)
end
