theorem lX5_workIn_f19 : Cond.fieldLink RX5 19 "ModelCopies" "letters" "Ljava/util/ArrayList;" ∈ wsX5_workIn := by decide +kernel
theorem iX5_workIn_X5 : ∀ w ∈ wsX50, w ∈ wsX5_workIn := by decide +kernel
theorem hd77_Jx4a65c_size_8abf5 : yJx4a65c_size_8abf5.cls = RJx4a65c ∧ yJx4a65c_size_8abf5.cls ≠ "java/lang/invoke/MethodHandle" ∧ yJx4a65c_size_8abf5.cls ≠ "java/lang/invoke/VarHandle" ∧ (parseMethodDescriptor yJx4a65c_size_8abf5.desc).map (fun d => d.parameters.length) = some 0 := by decide +kernel
theorem hd77_X2_holds : yX2_holds.cls = RX2 ∧ yX2_holds.cls ≠ "java/lang/invoke/MethodHandle" ∧ yX2_holds.cls ≠ "java/lang/invoke/VarHandle" ∧ (parseMethodDescriptor yX2_holds.desc).map (fun d => d.parameters.length) = some 1 := by decide +kernel
theorem hd77_Jx4a65c_get_915e3 : yJx4a65c_get_915e3.cls = RJx4a65c ∧ yJx4a65c_get_915e3.cls ≠ "java/lang/invoke/MethodHandle" ∧ yJx4a65c_get_915e3.cls ≠ "java/lang/invoke/VarHandle" ∧ (parseMethodDescriptor yJx4a65c_get_915e3.desc).map (fun d => d.parameters.length) = some 1 := by decide +kernel
theorem lX5_workIn_c146 : Cond.classLink RX5 146 "ModelCopies$Letter" ∈ wsX5_workIn := by decide +kernel
theorem hd77_X3_changes : yX3_changes.cls = RX3 ∧ yX3_changes.cls ≠ "java/lang/invoke/MethodHandle" ∧ yX3_changes.cls ≠ "java/lang/invoke/VarHandle" ∧ (parseMethodDescriptor yX3_changes.desc).map (fun d => d.parameters.length) = some 1 := by decide +kernel
theorem hd77_X5_findHouse : yX5_findHouse.cls = RX5 ∧ yX5_findHouse.cls ≠ "java/lang/invoke/MethodHandle" ∧ yX5_findHouse.cls ≠ "java/lang/invoke/VarHandle" ∧ (parseMethodDescriptor yX5_findHouse.desc).map (fun d => d.parameters.length) = some 1 := by decide +kernel
theorem hd77_X5_findCopy : yX5_findCopy.cls = RX5 ∧ yX5_findCopy.cls ≠ "java/lang/invoke/MethodHandle" ∧ yX5_findCopy.cls ≠ "java/lang/invoke/VarHandle" ∧ (parseMethodDescriptor yX5_findCopy.desc).map (fun d => d.parameters.length) = some 1 := by decide +kernel
theorem lX5_workIn_f91 : Cond.fieldLink RX5 91 "ModelCopies$Copy" "house" "LModelCopies$House;" ∈ wsX5_workIn := by decide +kernel
theorem iX5_workIn_X0 : ∀ w ∈ wsX00, w ∈ wsX5_workIn := by decide +kernel
theorem tX5_workIn_ISE : ∀ w ∈ (vx_atS RX5 72 "java/lang/IllegalStateException" ["java/lang/RuntimeException", "java/lang/Exception"]).filter goodWord, w ∈ wsX5_workIn := by decide +kernel
theorem lX5_workIn_c68 : Cond.classLink RX5 68 "java/lang/IllegalStateException" ∈ wsX5_workIn := by decide +kernel
theorem nX5_workIn_ISE : Cond.initialized "java/lang/IllegalStateException" ∈ wsX5_workIn := by decide +kernel
theorem hd77_X5_findFamiliesAnew : yX5_findFamiliesAnew.cls = RX5 ∧ yX5_findFamiliesAnew.cls ≠ "java/lang/invoke/MethodHandle" ∧ yX5_findFamiliesAnew.cls ≠ "java/lang/invoke/VarHandle" ∧ (parseMethodDescriptor yX5_findFamiliesAnew.desc).map (fun d => d.parameters.length) = some 0 := by decide +kernel
section
variable {κ : KxT} {G : GG} {base mc ms : Nat} {post : Option Value → va_W → Prop} {exc : String → va_W → Prop} {X : va_W} {L : List Nat} {K : Nat → Nat} {I : Nat → Nat → Int} {F : Nat → Nat → Option Nat} {R : Nat → Nat → Int} {N : Nat → Nat} {O : Nat → Nat → Option Nat} {l : Launch}
variable {n m t : Nat} {T : Nat → Nat} {g : Nat → Nat → Nat} {V : Nat → Nat → Int}
theorem wkV_0 {h : Nat} {r0 : Nat → Int} : ∀ j, 0 ≤ (wkV V h r0 j).2 ∧ ((wkV V h r0 j).2 = 0 → (wkV V h r0 j).1 = r0)
  | 0 => ⟨Int.le_refl 0, fun _ => rfl⟩
  | j + 1 => by
    obtain ⟨h1, h2⟩ := wkV_0 (h := h) (r0 := r0) j
    simp only [wkV]
    split
    · refine ⟨by show 0 ≤ (wkV V h r0 j).2 + 1; omega, fun e => ?_⟩
      have e' : (wkV V h r0 j).2 + 1 = 0 := e
      omega
    · exact ⟨h1, h2⟩
theorem wkV_yes {h j : Nat} {r0 : Nat → Int} (c : V 13 (60 * h + j) = 1 ∧ (wkV V h r0 j).1 (V 10 j).toNat = V 11 j) : wkV V h r0 (j + 1) = (va_up (wkV V h r0 j).1 (V 10 j).toNat (V 12 j), (wkV V h r0 j).2 + 1) := if_pos c
theorem wkV_no {h j : Nat} {r0 : Nat → Int} (c : ¬ (V 13 (60 * h + j) = 1 ∧ (wkV V h r0 j).1 (V 10 j).toNat = V 11 j)) : wkV V h r0 (j + 1) = wkV V h r0 j := if_neg c
abbrev rmX5_workIn : Room := { frames := 7, cells := 3, slots := 18, locals := 200 }
theorem lp_X5_work (C : Cx κ cX5_workIn 7 wsX5_workIn RX5 (some .int) rmX5_workIn G base) {hh cc : Nat} (hh5 : hh < 5) (hc : cc < n) (h : RP (gde G) L K I F R N O T g V 5 n m t) (hw : WFV V n m t)
    (kk : ∀ f : Nat → Int, (∀ k, k < 24 → f k = (wkV V hh (rdV V cc) m).1 k) → Z κ 7 G base mc ms post exc 2 12 88 [(6, .int (iI (m : Int))), (5, .int (iI (wkV V hh (rdV V cc) m).2)), (4, .ref (g 0 cc)), (3, .ref (g 2 hh)), (0, .ref (g 6 0))] [] (pw G X L K I F (va_up R (g 1 cc) f) N O)) :
    ∀ (d j : Nat) (f : Nat → Int), j + d = m → (∀ k, k < 24 → f k = (wkV V hh (rdV V cc) j).1 k) → Z κ 7 G base mc ms post exc 2 12 38 [(6, .int (iI (j : Int))), (5, .int (iI (wkV V hh (rdV V cc) j).2)), (4, .ref (g 0 cc)), (3, .ref (g 2 hh)), (0, .ref (g 6 0))] [] (pw G X L K I F (va_up R (g 1 cc) f) N O) := by
  have hn := hw.2.1
  have h9 := hw.2.2.2.2.2.2.2.2.1.1
  intro d
  induction d with
  | zero =>
    intro j f hj hf
    have e : j = m := by omega
    subst e
    refine z_iload C 0 rfl dX5_workIn_38 (rfl : 38 + 2 = 40) ?_
    refine z_aload_n C 4 rfl rfl dX5_workIn_40 (rfl : 40 + 1 = 41) ?_
    refine z_get C (pwm_MC h.x10.1 h.x10.2.1) rfl iX5_workIn_X5 2 (by decide) lX5_workIn_f19 rfl rfl dX5_workIn_41 (rfl : 41 + 3 = 44) ?_
    rw [h.x10.2.2]
    refine z_callV C 2 12 (c_list_size h.l2) gX5_workIn_Jx4a65c_size_8abf5 rfl hd77_Jx4a65c_size_8abf5 ⟨Nat.le_of_ble_eq_true rfl, Nat.le_of_ble_eq_true rfl⟩ (pwm_AL h.l2.1 h.l2.2.1) rfl rfl (Nat.le_of_ble_eq_true rfl) dX5_workIn_44 (rfl : 44 + 3 = 47) rfl rfl ⟨Nat.le_of_ble_eq_true rfl, Nat.le_of_ble_eq_true rfl⟩ (fun _ _ h => h.elim) ?_ rfl
    rintro _ _ ⟨rfl, rfl⟩
    refine z_v1 ?_
    refine z_icmp_ge (pt := 88) C dX5_workIn_47 (by decide) (rfl : 47 + 3 = 50) (iI_le (by omega) (by omega)).1 (fun q => mt (iI_le (by omega) (by omega)).2 q) (fun c => ?_) (fun c => ?_)
    · exact kk f hf
    · exact absurd c (by omega)
  | succ d ih =>
    intro j f hj hf
    have hjm : j < m := by omega
    have rr := wkV_rng (h := hh) hw hc j (by omega)
    have l8 := hw.2.2.2.2.2.2.2.1 j hjm
    have hcI := h.isC hc
    have hH := h.isH hh5
    have ne3 : g 3 hh ≠ g 1 cc := h.ne (a := 3) (b := 1) (by unfold VLD; omega) (by unfold VLD; omega) (by omega) (by omega) (by omega)
    have eR : va_up R (g 1 cc) f (g 3 hh) = R (g 3 hh) := va_up_ne _ _ ne3
    have eC : va_up R (g 1 cc) f (g 1 cc) = f := va_up_self _ _ _
    have v6 : ∀ l, l < 60 → R (g 3 hh) l = V 13 (60 * hh + l) := fun l hl => h.2.2.2.2.2.2.2.2.1 hh hh5 l hl
    have hb := h9 (60 * hh + j) (by omega)
    obtain ⟨p, ep⟩ : ∃ p : Nat, V 10 j = (p : Int) := ⟨(V 10 j).toNat, by omega⟩
    have hp : p < 24 := by omega
    have epn : (V 10 j).toNat = p := by omega
    obtain ⟨i7, i8, i9⟩ := h.2.1.2.2.2.2.1 j hjm
    refine z_iload C 0 rfl dX5_workIn_38 (rfl : 38 + 2 = 40) ?_
    refine z_aload_n C 4 rfl rfl dX5_workIn_40 (rfl : 40 + 1 = 41) ?_
    refine z_get C (pwm_MC h.x10.1 h.x10.2.1) rfl iX5_workIn_X5 2 (by decide) lX5_workIn_f19 rfl rfl dX5_workIn_41 (rfl : 41 + 3 = 44) ?_
    rw [h.x10.2.2]
    refine z_callV C 2 12 (c_list_size h.l2) gX5_workIn_Jx4a65c_size_8abf5 rfl hd77_Jx4a65c_size_8abf5 ⟨Nat.le_of_ble_eq_true rfl, Nat.le_of_ble_eq_true rfl⟩ (pwm_AL h.l2.1 h.l2.2.1) rfl rfl (Nat.le_of_ble_eq_true rfl) dX5_workIn_44 (rfl : 44 + 3 = 47) rfl rfl ⟨Nat.le_of_ble_eq_true rfl, Nat.le_of_ble_eq_true rfl⟩ (fun _ _ h => h.elim) ?_ rfl
    rintro _ _ ⟨rfl, rfl⟩
    refine z_v1 ?_
    refine z_icmp_ge (pt := 88) C dX5_workIn_47 (by decide) (rfl : 47 + 3 = 50) (iI_le (by omega) (by omega)).1 (fun q => mt (iI_le (by omega) (by omega)).2 q) (fun c => ?_) (fun c => ?_)
    · exact absurd c (by omega)
    refine z_aload_n C 3 rfl rfl dX5_workIn_50 (rfl : 50 + 1 = 51) ?_
    refine z_iload C 0 rfl dX5_workIn_51 (rfl : 51 + 2 = 53) ?_
    refine z_callV C 2 12 (c_X2_holds (R := va_up R (g 1 cc) f) (i := j) hH (by rw [eR]; exact fun k hk => by rw [v6 k hk]; exact h9 _ (by omega)) (by omega)) gX5_workIn_X2_holds rfl hd77_X2_holds ⟨Nat.le_of_ble_eq_true rfl, Nat.le_of_ble_eq_true rfl⟩ (pwm_House hH.1 hH.2.1) rfl rfl (Nat.le_of_ble_eq_true rfl) dX5_workIn_53 (rfl : 53 + 3 = 56) rfl rfl ⟨Nat.le_of_ble_eq_true rfl, Nat.le_of_ble_eq_true rfl⟩ (fun _ _ h => h.elim) ?_ rfl
    rintro _ _ ⟨rfl, rfl⟩
    refine z_v1 ?_
    rw [eR, v6 j (by omega)]
    refine z_if_eq (pt := 82) C dX5_workIn_56 (by decide) (rfl : 56 + 3 = 59) (iI_eq0 (by omega)).1 (fun q => mt (iI_eq0 (by omega)).2 q) (fun c2 => ?_) (fun c2 => ?_)
    · have e1 : wkV V hh (rdV V cc) (j + 1) = wkV V hh (rdV V cc) j := wkV_no (fun o => by omega)
      refine z_iinc (lv' := [(6, _), (5, _), (4, _), (3, _), (0, _)]) C 0 dX5_workIn_82 (rfl : 82 + 3 = 85) rfl rfl (by decide) rfl ?_
      refine z_goto (pc' := 38) C dX5_workIn_85 (by decide) ?_
      have := ih (j + 1) f (by omega) (by rw [e1]; exact hf)
      rw [e1] at this
      exact z_sub [0, 1, 2, 3, 4] rfl this
    have c2' : V 13 (60 * hh + j) = 1 := by omega
    refine z_aload_n C 4 rfl rfl dX5_workIn_59 (rfl : 59 + 1 = 60) ?_
    refine z_get C (pwm_MC h.x10.1 h.x10.2.1) rfl iX5_workIn_X5 2 (by decide) lX5_workIn_f19 rfl rfl dX5_workIn_60 (rfl : 60 + 3 = 63) ?_
    rw [h.x10.2.2]
    refine z_iload C 0 rfl dX5_workIn_63 (rfl : 63 + 2 = 65) ?_
    refine z_callV C 2 12 (c_list_get (i := j) h.l2 hjm) gX5_workIn_Jx4a65c_get_915e3 rfl hd77_Jx4a65c_get_915e3 ⟨Nat.le_of_ble_eq_true rfl, Nat.le_of_ble_eq_true rfl⟩ (pwm_AL h.l2.1 h.l2.2.1) rfl rfl (Nat.le_of_ble_eq_true rfl) dX5_workIn_65 (rfl : 65 + 3 = 68) rfl rfl ⟨Nat.le_of_ble_eq_true rfl, Nat.le_of_ble_eq_true rfl⟩ (fun _ _ h => h.elim) ?_ rfl
    rintro _ _ ⟨rfl, rfl⟩
    refine z_v1 ?_
    refine z_cast C (pwm_Letter (h.g4 hjm).1 (h.g4 hjm).2) rfl lX5_workIn_c146 dX5_workIn_68 (rfl : 68 + 3 = 71) ?_
    refine z_aload C 2 rfl dX5_workIn_71 (rfl : 71 + 2 = 73) ?_
    refine z_callV C 2 12 (c_X3_changes (R := va_up R (g 1 cc) f) (i := p) (h.g4 hjm).1 (h.g4 hjm).2 hcI (by rw [i7]; exact ep) hp (by rw [eC]; exact fun k hk => by rw [hf k hk]; exact rr.1 k hk) (by rw [i8]; exact l8.2.1)) gX5_workIn_X3_changes rfl hd77_X3_changes ⟨Nat.le_of_ble_eq_true rfl, Nat.le_of_ble_eq_true rfl⟩ (pwm_Letter (h.g4 hjm).1 (h.g4 hjm).2) rfl rfl (Nat.le_of_ble_eq_true rfl) dX5_workIn_73 (rfl : 73 + 3 = 76) rfl rfl ⟨Nat.le_of_ble_eq_true rfl, Nat.le_of_ble_eq_true rfl⟩ (fun _ _ h => h.elim) ?_ rfl
    rintro _ _ ⟨rfl, rfl⟩
    refine z_v1 ?_
    rw [eC, i8, i9, hf p hp]
    by_cases c3 : (wkV V hh (rdV V cc) j).1 p = V 11 j
    · rw [if_pos c3, if_pos c3]
      have e1 := wkV_yes (V := V) (h := hh) (j := j) (r0 := rdV V cc) ⟨c2', by rw [epn]; exact c3⟩
      rw [epn] at e1
      refine z_if_eq (pt := 82) C dX5_workIn_76 (by decide) (rfl : 76 + 3 = 79) (iI_eq0 (by omega)).1 (fun q => mt (iI_eq0 (by omega)).2 q) (fun c4 => ?_) (fun c4 => ?_)
      · exact absurd c4 (by decide)
      refine z_iinc (lv' := [(5, _), (6, _), (4, _), (3, _), (0, _)]) C 1 dX5_workIn_79 (rfl : 79 + 3 = 82) rfl rfl (by decide) rfl ?_
      refine z_iinc (lv' := [(6, _), (5, _), (4, _), (3, _), (0, _)]) C 1 dX5_workIn_82 (rfl : 82 + 3 = 85) rfl rfl (by decide) rfl ?_
      refine z_goto (pc' := 38) C dX5_workIn_85 (by decide) ?_
      have := ih (j + 1) (va_up f p (V 12 j)) (by omega) (fun k hk => by
        rw [e1]
        show va_up f p (V 12 j) k = va_up (wkV V hh (rdV V cc) j).1 p (V 12 j) k
        by_cases e : k = p
        · subst e; rw [va_up_self, va_up_self]
        · rw [va_up_ne _ _ e, va_up_ne _ _ e]; exact hf k hk)
      rw [e1] at this
      refine z_ws (ws' := pw G X L K I F (va_up R (g 1 cc) (va_up f p (V 12 j))) N O) (by rw [up2_row, va_up_self, up_up]) ?_
      exact z_sub [0, 1, 2, 3, 4] rfl this
    · rw [if_neg c3, if_neg c3]
      have e1 := wkV_no (V := V) (h := hh) (j := j) (r0 := rdV V cc) (fun o => c3 (by rw [← epn]; exact o.2))
      refine z_if_eq (pt := 82) C dX5_workIn_76 (by decide) (rfl : 76 + 3 = 79) (iI_eq0 (by omega)).1 (fun q => mt (iI_eq0 (by omega)).2 q) (fun c4 => ?_) (fun c4 => ?_)
      rotate_left
      · exact absurd rfl c4
      refine z_iinc (lv' := [(6, _), (5, _), (4, _), (3, _), (0, _)]) C 0 dX5_workIn_82 (rfl : 82 + 3 = 85) rfl rfl (by decide) rfl ?_
      refine z_goto (pc' := 38) C dX5_workIn_85 (by decide) ?_
      have := ih (j + 1) f (by omega) (by rw [e1]; exact hf)
      rw [e1] at this
      exact z_sub [0, 1, 2, 3, 4] rfl this
theorem c_X5_workIn {hz cz : Int} (rh : -2147483648 ≤ hz ∧ hz < 2147483648) (rc : -2147483648 ≤ cz ∧ cz < 2147483648) (h : RX (gde G) L K I F R N O T g V n m t) (hw : WFV V n m t) : MC l yX5_workIn wsX5_workIn rmX5_workIn G base [.ref (g 6 0), .int (iI hz), .int (iI cz)] (pw G X L K I F R N O) (mxP (((0 ≤ hz ∧ hz < 5) ∧ 0 ≤ cz ∧ cz < n) ∧ V 4 cz.toNat = hz) (wkV V hz.toNat (rdV V cz.toNat) m).2 (MUT G X (g 6 0) (fun V' => ∃ f, wkR V hz.toNat cz.toNat m f ∧ V' = va_up V 0 f) n m t)) (mxE (pw G X L K I F R N O) sIOB sISE ((0 ≤ hz ∧ hz < 5) ∧ 0 ≤ cz ∧ cz < n) (V 4 cz.toNat = hz)) := by
  refine MC.of (cc := cX5_workIn) (by decide) rfl rfl (Nat.le_of_ble_eq_true rfl) ?_
  intro κ C hT hl hnm
  have hn := hw.2.1
  refine z_sub [0, 1, 2] (lv' := [(0, .ref (g 6 0)), (1, .int (iI hz)), (2, .int (iI cz))]) rfl ?_
  refine z_aload_n C 0 rfl rfl dX5_workIn_0 (rfl : 0 + 1 = 1) ?_
  refine z_iload_n C 1 rfl rfl dX5_workIn_1 (rfl : 1 + 1 = 2) ?_
  refine z_callV C 1 6 (c_X5_findHouse (heA := g 3) rh h.1.x8 h.1.l0 (fun i hi => h.1.isH hi)) gX5_workIn_X5_findHouse rfl hd77_X5_findHouse ⟨Nat.le_of_ble_eq_true rfl, Nat.le_of_ble_eq_true rfl⟩ (pwm_MC h.1.x8.1 h.1.x8.2.1) rfl rfl (Nat.le_of_ble_eq_true rfl) dX5_workIn_2 (rfl : 2 + 3 = 5) rfl rfl ⟨Nat.le_of_ble_eq_true rfl, Nat.le_of_ble_eq_true rfl⟩ (fun E w h => z_out C hT ⟨h.2.1, .inl ⟨h.1, fun q => h.2.2 q.1⟩⟩ (by decide) (by decide)) ?_ rfl
  rintro _ _ ⟨rfl, hh, rfl, hh5, rfl⟩
  refine z_v1 ?_
  refine z_astore_n (lv' := [(3, _), (0, _), (1, _), (2, _)]) C rfl dX5_workIn_5 (rfl : 5 + 1 = 6) (by decide) rfl ?_
  refine z_aload_n C 1 rfl rfl dX5_workIn_6 (rfl : 6 + 1 = 7) ?_
  refine z_iload_n C 3 rfl rfl dX5_workIn_7 (rfl : 7 + 1 = 8) ?_
  refine z_callV C 2 12 (c_X5_findCopy (rA := g 1) rc h.1.x9 h.1.l1 (by omega) (fun i hi => h.1.isC hi)) gX5_workIn_X5_findCopy rfl hd77_X5_findCopy ⟨Nat.le_of_ble_eq_true rfl, Nat.le_of_ble_eq_true rfl⟩ (pwm_MC h.1.x8.1 h.1.x8.2.1) rfl rfl (Nat.le_of_ble_eq_true rfl) dX5_workIn_8 (rfl : 8 + 3 = 11) rfl rfl ⟨Nat.le_of_ble_eq_true rfl, Nat.le_of_ble_eq_true rfl⟩ (fun E w h => z_out C hT ⟨h.2.1, .inl ⟨h.1, fun q => h.2.2 q.2⟩⟩ (by decide) (by decide)) ?_ rfl
  rintro _ _ ⟨rfl, cc, rfl, hc, rfl⟩
  refine z_v1 ?_
  have all : (0 ≤ (hh : Int) ∧ (hh : Int) < 5) ∧ 0 ≤ (cc : Int) ∧ (cc : Int) < n := by omega
  have hk1 := (hw.2.2.2.2.2.1 cc hc).2
  have mC := pwm_Copy (G := G) (X := X) (I := I) (F := F) (R := R) (N := N) (O := O) (h.1.g0 hc).1 (h.1.g0 hc).2
  have q1 := some_acmp (x := V 4 cc) (y := (hh : Int)) h.1 (by decide) (by omega) (by omega)
  refine z_astore (lv' := [(4, _), (3, _), (0, _), (1, _), (2, _)]) C dX5_workIn_11 (rfl : 11 + 2 = 13) (by decide) rfl ?_
  refine z_aload C 0 rfl dX5_workIn_13 (rfl : 13 + 2 = 15) ?_
  refine z_get C mC rfl iX5_workIn_X0 4 (by decide) lX5_workIn_f91 rfl rfl dX5_workIn_15 (rfl : 15 + 3 = 18) ?_
  rw [h.1.house hc]
  refine z_aload_n C 1 rfl rfl dX5_workIn_18 (rfl : 18 + 1 = 19) ?_
  refine z_acmp_eq (pt := 32) C (some (g 2 (V 4 cc).toNat)) (some (g 2 hh)) dX5_workIn_19 (by decide) (rfl : 19 + 3 = 22) (fun c1 => ?_) (fun c1 => ?_)
  rotate_left
  · exact z_throw C hT rfl lX5_workIn_c68 nX5_workIn_ISE (List.mem_of_getElem? (i := 14) rfl) tX5_workIn_ISE thN_ISE thG_ISE dX5_workIn_22 dX5_workIn_25 dX5_workIn_26 dX5_workIn_28 dX5_workIn_31 (by decide) (Nat.le_of_ble_eq_true rfl) (by decide) (by decide) (by decide) (by decide) ⟨rfl, .inr ⟨rfl, all, fun o => c1 (q1.mpr o)⟩⟩
  refine z_iconst C dX5_workIn_32 (rfl : 32 + 1 = 33) ?_
  refine z_istore (lv' := [(5, _), (4, _), (3, _), (0, _), (1, _), (2, _)]) C dX5_workIn_33 (rfl : 33 + 2 = 35) (by decide) rfl ?_
  refine z_iconst C dX5_workIn_35 (rfl : 35 + 1 = 36) ?_
  refine z_istore (lv' := [(6, _), (5, _), (4, _), (3, _), (0, _), (1, _), (2, _)]) C dX5_workIn_36 (rfl : 36 + 2 = 38) (by decide) rfl ?_
  have hcI := h.1.isC hc
  refine z_sub [0, 1, 2, 3, 4] (lv' := [(6, .int (iI ((0 : Nat) : Int))), (5, .int (iI (wkV V hh (rdV V cc) 0).2)), (4, .ref (g 0 cc)), (3, .ref (g 2 hh)), (0, .ref (g 6 0))]) rfl ?_
  refine z_ws (ws' := pw G X L K I F (va_up R (g 1 cc) (R (g 1 cc))) N O) (by rw [up_self]) ?_
  refine lp_X5_work C hh5 hc h.1 hw (fun f hf => ?_) m 0 (R (g 1 cc)) (by omega) (fun k hk => h.1.rd hc hk)
  have rr := wkV_rng (h := hh) hw hc m (Nat.le_refl _)
  have r0 := wkV_0 (V := V) (h := hh) (r0 := rdV V cc) m
  refine z_iload C 1 rfl dX5_workIn_88 (rfl : 88 + 2 = 90) ?_
  have fin : ∀ I' : Nat → Nat → Int, (∀ f', wkR V hh cc m f' → RX (gde G) L K I' F (va_up R (g 1 cc) f) N O T g (va_up V 0 f') n m t) → MUT G X (g 6 0) (fun V' => ∃ f, wkR V hh cc m f ∧ V' = va_up V 0 f) n m t (pw G X L K I' F (va_up R (g 1 cc) f) N O) := fun I' hx => ⟨L, K, I', F, _, N, O, T, g, rfl, rfl, fun V' ⟨f', hf', e⟩ => e ▸ hx f' hf'⟩
  have hRC : ∀ f', wkR V hh cc m f' → RP (gde G) L K I F (va_up R (g 1 cc) f) N O T g (va_up V 0 f') 5 n m t := fun f' hf' => h.1.rowC (by omega) hc (fun k hk => by rw [hf k hk, hf'.1 k hk]) (fun i hi => hf'.2 i hi)
  refine z_if_le (pt := 97) C dX5_workIn_90 (by decide) (rfl : 90 + 3 = 93) (iI_le0 (by omega)).1 (fun q => mt (iI_le0 (by omega)).2 q) (fun c5 => ?_) (fun c5 => ?_)
  · have z0 : (wkV V hh (rdV V cc) m).2 = 0 := by omega
    refine z_iload C 1 rfl dX5_workIn_97 (rfl : 97 + 2 = 99) ?_
    refine z_iret C rfl dX5_workIn_99 ⟨⟨all, q1.mp c1⟩, rfl, fin I (fun f' hf' => ⟨hRC f' hf', h.2.congV (fun i j hi hj => kinV_cong (V := V) (V' := va_up V 0 f') (fun _ _ => ⟨rfl, rfl⟩) (fun i hi k hk => ?_) hi hj)⟩)⟩ (by decide) (by decide)
    show f' (24 * i + k) = V 0 (24 * i + k)
    by_cases e : i = cc
    · subst e; rw [hf'.1 k hk, r0.2 z0]; rfl
    · exact hf'.2 _ (fun k' hk' => by omega)
  refine z_aload_n C 4 rfl rfl dX5_workIn_93 (rfl : 93 + 1 = 94) ?_
  have hex : ∃ f', wkR V hh cc m f' := by
    refine ⟨fun i => if 24 * cc ≤ i ∧ i < 24 * cc + 24 then (wkV V hh (rdV V cc) m).1 (i - 24 * cc) else V 0 i, fun k hk => ?_, fun i hi => ?_⟩
    · show (if _ then _ else _) = _
      rw [if_pos ⟨by omega, by omega⟩, Nat.add_sub_cancel_left]
    · show (if _ then _ else _) = _
      by_cases c : 24 * cc ≤ i ∧ i < 24 * cc + 24
      · exact absurd (hi (i - 24 * cc) (by omega)) (by omega)
      · rw [if_neg c]
  obtain ⟨f0, hf0⟩ := hex
  have hw0 : WFV (va_up V 0 f0) n m t := hw.work hc hf0
  have hR0 := hRC f0 hf0
  refine z_callV C 2 12 (c_X5_findFamiliesAnew (hR0.cps hw0) (hR0.cpv hw0) (hR0.cpk hw0) (h.rgF hw)) gX5_workIn_X5_findFamiliesAnew rfl hd77_X5_findFamiliesAnew ⟨Nat.le_of_ble_eq_true rfl, Nat.le_of_ble_eq_true rfl⟩ (pwm_MC hR0.x8.1 hR0.x8.2.1) rfl rfl (Nat.le_of_ble_eq_true rfl) dX5_workIn_94 (rfl : 94 + 3 = 97) rfl rfl ⟨Nat.le_of_ble_eq_true rfl, Nat.le_of_ble_eq_true rfl⟩ (fun _ _ h => h.elim) ?_ rfl
  rintro _ _ ⟨rfl, fm, f1, f2, rfl⟩
  refine z_v0 ?_
  refine z_iload C 1 rfl dX5_workIn_97 (rfl : 97 + 2 = 99) ?_
  refine z_iret C rfl dX5_workIn_99 ⟨⟨all, q1.mp c1⟩, rfl, fin (va_up I 2 fm) (fun f' hf' => ⟨(hRC f' hf').famI fm, ?_⟩)⟩ (by decide) (by decide)
  have f3 : IsFam (va_up V 0 f') n (fun i => fm (g 0 i)) := f2.congV (fun i j hi hj => kinV_cong (V := va_up V 0 f0) (V' := va_up V 0 f') (fun _ _ => ⟨rfl, rfl⟩) (fun i hi k hk => by
    show f' (24 * i + k) = f0 (24 * i + k)
    by_cases e : i = cc
    · subst e; rw [hf'.1 k hk, hf0.1 k hk]
    · rw [hf'.2 _ (fun k' hk' => by omega), hf0.2 _ (fun k' hk' => by omega)]) hi hj)
  exact f3.cong (fun i hi => by rw [va_up_self])
end
