theorem lX5_slip_f32 : Cond.fieldLink RX5 32 "ModelCopies" "draft" "LModelCopies$Draft;" ∈ wsX5_slip := by decide +kernel
theorem iX5_slip_X5 : ∀ w ∈ wsX50, w ∈ wsX5_slip := by decide +kernel
theorem hd74_X1_put : yX1_put.cls = RX1 ∧ yX1_put.cls ≠ "java/lang/invoke/MethodHandle" ∧ yX1_put.cls ≠ "java/lang/invoke/VarHandle" ∧ (parseMethodDescriptor yX1_put.desc).map (fun d => d.parameters.length) = some 2 := by decide +kernel
theorem lX5_slip_f77 : Cond.fieldLink RX5 77 "ModelCopies$Draft" "filled" "I" ∈ wsX5_slip := by decide +kernel
theorem iX5_slip_X1 : ∀ w ∈ wsX10, w ∈ wsX5_slip := by decide +kernel
theorem hd74_X5_requirePlace : yX5_requirePlace.cls ≠ "java/lang/invoke/MethodHandle" ∧ yX5_requirePlace.cls ≠ "java/lang/invoke/VarHandle" ∧ (parseMethodDescriptor yX5_requirePlace.desc).map (fun d => d.parameters.length) = some 1 := by decide +kernel
theorem tX5_slip_IAE : ∀ w ∈ (vx_atS RX5 61 "java/lang/IllegalArgumentException" ["java/lang/RuntimeException", "java/lang/Exception"]).filter goodWord, w ∈ wsX5_slip := by decide +kernel
theorem lX5_slip_c57 : Cond.classLink RX5 57 "java/lang/IllegalArgumentException" ∈ wsX5_slip := by decide +kernel
theorem nX5_slip_IAE : Cond.initialized "java/lang/IllegalArgumentException" ∈ wsX5_slip := by decide +kernel
theorem hd74_X1_hasRoomAt : yX1_hasRoomAt.cls = RX1 ∧ yX1_hasRoomAt.cls ≠ "java/lang/invoke/MethodHandle" ∧ yX1_hasRoomAt.cls ≠ "java/lang/invoke/VarHandle" ∧ (parseMethodDescriptor yX1_hasRoomAt.desc).map (fun d => d.parameters.length) = some 1 := by decide +kernel
theorem tX5_slip_ISE : ∀ w ∈ (vx_atS RX5 72 "java/lang/IllegalStateException" ["java/lang/RuntimeException", "java/lang/Exception"]).filter goodWord, w ∈ wsX5_slip := by decide +kernel
theorem lX5_slip_c68 : Cond.classLink RX5 68 "java/lang/IllegalStateException" ∈ wsX5_slip := by decide +kernel
theorem nX5_slip_ISE : Cond.initialized "java/lang/IllegalStateException" ∈ wsX5_slip := by decide +kernel
theorem tX5_pass_IAE : ∀ w ∈ (vx_atS RX5 61 "java/lang/IllegalArgumentException" ["java/lang/RuntimeException", "java/lang/Exception"]).filter goodWord, w ∈ wsX5_pass := by decide +kernel
theorem lX5_pass_c57 : Cond.classLink RX5 57 "java/lang/IllegalArgumentException" ∈ wsX5_pass := by decide +kernel
theorem nX5_pass_IAE : Cond.initialized "java/lang/IllegalArgumentException" ∈ wsX5_pass := by decide +kernel
theorem lX5_pass_f36 : Cond.fieldLink RX5 36 "ModelCopies" "today" "I" ∈ wsX5_pass := by decide +kernel
theorem iX5_pass_X5 : ∀ w ∈ wsX50, w ∈ wsX5_pass := by decide +kernel
theorem tX5_pass_ISE : ∀ w ∈ (vx_atS RX5 72 "java/lang/IllegalStateException" ["java/lang/RuntimeException", "java/lang/Exception"]).filter goodWord, w ∈ wsX5_pass := by decide +kernel
theorem lX5_pass_c68 : Cond.classLink RX5 68 "java/lang/IllegalStateException" ∈ wsX5_pass := by decide +kernel
theorem nX5_pass_ISE : Cond.initialized "java/lang/IllegalStateException" ∈ wsX5_pass := by decide +kernel
theorem hd74_X5_findCopy : yX5_findCopy.cls = RX5 ∧ yX5_findCopy.cls ≠ "java/lang/invoke/MethodHandle" ∧ yX5_findCopy.cls ≠ "java/lang/invoke/VarHandle" ∧ (parseMethodDescriptor yX5_findCopy.desc).map (fun d => d.parameters.length) = some 1 := by decide +kernel
theorem lX5_tellModel_f121 : Cond.fieldLink RX5 121 "ModelCopies$Copy" "model" "LModelCopies$Copy;" ∈ wsX5_tellModel := by decide +kernel
theorem iX5_tellModel_X0 : ∀ w ∈ wsX00, w ∈ wsX5_tellModel := by decide +kernel
theorem tX5_tellModel_ISE : ∀ w ∈ (vx_atS RX5 72 "java/lang/IllegalStateException" ["java/lang/RuntimeException", "java/lang/Exception"]).filter goodWord, w ∈ wsX5_tellModel := by decide +kernel
theorem lX5_tellModel_c68 : Cond.classLink RX5 68 "java/lang/IllegalStateException" ∈ wsX5_tellModel := by decide +kernel
theorem nX5_tellModel_ISE : Cond.initialized "java/lang/IllegalStateException" ∈ wsX5_tellModel := by decide +kernel
theorem lX5_tellModel_f103 : Cond.fieldLink RX5 103 "ModelCopies$Copy" "isTold" "Z" ∈ wsX5_tellModel := by decide +kernel
theorem lX5_tellModel_f127 : Cond.fieldLink RX5 127 "ModelCopies$Copy" "family" "I" ∈ wsX5_tellModel := by decide +kernel
theorem hd74_X5_joinFamilies : yX5_joinFamilies.cls = RX5 ∧ yX5_joinFamilies.cls ≠ "java/lang/invoke/MethodHandle" ∧ yX5_joinFamilies.cls ≠ "java/lang/invoke/VarHandle" ∧ (parseMethodDescriptor yX5_joinFamilies.desc).map (fun d => d.parameters.length) = some 2 := by decide +kernel
abbrev sIOB : String := "java/lang/IndexOutOfBoundsException"
abbrev sIAE : String := "java/lang/IllegalArgumentException"
abbrev sISE : String := "java/lang/IllegalStateException"
def mxE (w0 : va_W) (E1 E2 : String) (P1 P2 : Prop) : String → va_W → Prop := fun E w => w = w0 ∧ ((E = E1 ∧ ¬ P1) ∨ (E = E2 ∧ P1 ∧ ¬ P2))
def mxE3 (w0 : va_W) (P1 P2 P3 : Prop) : String → va_W → Prop := fun E w => w = w0 ∧ ((E = sIOB ∧ ¬ P1) ∨ (E = sIAE ∧ P1 ∧ ¬ P2) ∨ (E = sISE ∧ P1 ∧ P2 ∧ ¬ P3))
def mxP (P : Prop) (ans : Int) (Q : va_W → Prop) : Option Value → va_W → Prop := fun v w => P ∧ v = some (.int (iI ans)) ∧ Q w
theorem b01_pm {x : Int} : (if x = -1 then (0 : Int) else 1) = b01 (x ≠ -1) := by
  unfold b01
  by_cases c : x = -1 <;> simp [c]
section
variable {κ : KxT} {G : GG} {base mc ms : Nat} {post : Option Value → va_W → Prop} {exc : String → va_W → Prop} {X : va_W} {L : List Nat} {K : Nat → Nat} {I : Nat → Nat → Int} {F : Nat → Nat → Option Nat} {R : Nat → Nat → Int} {N : Nat → Nat} {O : Nat → Nat → Option Nat} {l : Launch}
variable {n m t : Nat} {T : Nat → Nat} {g : Nat → Nat → Nat} {V : Nat → Nat → Int}
theorem RX.isDr (h : RX (gde G) L K I F R N O T g V n m t) (hw : WFV V n m t) : rgD (R (g 6 3)) := fun k hk => by
  rw [show R (g 6 3) k = V 6 k from h.1.2.2.2.2.2.2.1 k hk]
  exact hw.2.2.2.2.2.2.1 k hk
abbrev rmX5_slip : Room := { frames := 7, cells := 2, slots := 12, locals := 140 }
theorem tl_X5_slip (C : Cx κ cX5_slip 3 wsX5_slip RX5 (some .int) rmX5_slip G base) {p : Nat} {r : Int} (hp : p < 24) (hr : -1 ≤ r ∧ r ≤ 9) (h : RX (gde G) L K I F R N O T g V n m t) (hw : WFV V n m t) (kk : ∀ w, MUT G X (g 6 0) (fun V' => V' = nsSlip V p r) n m t w → post (some (.int (iI (nsSlip V p r 7 0)))) w) (hc : 1 ≤ mc) (hs : 6 ≤ ms) : Z κ 3 G base mc ms post exc 1 6 51 [(0, .ref (g 6 0)), (1, .int (iI (p : Int))), (2, .int (iI r))] [] (pw G X L K I F R N O) := by
  have hn := hw.2.1
  have hD := h.1.isD
  refine z_aload_n C 0 rfl rfl dX5_slip_51 (rfl : 51 + 1 = 52) ?_
  refine z_get C (pwm_MC h.1.x13.1 h.1.x13.2.1) rfl iX5_slip_X5 5 (by decide) lX5_slip_f32 rfl rfl dX5_slip_52 (rfl : 52 + 3 = 55) ?_
  rw [h.1.x13.2.2]
  refine z_iload_n C 1 rfl rfl dX5_slip_55 (rfl : 55 + 1 = 56) ?_
  refine z_iload_n C 2 rfl rfl dX5_slip_56 (rfl : 56 + 1 = 57) ?_
  refine z_callV C 1 6 (c_X1_put hD (h.isDr hw) hp hr) gX5_slip_X1_put rfl hd74_X1_put ⟨Nat.le_of_ble_eq_true rfl, Nat.le_of_ble_eq_true rfl⟩ (pwm_Draft hD.1 hD.2.1) rfl rfl (Nat.le_of_ble_eq_true rfl) dX5_slip_57 (rfl : 57 + 3 = 60) rfl rfl ⟨Nat.le_of_ble_eq_true rfl, Nat.le_of_ble_eq_true rfl⟩ (fun _ _ h => h.elim) ?_ rfl
  rintro _ _ ⟨rfl, rfl⟩
  refine z_v0 ?_
  have ez : I 3 (g 6 2) + ((if r = -1 then 0 else 1) - (if R (g 6 3) p = -1 then 0 else 1)) = V 7 0 + (b01 (r ≠ -1) - b01 (V 6 p ≠ -1)) := by
    rw [show I 3 (g 6 2) = V 7 0 from h.1.2.2.2.2.2.1, show R (g 6 3) p = V 6 p from h.1.2.2.2.2.2.2.1 p hp, b01_pm, b01_pm]
  rw [ez]
  have h2 : RX (gde G) L K (up2 I 3 (g 6 2) (V 7 0 + (b01 (r ≠ -1) - b01 (V 6 p ≠ -1)))) F (up2 R (g 6 3) p r) N O T g (nsSlip V p r) n m t := by
    refine ⟨(h.1.filled _).rowD (f := va_up (R (g 6 3)) p r) (f' := va_up (V 6) p r) (by omega) (fun k hk => ?_), h.2.congV (fun _ _ hi hj => kinV_cong (fun _ _ => ⟨rfl, rfl⟩) (fun _ _ _ _ => rfl) hi hj)⟩
    by_cases e : k = p
    · subst e; rw [va_up_self, va_up_self]
    · rw [va_up_ne _ _ e, va_up_ne _ _ e]; exact h.1.2.2.2.2.2.2.1 k hk
  refine z_aload_n C 0 rfl rfl dX5_slip_60 (rfl : 60 + 1 = 61) ?_
  refine z_get C (pwm_MC h2.1.x13.1 h2.1.x13.2.1) rfl iX5_slip_X5 5 (by decide) lX5_slip_f32 rfl rfl dX5_slip_61 (rfl : 61 + 3 = 64) ?_
  rw [h2.1.x13.2.2]
  refine z_get C (pwm_Draft h2.1.isD.1 h2.1.isD.2.1) rfl iX5_slip_X1 1 (by decide) lX5_slip_f77 rfl rfl dX5_slip_64 (rfl : 64 + 3 = 67) ?_
  refine z_topi (y := iI (nsSlip V p r 7 0)) (congrArg iI h2.1.2.2.2.2.2.1) ?_
  exact z_iret C rfl dX5_slip_67 (kk _ ⟨L, K, _, F, _, N, O, T, g, rfl, rfl, fun _ e => e ▸ h2⟩) hc hs
theorem c_X5_slip {p r : Int} (hp : -2147483648 ≤ p ∧ p < 2147483648) (hr : -2147483648 ≤ r ∧ r < 2147483648) (h : RX (gde G) L K I F R N O T g V n m t) (hw : WFV V n m t) : MC l yX5_slip wsX5_slip rmX5_slip G base [.ref (g 6 0), .int (iI p), .int (iI r)] (pw G X L K I F R N O) (mxP ((0 ≤ p ∧ p < 24) ∧ (-1 ≤ r ∧ r ≤ 9) ∧ okSlip V p r) (nsSlip V p.toNat r 7 0) (MUT G X (g 6 0) (fun V' => V' = nsSlip V p.toNat r) n m t)) (mxE3 (pw G X L K I F R N O) (0 ≤ p ∧ p < 24) (-1 ≤ r ∧ r ≤ 9) (okSlip V p r)) := by
  refine MC.of (cc := cX5_slip) (by decide) rfl rfl (Nat.le_of_ble_eq_true rfl) ?_
  intro κ C hT hl hnm
  have hn := hw.2.1
  refine z_sub [0, 1, 2] (lv' := [(0, .ref (g 6 0)), (1, .int (iI p)), (2, .int (iI r))]) rfl ?_
  refine z_iload_n C 1 rfl rfl dX5_slip_0 (rfl : 0 + 1 = 1) ?_
  refine z_callS C 1 6 (c_X5_requirePlace hp) gX5_slip_X5_requirePlace rfl hd74_X5_requirePlace ⟨Nat.le_of_ble_eq_true rfl, Nat.le_of_ble_eq_true rfl⟩ rfl (Nat.le_of_ble_eq_true rfl) dX5_slip_1 (rfl : 1 + 3 = 4) rfl rfl ⟨Nat.le_of_ble_eq_true rfl, Nat.le_of_ble_eq_true rfl⟩ (fun E w h => z_out C hT ⟨h.2.1, .inl ⟨h.1, h.2.2⟩⟩ (by decide) (by decide)) ?_ rfl
  rintro _ _ ⟨rfl, rfl, hp2⟩
  refine z_v0 ?_
  obtain ⟨q, rfl⟩ : ∃ q : Nat, p = (q : Int) := ⟨p.toNat, by omega⟩
  refine z_iload_n C 2 rfl rfl dX5_slip_4 (rfl : 4 + 1 = 5) ?_
  refine z_iconst C dX5_slip_5 (rfl : 5 + 1 = 6) ?_
  refine z_icmp_lt (pt := 15) C dX5_slip_6 (by decide) (rfl : 6 + 3 = 9) (iI_lt (by omega) (by omega)).1 (fun q => mt (iI_lt (by omega) (by omega)).2 q) (fun c1 => ?_) (fun c1 => ?_)
  · exact z_throw C hT rfl lX5_slip_c57 nX5_slip_IAE (List.mem_of_getElem? (i := 1) rfl) tX5_slip_IAE thN_IAE thG_IAE dX5_slip_15 dX5_slip_18 dX5_slip_19 dX5_slip_21 dX5_slip_24 (by decide) (Nat.le_of_ble_eq_true rfl) (by decide) (by decide) (by decide) (by decide) ⟨rfl, .inr (.inl ⟨rfl, hp2, by omega⟩)⟩
  refine z_iload_n C 2 rfl rfl dX5_slip_9 (rfl : 9 + 1 = 10) ?_
  refine z_bipush (c := 10) C (by decide) dX5_slip_10 (rfl : 10 + 2 = 12) ?_
  refine z_icmp_lt (pt := 25) C dX5_slip_12 (by decide) (rfl : 12 + 3 = 15) (iI_lt (by omega) (by omega)).1 (fun q => mt (iI_lt (by omega) (by omega)).2 q) (fun c2 => ?_) (fun c2 => ?_)
  rotate_left
  · exact z_throw C hT rfl lX5_slip_c57 nX5_slip_IAE (List.mem_of_getElem? (i := 1) rfl) tX5_slip_IAE thN_IAE thG_IAE dX5_slip_15 dX5_slip_18 dX5_slip_19 dX5_slip_21 dX5_slip_24 (by decide) (Nat.le_of_ble_eq_true rfl) (by decide) (by decide) (by decide) (by decide) ⟨rfl, .inr (.inl ⟨rfl, hp2, by omega⟩)⟩
  have hr2 : -1 ≤ r ∧ r ≤ 9 := ⟨by omega, by omega⟩
  refine z_iload_n C 2 rfl rfl dX5_slip_25 (rfl : 25 + 1 = 26) ?_
  refine z_iconst C dX5_slip_26 (rfl : 26 + 1 = 27) ?_
  refine z_icmp_eq (pt := 51) C dX5_slip_27 (by decide) (rfl : 27 + 3 = 30) (iI_eq (by omega) (by omega)).1 (fun q => mt (iI_eq (by omega) (by omega)).2 q) (fun c3 => ?_) (fun c3 => ?_)
  · exact tl_X5_slip C (by omega) hr2 h hw (fun w hm => ⟨⟨hp2, hr2, .inl c3⟩, rfl, hm⟩) (by decide) (by decide)
  refine z_aload_n C 0 rfl rfl dX5_slip_30 (rfl : 30 + 1 = 31) ?_
  refine z_get C (pwm_MC h.1.x13.1 h.1.x13.2.1) rfl iX5_slip_X5 5 (by decide) lX5_slip_f32 rfl rfl dX5_slip_31 (rfl : 31 + 3 = 34) ?_
  rw [h.1.x13.2.2]
  refine z_iload_n C 1 rfl rfl dX5_slip_34 (rfl : 34 + 1 = 35) ?_
  refine z_callV C 1 6 (c_X1_hasRoomAt (i := q) h.1.isD (h.isDr hw) (by omega)) gX5_slip_X1_hasRoomAt rfl hd74_X1_hasRoomAt ⟨Nat.le_of_ble_eq_true rfl, Nat.le_of_ble_eq_true rfl⟩ (pwm_Draft h.1.isD.1 h.1.isD.2.1) rfl rfl (Nat.le_of_ble_eq_true rfl) dX5_slip_35 (rfl : 35 + 3 = 38) rfl rfl ⟨Nat.le_of_ble_eq_true rfl, Nat.le_of_ble_eq_true rfl⟩ (fun _ _ h => h.elim) ?_ rfl
  rintro _ _ ⟨rfl, rfl⟩
  refine z_v1 ?_
  rw [show I 3 (g 6 2) = V 7 0 from h.1.2.2.2.2.2.1, show R (g 6 3) q = V 6 q from h.1.2.2.2.2.2.2.1 q (by omega)]
  refine z_if_ne (pt := 51) C dX5_slip_38 (by decide) (rfl : 38 + 3 = 41) (fun q => mt (iI_eq0 (by split <;> omega)).2 q) (iI_eq0 (by split <;> omega)).1 (fun c4 => ?_) (fun c4 => ?_)
  · refine tl_X5_slip C (by omega) hr2 h hw (fun w hm => ⟨⟨hp2, hr2, ?_⟩, rfl, hm⟩) (by decide) (by decide)
    by_cases o : iI (V 7 0) < iI 6 ∨ V 6 q ≠ -1
    · exact o.elim (fun a => .inr (.inr a)) (fun a => .inr (.inl a))
    · rw [if_neg o] at c4; exact absurd rfl c4
  · have hno : ¬ okSlip V (q : Int) r := fun o => by
      have hq : iI (V 7 0) < iI 6 ∨ V 6 q ≠ -1 := by
        rcases o with a | a | a
        · exact absurd a c3
        · exact .inr a
        · exact .inl a
      rw [if_pos hq] at c4
      exact absurd c4 (by decide)
    exact z_throw C hT rfl lX5_slip_c68 nX5_slip_ISE (List.mem_of_getElem? (i := 2) rfl) tX5_slip_ISE thN_ISE thG_ISE dX5_slip_41 dX5_slip_44 dX5_slip_45 dX5_slip_47 dX5_slip_50 (by decide) (Nat.le_of_ble_eq_true rfl) (by decide) (by decide) (by decide) (by decide) ⟨rfl, .inr (.inr ⟨rfl, hp2, hr2, hno⟩)⟩
abbrev rmX5_pass : Room := { frames := 6, cells := 1, slots := 6, locals := 100 }
theorem c_X5_pass {z : Int} (hz : -2147483648 ≤ z ∧ z < 2147483648) (h : RX (gde G) L K I F R N O T g V n m t) (hw : WFV V n m t) : MC l yX5_pass wsX5_pass rmX5_pass G base [.ref (g 6 0), .int (iI z)] (pw G X L K I F R N O) (mxP ((1 ≤ z ∧ z ≤ 200) ∧ V 9 0 + z ≤ 2000) (V 9 0 + z) (MUT G X (g 6 0) (fun V' => V' = up2 V 9 0 (V 9 0 + z)) n m t)) (mxE (pw G X L K I F R N O) sIAE sISE (1 ≤ z ∧ z ≤ 200) (V 9 0 + z ≤ 2000)) := by
  refine MC.of (cc := cX5_pass) (by decide) rfl rfl (Nat.le_of_ble_eq_true rfl) ?_
  intro κ C hT hl hnm
  have hd := hw.2.2.2.2.2.2.2.2.2.2.2
  refine z_sub [0, 1] (lv' := [(0, .ref (g 6 0)), (1, .int (iI z))]) rfl ?_
  refine z_iload_n C 1 rfl rfl dX5_pass_0 (rfl : 0 + 1 = 1) ?_
  refine z_iconst C dX5_pass_1 (rfl : 1 + 1 = 2) ?_
  refine z_icmp_lt (pt := 12) C dX5_pass_2 (by decide) (rfl : 2 + 3 = 5) (iI_lt (by omega) (by omega)).1 (fun q => mt (iI_lt (by omega) (by omega)).2 q) (fun c1 => ?_) (fun c1 => ?_)
  · exact z_throw C hT rfl lX5_pass_c57 nX5_pass_IAE (List.mem_of_getElem? (i := 9) rfl) tX5_pass_IAE thN_IAE thG_IAE dX5_pass_12 dX5_pass_15 dX5_pass_16 dX5_pass_18 dX5_pass_21 (by decide) (Nat.le_of_ble_eq_true rfl) (by decide) (by decide) (by decide) (by decide) ⟨rfl, .inl ⟨rfl, by omega⟩⟩
  refine z_iload_n C 1 rfl rfl dX5_pass_5 (rfl : 5 + 1 = 6) ?_
  refine z_sipush (c := 200) C (by decide) dX5_pass_6 (rfl : 6 + 3 = 9) ?_
  refine z_icmp_le (pt := 22) C dX5_pass_9 (by decide) (rfl : 9 + 3 = 12) (iI_le (by omega) (by omega)).1 (fun q => mt (iI_le (by omega) (by omega)).2 q) (fun c2 => ?_) (fun c2 => ?_)
  rotate_left
  · exact z_throw C hT rfl lX5_pass_c57 nX5_pass_IAE (List.mem_of_getElem? (i := 9) rfl) tX5_pass_IAE thN_IAE thG_IAE dX5_pass_12 dX5_pass_15 dX5_pass_16 dX5_pass_18 dX5_pass_21 (by decide) (Nat.le_of_ble_eq_true rfl) (by decide) (by decide) (by decide) (by decide) ⟨rfl, .inl ⟨rfl, by omega⟩⟩
  refine z_aload_n C 0 rfl rfl dX5_pass_22 (rfl : 22 + 1 = 23) ?_
  refine z_get C (pwm_MC h.1.x13.1 h.1.x13.2.1) rfl iX5_pass_X5 6 (by decide) lX5_pass_f36 rfl rfl dX5_pass_23 (rfl : 23 + 3 = 26) ?_
  rw [show I 14 (g 6 0) = V 9 0 from h.1.2.2.2.1]
  refine z_iload_n C 1 rfl rfl dX5_pass_26 (rfl : 26 + 1 = 27) ?_
  refine z_iadd C dX5_pass_27 (rfl : 27 + 1 = 28) rfl ?_
  refine z_sipush (c := 2000) C (by decide) dX5_pass_28 (rfl : 28 + 3 = 31) ?_
  refine z_icmp_le (pt := 44) C dX5_pass_31 (by decide) (rfl : 31 + 3 = 34) (iI_le (by omega) (by omega)).1 (fun q => mt (iI_le (by omega) (by omega)).2 q) (fun c3 => ?_) (fun c3 => ?_)
  rotate_left
  · exact z_throw C hT rfl lX5_pass_c68 nX5_pass_ISE (List.mem_of_getElem? (i := 10) rfl) tX5_pass_ISE thN_ISE thG_ISE dX5_pass_34 dX5_pass_37 dX5_pass_38 dX5_pass_40 dX5_pass_43 (by decide) (Nat.le_of_ble_eq_true rfl) (by decide) (by decide) (by decide) (by decide) ⟨rfl, .inr ⟨rfl, ⟨by omega, by omega⟩, by omega⟩⟩
  refine z_aload_n C 0 rfl rfl dX5_pass_44 (rfl : 44 + 1 = 45) ?_
  refine z_dup C rfl dX5_pass_45 (rfl : 45 + 1 = 46) ?_
  refine z_get C (pwm_MC h.1.x13.1 h.1.x13.2.1) rfl iX5_pass_X5 6 (by decide) lX5_pass_f36 rfl rfl dX5_pass_46 (rfl : 46 + 3 = 49) ?_
  rw [show I 14 (g 6 0) = V 9 0 from h.1.2.2.2.1]
  refine z_iload_n C 1 rfl rfl dX5_pass_49 (rfl : 49 + 1 = 50) ?_
  refine z_iadd C dX5_pass_50 (rfl : 50 + 1 = 51) rfl ?_
  refine z_put C tyX5 tyX5_ok nmX5 (pwm_MC h.1.x13.1 h.1.x13.2.1) rfl iX5_pass_X5 6 (by decide) lX5_pass_f36 rfl rfl rfl rfl rfl (Nat.le_of_ble_eq_true rfl) dX5_pass_51 (rfl : 51 + 3 = 54) (pws_MC_today h.1.x13.1 h.1.x13.2.1) ?_
  have h2 : RX (gde G) L K (up2 I 14 (g 6 0) (V 9 0 + z)) F R N O T g (up2 V 9 0 (V 9 0 + z)) n m t := ⟨h.1.today _, h.2.congV (fun _ _ hi hj => kinV_cong (fun _ _ => ⟨rfl, rfl⟩) (fun _ _ _ _ => rfl) hi hj)⟩
  refine z_aload_n C 0 rfl rfl dX5_pass_54 (rfl : 54 + 1 = 55) ?_
  refine z_get C (pwm_MC h2.1.x13.1 h2.1.x13.2.1) rfl iX5_pass_X5 6 (by decide) lX5_pass_f36 rfl rfl dX5_pass_55 (rfl : 55 + 3 = 58) ?_
  rw [up2_at]
  exact z_iret C rfl dX5_pass_58 ⟨⟨⟨by omega, by omega⟩, c3⟩, rfl, L, K, _, F, R, N, O, T, g, rfl, rfl, fun _ e => e ▸ h2⟩ (by decide) (by decide)
theorem kinV_tell {a b : Nat} (ha : a < n) (h2 : V 2 a = 0) (h1 : V 1 a = (b : Int)) {i j : Nat} : kinV (up2 V 2 a 1) i j = true ↔ kinV V i j = true ∨ (i = a ∧ j = b) ∨ (i = b ∧ j = a) := by
  have es : shV (up2 V 2 a 1) i j = shV V i j := rfl
  have e1 : (up2 V 2 a 1) 1 = V 1 := rfl
  unfold kinV
  rw [es, e1]
  simp only [Bool.or_eq_true, decide_eq_true_eq]
  by_cases ci : i = a
  · subst ci
    rw [up2_at]
    by_cases cj : j = i
    · subst cj; rw [up2_at]; omega
    · rw [up2_ne _ _ (fun q => cj q.2)]; omega
  · rw [up2_ne _ _ (fun q => ci q.2)]
    by_cases cj : j = a
    · subst cj; rw [up2_at]; omega
    · rw [up2_ne _ _ (fun q => cj q.2)]; omega
theorem RX.tell {a b : Nat} {f : Nat → Int} (h : RX (gde G) L K I F R N O T g V n m t) (hw : WFV V n m t) (ha : a < n) (hb : b < n) (h2 : V 2 a = 0) (h1 : V 1 a = (b : Int)) (hf : ∀ k, k < n → f (g 0 k) = jnF (I 2 (g 0 a)) (I 2 (g 0 b)) (fun k => I 2 (g 0 k)) k) : RX (gde G) L K (va_up (up2 I 1 (g 0 a) 1) 2 f) F R N O T g (up2 V 2 a 1) n m t := by
  have hn := hw.2.1
  refine ⟨(h.1.setTold (by omega) ha 1).famI f, ?_⟩
  have q : IsFam (up2 V 2 a 1) n (jnF (I 2 (g 0 a)) (I 2 (g 0 b)) (fun k => I 2 (g 0 k))) := IsFam.tell (f := fun k => I 2 (g 0 k)) h.2 ha hb rfl (fun i j hi hj => kinV_tell ha h2 h1)
  exact q.cong (fun i hi => by rw [va_up_self]; exact (hf i hi).symm)
abbrev rmX5_tellModel : Room := { frames := 7, cells := 2, slots := 12, locals := 140 }
theorem c_X5_tellModel {z : Int} (hz : -2147483648 ≤ z ∧ z < 2147483648) (h : RX (gde G) L K I F R N O T g V n m t) (hw : WFV V n m t) : MC l yX5_tellModel wsX5_tellModel rmX5_tellModel G base [.ref (g 6 0), .int (iI z)] (pw G X L K I F R N O) (fun v w => (0 ≤ z ∧ z < n) ∧ (0 < z ∧ V 2 z.toNat = 0) ∧ ∃ f : Nat → Int, IsFam (up2 V 2 z.toNat 1) n f ∧ v = some (.int (iI (f z.toNat))) ∧ MUT G X (g 6 0) (fun V' => V' = up2 V 2 z.toNat 1) n m t w) (mxE (pw G X L K I F R N O) sIOB sISE (0 ≤ z ∧ z < n) (0 < z ∧ V 2 z.toNat = 0)) := by
  refine MC.of (cc := cX5_tellModel) (by decide) rfl rfl (Nat.le_of_ble_eq_true rfl) ?_
  intro κ C hT hl hnm
  have hn := hw.2.1
  refine z_sub [0, 1] (lv' := [(0, .ref (g 6 0)), (1, .int (iI z))]) rfl ?_
  refine z_aload_n C 0 rfl rfl dX5_tellModel_0 (rfl : 0 + 1 = 1) ?_
  refine z_iload_n C 1 rfl rfl dX5_tellModel_1 (rfl : 1 + 1 = 2) ?_
  refine z_callV C 1 6 (c_X5_findCopy (rA := g 1) hz h.1.x9 h.1.l1 (by omega) (fun i hi => h.1.isC hi)) gX5_tellModel_X5_findCopy rfl hd74_X5_findCopy ⟨Nat.le_of_ble_eq_true rfl, Nat.le_of_ble_eq_true rfl⟩ (pwm_MC h.1.x8.1 h.1.x8.2.1) rfl rfl (Nat.le_of_ble_eq_true rfl) dX5_tellModel_2 (rfl : 2 + 3 = 5) rfl rfl ⟨Nat.le_of_ble_eq_true rfl, Nat.le_of_ble_eq_true rfl⟩ (fun E w h => z_out C hT ⟨h.2.1, .inl ⟨h.1, h.2.2⟩⟩ (by decide) (by decide)) ?_ rfl
  rintro _ _ ⟨rfl, i, rfl, hi, rfl⟩
  refine z_v1 ?_
  refine z_astore_n (lv' := [(2, _), (0, _), (1, _)]) C rfl dX5_tellModel_5 (rfl : 5 + 1 = 6) (by decide) rfl ?_
  refine z_aload_n C 0 rfl rfl dX5_tellModel_6 (rfl : 6 + 1 = 7) ?_
  have mC := pwm_Copy (G := G) (X := X) (I := I) (F := F) (R := R) (N := N) (O := O) (h.1.g0 hi).1 (h.1.g0 hi).2
  refine z_get C mC rfl iX5_tellModel_X0 1 (by decide) lX5_tellModel_f121 rfl rfl dX5_tellModel_7 (rfl : 7 + 3 = 10) ?_
  rw [(h.1.2.1.2.2.2.1 i hi).2.2.2.1]
  by_cases c0 : i = 0
  · have e1 : V 1 i = -1 := by subst c0; exact hw.2.2.2.1.1
    rw [if_pos e1]
    refine z_ifnullN (pc' := 20) C dX5_tellModel_10 (by decide) ?_
    exact z_throw C hT rfl lX5_tellModel_c68 nX5_tellModel_ISE (List.mem_of_getElem? (i := 8) rfl) tX5_tellModel_ISE thN_ISE thG_ISE dX5_tellModel_20 dX5_tellModel_23 dX5_tellModel_24 dX5_tellModel_26 dX5_tellModel_29 (by decide) (Nat.le_of_ble_eq_true rfl) (by decide) (by decide) (by decide) (by decide) ⟨rfl, .inr ⟨rfl, ⟨by omega, by omega⟩, by omega⟩⟩
  have hm := hw.2.2.2.1.2 i (by omega) hi
  rw [if_neg (show ¬ V 1 i = -1 by omega)]
  obtain ⟨b, eb⟩ : ∃ b : Nat, V 1 i = (b : Int) := ⟨(V 1 i).toNat, by omega⟩
  have hb : b < n := by omega
  have ebn : (V 1 i).toNat = b := by omega
  have h22 := hw.2.2.2.2.1.2 i (by omega)
  refine z_ifnull C  dX5_tellModel_10 (rfl : 10 + 3 = 13) ?_
  refine z_aload_n C 0 rfl rfl dX5_tellModel_13 (rfl : 13 + 1 = 14) ?_
  refine z_get C mC rfl iX5_tellModel_X0 5 (by decide) lX5_tellModel_f103 rfl rfl dX5_tellModel_14 (rfl : 14 + 3 = 17) ?_
  rw [h.1.told hi]
  refine z_if_eq (pt := 30) C dX5_tellModel_17 (by decide) (rfl : 17 + 3 = 20) (iI_eq0 (by omega)).1 (fun q => mt (iI_eq0 (by omega)).2 q) (fun c1 => ?_) (fun c1 => ?_)
  rotate_left
  · exact z_throw C hT rfl lX5_tellModel_c68 nX5_tellModel_ISE (List.mem_of_getElem? (i := 8) rfl) tX5_tellModel_ISE thN_ISE thG_ISE dX5_tellModel_20 dX5_tellModel_23 dX5_tellModel_24 dX5_tellModel_26 dX5_tellModel_29 (by decide) (Nat.le_of_ble_eq_true rfl) (by decide) (by decide) (by decide) (by decide) ⟨rfl, .inr ⟨rfl, ⟨by omega, by omega⟩, fun q => c1 q.2⟩⟩
  refine z_aload_n C 0 rfl rfl dX5_tellModel_30 (rfl : 30 + 1 = 31) ?_
  refine z_iconst C dX5_tellModel_31 (rfl : 31 + 1 = 32) ?_
  refine z_put C tyX0 tyX0_ok nmX0 mC rfl iX5_tellModel_X0 5 (by decide) lX5_tellModel_f103 rfl rfl rfl (iI_bool (.inr rfl)) (iI_fitb (.inr rfl)) (Nat.le_of_ble_eq_true rfl) dX5_tellModel_32 (rfl : 32 + 3 = 35) (pws_Copy_isTold (h.1.g0 hi).1 (h.1.g0 hi).2) ?_
  have h3 : RP (gde G) L K (up2 I 1 (g 0 i) 1) F R N O T g (up2 V 2 i 1) 5 n m t := h.1.setTold (by omega) hi 1
  have hw3 : WFV (up2 V 2 i 1) n m t := hw.tell (by omega)
  have mC3 := pwm_Copy (G := G) (X := X) (I := up2 I 1 (g 0 i) 1) (F := F) (R := R) (N := N) (O := O) (h.1.g0 hi).1 (h.1.g0 hi).2
  refine z_aload_n C 1 rfl rfl dX5_tellModel_35 (rfl : 35 + 1 = 36) ?_
  refine z_aload_n C 0 rfl rfl dX5_tellModel_36 (rfl : 36 + 1 = 37) ?_
  refine z_get C mC3 rfl iX5_tellModel_X0 6 (by decide) lX5_tellModel_f127 rfl rfl dX5_tellModel_37 (rfl : 37 + 3 = 40) ?_
  refine z_aload_n C 0 rfl rfl dX5_tellModel_40 (rfl : 40 + 1 = 41) ?_
  refine z_get C mC3 rfl iX5_tellModel_X0 1 (by decide) lX5_tellModel_f121 rfl rfl dX5_tellModel_41 (rfl : 41 + 3 = 44) ?_
  rw [(h3.2.1.2.2.2.1 i hi).2.2.2.1, show up2 V 2 i 1 1 i = V 1 i from rfl, if_neg (show ¬ V 1 i = -1 by omega), ebn]
  refine z_get C (pwm_Copy (h.1.g0 hb).1 (h.1.g0 hb).2) rfl iX5_tellModel_X0 6 (by decide) lX5_tellModel_f127 rfl rfl dX5_tellModel_44 (rfl : 44 + 3 = 47) ?_
  have r1 := h.rgF hw i hi
  have r2 := h.rgF hw b hb
  refine z_callV C 1 6 (c_X5_joinFamilies (I := up2 I 1 (g 0 i) 1) (h3.cps hw3) (h.rgF hw) r1 r2) gX5_tellModel_X5_joinFamilies rfl hd74_X5_joinFamilies ⟨Nat.le_of_ble_eq_true rfl, Nat.le_of_ble_eq_true rfl⟩ (pwm_MC h.1.x8.1 h.1.x8.2.1) rfl rfl (Nat.le_of_ble_eq_true rfl) dX5_tellModel_47 (rfl : 47 + 3 = 50) rfl rfl ⟨Nat.le_of_ble_eq_true rfl, Nat.le_of_ble_eq_true rfl⟩ (fun _ _ h => h.elim) ?_ rfl
  rintro _ _ ⟨rfl, f, hf, rfl⟩
  refine z_v0 ?_
  have h4 : RX (gde G) L K (va_up (up2 I 1 (g 0 i) 1) 2 f) F R N O T g (up2 V 2 i 1) n m t := h.tell hw hi hb c1 eb hf
  refine z_aload_n C 0 rfl rfl dX5_tellModel_50 (rfl : 50 + 1 = 51) ?_
  refine z_get C (pwm_Copy (h4.1.g0 hi).1 (h4.1.g0 hi).2) rfl iX5_tellModel_X0 6 (by decide) lX5_tellModel_f127 rfl rfl dX5_tellModel_51 (rfl : 51 + 3 = 54) ?_
  exact z_iret C rfl dX5_tellModel_54 ⟨⟨by omega, by omega⟩, ⟨by omega, c1⟩, _, h4.2, rfl, L, K, _, F, R, N, O, T, g, rfl, rfl, fun _ e => e ▸ h4⟩ (by decide) (by decide)
end
