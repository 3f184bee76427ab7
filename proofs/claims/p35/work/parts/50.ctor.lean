theorem lX0_init_m3 : Cond.methodLink RX0 3 objectInit ∈ wsX0_init := by decide +kernel
theorem vX0_init_oi : Cond.instanceMethod objectInit ∈ wsX0_init := by decide +kernel
theorem cX0_init_oi : Cond.code objectInit ⟨#[0xb1]⟩ 1 none ∈ wsX0_init := by decide +kernel
theorem arX0_init_int : Cond.arrayClass (newarray.typeOf .int) ∈ wsX0_init := by decide +kernel
theorem lX0_init_f9 : Cond.fieldLink RX0 9 "ModelCopies$Copy" "readings" "[I" ∈ wsX0_init := by decide +kernel
theorem iX0_init_X0 : ∀ w ∈ wsX00, w ∈ wsX0_init := by decide +kernel
theorem lX0_init_f15 : Cond.fieldLink RX0 15 "ModelCopies$Copy" "isTold" "Z" ∈ wsX0_init := by decide +kernel
theorem lX0_init_f19 : Cond.fieldLink RX0 19 "ModelCopies$Copy" "number" "I" ∈ wsX0_init := by decide +kernel
theorem lX0_init_f23 : Cond.fieldLink RX0 23 "ModelCopies$Copy" "model" "LModelCopies$Copy;" ∈ wsX0_init := by decide +kernel
theorem lX0_init_f27 : Cond.fieldLink RX0 27 "ModelCopies$Copy" "owner" "LModelCopies$House;" ∈ wsX0_init := by decide +kernel
theorem lX0_init_f31 : Cond.fieldLink RX0 31 "ModelCopies$Copy" "house" "LModelCopies$House;" ∈ wsX0_init := by decide +kernel
theorem lX0_init_f34 : Cond.fieldLink RX0 34 "ModelCopies$Copy" "family" "I" ∈ wsX0_init := by decide +kernel
theorem lX0_init_m37 : Cond.methodLink RX0 37 arraycopyName ∈ wsX0_init := by decide +kernel
theorem ntX0_init_ac : Cond.native arraycopyName ∈ wsX0_init := by decide +kernel
theorem stX0_init_ac : Cond.static arraycopyName ∈ wsX0_init := by decide +kernel
theorem nX0_init_Sys : Cond.initialized "java/lang/System" ∈ wsX0_init := by decide +kernel
theorem lX1_init_m3 : Cond.methodLink RX1 3 objectInit ∈ wsX1_init := by decide +kernel
theorem vX1_init_oi : Cond.instanceMethod objectInit ∈ wsX1_init := by decide +kernel
theorem cX1_init_oi : Cond.code objectInit ⟨#[0xb1]⟩ 1 none ∈ wsX1_init := by decide +kernel
theorem arX1_init_int : Cond.arrayClass (newarray.typeOf .int) ∈ wsX1_init := by decide +kernel
theorem lX1_init_f9 : Cond.fieldLink RX1 9 "ModelCopies$Draft" "readings" "[I" ∈ wsX1_init := by decide +kernel
theorem iX1_init_X1 : ∀ w ∈ wsX10, w ∈ wsX1_init := by decide +kernel
theorem lX1_init_f15 : Cond.fieldLink RX1 15 "ModelCopies$Draft" "filled" "I" ∈ wsX1_init := by decide +kernel
theorem hd50_J7_fill_53178 : yJ7_fill_53178.cls ≠ "java/lang/invoke/MethodHandle" ∧ yJ7_fill_53178.cls ≠ "java/lang/invoke/VarHandle" ∧ (parseMethodDescriptor yJ7_fill_53178.desc).map (fun d => d.parameters.length) = some 2 := by decide +kernel
theorem lX2_init_m3 : Cond.methodLink RX2 3 objectInit ∈ wsX2_init := by decide +kernel
theorem vX2_init_oi : Cond.instanceMethod objectInit ∈ wsX2_init := by decide +kernel
theorem cX2_init_oi : Cond.code objectInit ⟨#[0xb1]⟩ 1 none ∈ wsX2_init := by decide +kernel
theorem arX2_init_boolean : Cond.arrayClass (newarray.typeOf .boolean) ∈ wsX2_init := by decide +kernel
theorem lX2_init_f9 : Cond.fieldLink RX2 9 "ModelCopies$House" "held" "[Z" ∈ wsX2_init := by decide +kernel
theorem iX2_init_X2 : ∀ w ∈ wsX20, w ∈ wsX2_init := by decide +kernel
theorem lX2_init_f15 : Cond.fieldLink RX2 15 "ModelCopies$House" "coins" "I" ∈ wsX2_init := by decide +kernel
theorem lX2_init_f19 : Cond.fieldLink RX2 19 "ModelCopies$House" "laidDown" "I" ∈ wsX2_init := by decide +kernel
theorem lX2_init_f22 : Cond.fieldLink RX2 22 "ModelCopies$House" "number" "I" ∈ wsX2_init := by decide +kernel
theorem lX3_init_m3 : Cond.methodLink RX3 3 objectInit ∈ wsX3_init := by decide +kernel
theorem vX3_init_oi : Cond.instanceMethod objectInit ∈ wsX3_init := by decide +kernel
theorem cX3_init_oi : Cond.code objectInit ⟨#[0xb1]⟩ 1 none ∈ wsX3_init := by decide +kernel
theorem lX3_init_f9 : Cond.fieldLink RX3 9 "ModelCopies$Letter" "place" "I" ∈ wsX3_init := by decide +kernel
theorem iX3_init_X3 : ∀ w ∈ wsX30, w ∈ wsX3_init := by decide +kernel
theorem lX3_init_f15 : Cond.fieldLink RX3 15 "ModelCopies$Letter" "was" "I" ∈ wsX3_init := by decide +kernel
theorem lX3_init_f18 : Cond.fieldLink RX3 18 "ModelCopies$Letter" "now" "I" ∈ wsX3_init := by decide +kernel
theorem lX4_init_m3 : Cond.methodLink RX4 3 objectInit ∈ wsX4_init := by decide +kernel
theorem vX4_init_oi : Cond.instanceMethod objectInit ∈ wsX4_init := by decide +kernel
theorem cX4_init_oi : Cond.code objectInit ⟨#[0xb1]⟩ 1 none ∈ wsX4_init := by decide +kernel
theorem lX4_init_f9 : Cond.fieldLink RX4 9 "ModelCopies$Loan" "isBack" "Z" ∈ wsX4_init := by decide +kernel
theorem iX4_init_X4 : ∀ w ∈ wsX40, w ∈ wsX4_init := by decide +kernel
theorem lX4_init_f15 : Cond.fieldLink RX4 15 "ModelCopies$Loan" "daysLateAtEnd" "I" ∈ wsX4_init := by decide +kernel
theorem lX4_init_f19 : Cond.fieldLink RX4 19 "ModelCopies$Loan" "copy" "LModelCopies$Copy;" ∈ wsX4_init := by decide +kernel
theorem lX4_init_f23 : Cond.fieldLink RX4 23 "ModelCopies$Loan" "borrower" "LModelCopies$House;" ∈ wsX4_init := by decide +kernel
theorem lX4_init_f27 : Cond.fieldLink RX4 27 "ModelCopies$Loan" "lastDay" "I" ∈ wsX4_init := by decide +kernel
theorem lX4_init_f30 : Cond.fieldLink RX4 30 "ModelCopies$Loan" "pledge" "I" ∈ wsX4_init := by decide +kernel
theorem va_rf_nar {s : String} (o : Option Nat) : narrow (.object s) (va_rf o) = va_rf o := by cases o <;> rfl
theorem va_rf_fit {s : String} (o : Option Nat) : fits (.object s) (va_rf o) = true := by cases o <;> rfl
section
variable {κ : KxT} {cc : ByteArray} {nL : Nat} {Ts : List Cond} {own : String} {ret : Option FieldType} {rm0 : Room} {G : GG} {base mc ms : Nat} {post : Option Value → va_W → Prop} {exc : String → va_W → Prop} {cells slots pc pc' : Nat} {lv : List (Nat × Value)} {st : List Value} {ws : va_W}
theorem z_aload_nV (C : Cx κ cc nL Ts own ret rm0 G base) {k : Fin 4} {i : Nat} {o : Option Nat} (j : Nat) (hi : (k : Nat) = i) (hl : lv[j]? = some (i, va_rf o)) (d : decode cc pc = .ok (.aload_n k, 1)) (hn : pc + 1 = pc') (kk : Z κ nL G base mc ms post exc cells slots pc' lv (va_rf o :: st) ws) : Z κ nL G base mc ms post exc cells slots pc lv st ws := by
  cases o with
  | none => exact z_aload_nN C j hi hl d hn kk
  | some x => exact z_aload_n C j hi hl d hn kk
end
theorem pwc_I {G : GG} {X : va_W} {L : List Nat} {K : Nat → Nat} {I : Nat → Nat → Int} {F : Nat → Nat → Option Nat} {R : Nat → Nat → Int} {N : Nat → Nat} {O : Nat → Nat → Option Nat} {a n : Nat} {f : Nat → Int} (hL : a ∈ L) (hK : K a = 7) : wSet (pw G X L K I F R N O) a (.inl (G.2.1, N a, .inl (va_cpy (fun j => iI (f j)) (fun j => iI (R a j)) 0 0 n))) (pw G X L K I F (va_up R a (va_cpy f (R a) 0 0 n)) N O) := by
  have e : va_cpy (fun j => iI (f j)) (fun j => iI (R a j)) 0 0 n = fun j => iI (va_cpy f (R a) 0 0 n j) := by
    funext j
    simp only [va_cpy]
    split <;> rfl
  rw [e]
  exact pwf_I hL hK
section
variable {κ : KxT} {G : GG} {base mc ms : Nat} {post : Option Value → va_W → Prop} {exc : String → va_W → Prop} {X : va_W} {L : List Nat} {K : Nat → Nat} {I : Nat → Nat → Int} {F : Nat → Nat → Option Nat} {R : Nat → Nat → Int} {N : Nat → Nat} {O : Nat → Nat → Option Nat} {l : Launch}
abbrev rmX0_init : Room := { frames := 2, cells := 1, slots := 24, locals := 80 }
theorem tl_X0_init (C : Cx κ cX0_init 4 wsX0_init RX0 none rmX0_init G base) {a i h : Nat} {mo : Option Nat} (hi : (kM κ).name = "<init>") (ha : a ∈ L) (hk : K a = 0)
    (kk : ∀ r : Nat, r ∉ L → Z κ 4 G base mc ms post exc 1 24 42 [(0, .ref a), (1, .int (iI (i : Int))), (2, va_rf mo), (3, .ref h)] [] (pw G X (L ++ [r]) (va_up K r 7) (up2 (up2 (up2 I 1 a 0) 0 a (i : Int)) 2 a (i : Int)) (up2 (up2 (up2 (up2 F 2 a (some r)) 0 a mo) 1 a (some h)) 3 a (some h)) (va_up R r (fun _ => 0)) (va_up N r 24) O)) : Z κ 4 G base mc ms post exc 0 0 0 [(0, .ref a), (1, .int (iI (i : Int))), (2, va_rf mo), (3, .ref h)] [] (pw G X L K I F R N O) := by
  refine z_aload_n C 0 rfl rfl dX0_init_0 (rfl : 0 + 1 = 1) ?_
  refine z_objInit C lX0_init_m3 vX0_init_oi cX0_init_oi (by decide) (by decide) dX0_init_1 (rfl : 1 + 3 = 4) ?_
  refine z_aload_n C 0 rfl rfl dX0_init_4 (rfl : 4 + 1 = 5) ?_
  refine z_bipush (c := 24) C (by decide) dX0_init_5 (rfl : 5 + 2 = 7) ?_
  refine z_newa (N' := 24) (a0 := (24, .inl (fun _ => iI 0))) C 0 rfl arX0_init_int rfl (fun _ => rfl) rfl (by decide) (by decide) (by decide) (by decide) dX0_init_7 (rfl : 7 + 2 = 9) (fun r hr => ?_)
  have hrL : r ∉ L := pw_fresh hr
  refine z_ws (pwn_I hr) ?_
  have h1 : a ∈ L ++ [r] := List.mem_append_left _ ha
  have h2 : va_up K r 7 a = 0 := (upne ha hrL).trans hk
  refine z_putF C hi tyX0 tyX0_ok nmX0 (pwm_Copy h1 h2) rfl iX0_init_X0 3 (by decide) lX0_init_f9 rfl rfl rfl rfl rfl (Nat.le_of_ble_eq_true rfl) dX0_init_9 (rfl : 9 + 3 = 12) (pws_Copy_readings (z := some r) h1 h2) ?_
  refine z_aload_n C 0 rfl rfl dX0_init_12 (rfl : 12 + 1 = 13) ?_
  refine z_iconst C dX0_init_13 (rfl : 13 + 1 = 14) ?_
  refine z_put C tyX0 tyX0_ok nmX0 (pwm_Copy h1 h2) rfl iX0_init_X0 5 (by decide) lX0_init_f15 rfl rfl rfl (iI_bool (.inl rfl)) (iI_fitb (.inl rfl)) (Nat.le_of_ble_eq_true rfl) dX0_init_14 (rfl : 14 + 3 = 17) (pws_Copy_isTold h1 h2) ?_
  refine z_aload_n C 0 rfl rfl dX0_init_17 (rfl : 17 + 1 = 18) ?_
  refine z_iload_n C 1 rfl rfl dX0_init_18 (rfl : 18 + 1 = 19) ?_
  refine z_putF C hi tyX0 tyX0_ok nmX0 (pwm_Copy h1 h2) rfl iX0_init_X0 0 (by decide) lX0_init_f19 rfl rfl rfl rfl rfl (Nat.le_of_ble_eq_true rfl) dX0_init_19 (rfl : 19 + 3 = 22) (pws_Copy_number h1 h2) ?_
  refine z_aload_n C 0 rfl rfl dX0_init_22 (rfl : 22 + 1 = 23) ?_
  refine z_aload_nV C 2 rfl rfl dX0_init_23 (rfl : 23 + 1 = 24) ?_
  refine z_putF C hi tyX0 tyX0_ok nmX0 (pwm_Copy h1 h2) rfl iX0_init_X0 1 (by decide) lX0_init_f23 rfl rfl rfl (va_rf_nar mo) (va_rf_fit mo) (Nat.le_of_ble_eq_true rfl) dX0_init_24 (rfl : 24 + 3 = 27) (pws_Copy_model (z := mo) h1 h2) ?_
  refine z_aload_n C 0 rfl rfl dX0_init_27 (rfl : 27 + 1 = 28) ?_
  refine z_aload_n C 3 rfl rfl dX0_init_28 (rfl : 28 + 1 = 29) ?_
  refine z_putF C hi tyX0 tyX0_ok nmX0 (pwm_Copy h1 h2) rfl iX0_init_X0 2 (by decide) lX0_init_f27 rfl rfl rfl rfl rfl (Nat.le_of_ble_eq_true rfl) dX0_init_29 (rfl : 29 + 3 = 32) (pws_Copy_owner (z := some h) h1 h2) ?_
  refine z_aload_n C 0 rfl rfl dX0_init_32 (rfl : 32 + 1 = 33) ?_
  refine z_aload_n C 3 rfl rfl dX0_init_33 (rfl : 33 + 1 = 34) ?_
  refine z_put C tyX0 tyX0_ok nmX0 (pwm_Copy h1 h2) rfl iX0_init_X0 4 (by decide) lX0_init_f31 rfl rfl rfl rfl rfl (Nat.le_of_ble_eq_true rfl) dX0_init_34 (rfl : 34 + 3 = 37) (pws_Copy_house (z := some h) h1 h2) ?_
  refine z_aload_n C 0 rfl rfl dX0_init_37 (rfl : 37 + 1 = 38) ?_
  refine z_iload_n C 1 rfl rfl dX0_init_38 (rfl : 38 + 1 = 39) ?_
  refine z_put C tyX0 tyX0_ok nmX0 (pwm_Copy h1 h2) rfl iX0_init_X0 6 (by decide) lX0_init_f34 rfl rfl rfl rfl rfl (Nat.le_of_ble_eq_true rfl) dX0_init_39 (rfl : 39 + 3 = 42) (pws_Copy_family h1 h2) ?_
  exact kk r hrL
theorem c_X0_initN {a i h : Nat} (ha : a ∈ L) (hk : K a = 0) : MC l yX0_init wsX0_init rmX0_init G base [.ref a, .int (iI (i : Int)), .null, .ref h] (pw G X L K I F R N O) (fun v w => v = none ∧ ∃ r : Nat, r ∉ L ∧ w = pw G X (L ++ [r]) (va_up K r 7) (up2 (up2 (up2 I 1 a 0) 0 a (i : Int)) 2 a (i : Int)) (up2 (up2 (up2 (up2 F 2 a (some r)) 0 a none) 1 a (some h)) 3 a (some h)) (va_up R r (fun _ => 0)) (va_up N r 24) O) (fun _ _ => False) := by
  refine MC.of (cc := cX0_init) (by decide) rfl rfl (Nat.le_of_ble_eq_true rfl) ?_
  intro κ C hT hl hi
  refine z_sub [0, 1, 2, 3] (lv' := [(0, .ref a), (1, .int (iI (i : Int))), (2, va_rf none), (3, .ref h)]) rfl ?_
  refine tl_X0_init C hi ha hk (fun r hr => ?_)
  refine z_aload_nN C 2 rfl rfl dX0_init_42 (rfl : 42 + 1 = 43) ?_
  refine z_ifnullN (pc' := 61) C dX0_init_43 (by decide) ?_
  exact z_vret C rfl dX0_init_61 ⟨rfl, r, hr, rfl⟩ (by decide) (by decide)
theorem c_X0_init {a i h m rm : Nat} (ha : a ∈ L) (hk : K a = 0) (hm : isC L K F N m rm) (hma : m ≠ a) : MC l yX0_init wsX0_init rmX0_init G base [.ref a, .int (iI (i : Int)), .ref m, .ref h] (pw G X L K I F R N O) (fun v w => v = none ∧ ∃ (r : Nat) (f : Nat → Int), r ∉ L ∧ (∀ k, k < 24 → f k = R rm k) ∧ w = pw G X (L ++ [r]) (va_up K r 7) (up2 (up2 (up2 I 1 a 0) 0 a (i : Int)) 2 a (i : Int)) (up2 (up2 (up2 (up2 F 2 a (some r)) 0 a (some m)) 1 a (some h)) 3 a (some h)) (va_up R r f) (va_up N r 24) O) (fun _ _ => False) := by
  refine MC.of (cc := cX0_init) (by decide) rfl rfl (Nat.le_of_ble_eq_true rfl) ?_
  intro κ C hT hl hi
  refine z_sub [0, 1, 2, 3] (lv' := [(0, .ref a), (1, .int (iI (i : Int))), (2, va_rf (some m)), (3, .ref h)]) rfl ?_
  refine tl_X0_init C hi ha hk (fun r hr => ?_)
  refine z_sub [0, 1, 2, 3] (lv' := [(0, .ref a), (1, .int (iI (i : Int))), (2, .ref m), (3, .ref h)]) rfl ?_
  obtain ⟨m1, m2, m3, m4, m5, m6⟩ := hm
  refine z_aload_n C 2 rfl rfl dX0_init_42 (rfl : 42 + 1 = 43) ?_
  refine z_ifnull C  dX0_init_43 (rfl : 43 + 3 = 46) ?_
  refine z_aload_n C 2 rfl rfl dX0_init_46 (rfl : 46 + 1 = 47) ?_
  have e1 : up2 (up2 (up2 (up2 F 2 a (some r)) 0 a (some m)) 1 a (some h)) 3 a (some h) 2 m = some rm := by
    rw [up2_ne _ _ (by omega), up2_ne _ _ (by omega), up2_ne _ _ (by omega), up2_ne _ _ (fun h => hma h.2)]; exact m3
  have e2 : up2 (up2 (up2 (up2 F 2 a (some r)) 0 a (some m)) 1 a (some h)) 3 a (some h) 2 a = some r := by
    rw [up2_ne _ _ (by omega), up2_ne _ _ (by omega), up2_ne _ _ (by omega), up2_at]
  refine z_get C (pwm_Copy (List.mem_append_left _ m1) ((upne m1 hr).trans m2)) rfl iX0_init_X0 3 (by decide) lX0_init_f9 rfl rfl dX0_init_47 (rfl : 47 + 3 = 50) ?_
  rw [e1]
  refine z_iconst C dX0_init_50 (rfl : 50 + 1 = 51) ?_
  refine z_aload_n C 0 rfl rfl dX0_init_51 (rfl : 51 + 1 = 52) ?_
  refine z_get C (pwm_Copy (List.mem_append_left _ ha) ((upne ha hr).trans hk)) rfl iX0_init_X0 3 (by decide) lX0_init_f9 rfl rfl dX0_init_52 (rfl : 52 + 3 = 55) ?_
  rw [e2]
  refine z_iconst C dX0_init_55 (rfl : 55 + 1 = 56) ?_
  refine z_bipush (c := 24) C (by decide) dX0_init_56 (rfl : 56 + 2 = 58) ?_
  have hrr : r ∈ L ++ [r] := by simp
  have n1 : va_up N r 24 rm = 24 := (upne m4 hr).trans m6
  have n2 : va_up N r 24 r = 24 := va_up_self _ _ _
  refine z_copyi C lX0_init_m37 ntX0_init_ac stX0_init_ac nX0_init_Sys (z := 24) (pwm_I (List.mem_append_left _ m4) ((upne m4 hr).trans m5)) (pwm_I hrr (va_up_self _ _ _)) ⟨by omega, by omega, by omega⟩ (by omega) (by decide) (Nat.le_of_ble_eq_true rfl) dX0_init_58 (rfl : 58 + 3 = 61) (pwc_I hrr (va_up_self _ _ _)) ?_
  exact z_vret C rfl dX0_init_61 ⟨rfl, r, va_cpy (va_up R r (fun _ => 0) rm) (va_up R r (fun _ => 0) r) 0 0 24, hr, fun k hk => by simp [va_cpy, hk, upne m4 hr], by rw [up_up]; rfl⟩ (by decide) (by decide)
abbrev rmX1_init : Room := { frames := 2, cells := 1, slots := 24, locals := 80 }
theorem c_X1_init {a : Nat} (ha : a ∈ L) (hk : K a = 1) : MC l yX1_init wsX1_init rmX1_init G base [.ref a] (pw G X L K I F R N O) (fun v w => v = none ∧ ∃ (r : Nat) (f : Nat → Int), r ∉ L ∧ (∀ k, k < 24 → f k = -1) ∧ w = pw G X (L ++ [r]) (va_up K r 7) (up2 I 3 a 0) (up2 F 4 a (some r)) (va_up R r f) (va_up N r 24) O) (fun _ _ => False) := by
  refine MC.of (cc := cX1_init) (by decide) rfl rfl (Nat.le_of_ble_eq_true rfl) ?_
  intro κ C hT hl hi
  refine z_aload_n C 0 rfl rfl dX1_init_0 (rfl : 0 + 1 = 1) ?_
  refine z_objInit C lX1_init_m3 vX1_init_oi cX1_init_oi (by decide) (by decide) dX1_init_1 (rfl : 1 + 3 = 4) ?_
  refine z_aload_n C 0 rfl rfl dX1_init_4 (rfl : 4 + 1 = 5) ?_
  refine z_bipush (c := 24) C (by decide) dX1_init_5 (rfl : 5 + 2 = 7) ?_
  refine z_newa (N' := 24) (a0 := (24, .inl (fun _ => iI 0))) C 0 rfl arX1_init_int rfl (fun _ => rfl) rfl (by decide) (by decide) (by decide) (by decide) dX1_init_7 (rfl : 7 + 2 = 9) (fun r hr => ?_)
  have hrL : r ∉ L := pw_fresh hr
  refine z_ws (pwn_I hr) ?_
  have h1 : a ∈ L ++ [r] := List.mem_append_left _ ha
  have h2 : va_up K r 7 a = 1 := (upne ha hrL).trans hk
  have hrr : r ∈ L ++ [r] := by simp
  refine z_putF C hi tyX1 tyX1_ok nmX1 (pwm_Draft h1 h2) rfl iX1_init_X1 0 (by decide) lX1_init_f9 rfl rfl rfl rfl rfl (Nat.le_of_ble_eq_true rfl) dX1_init_9 (rfl : 9 + 3 = 12) (pws_Draft_readings (z := some r) h1 h2) ?_
  refine z_aload_n C 0 rfl rfl dX1_init_12 (rfl : 12 + 1 = 13) ?_
  refine z_iconst C dX1_init_13 (rfl : 13 + 1 = 14) ?_
  refine z_put C tyX1 tyX1_ok nmX1 (pwm_Draft h1 h2) rfl iX1_init_X1 1 (by decide) lX1_init_f15 rfl rfl rfl rfl rfl (Nat.le_of_ble_eq_true rfl) dX1_init_14 (rfl : 14 + 3 = 17) (pws_Draft_filled h1 h2) ?_
  refine z_aload_n C 0 rfl rfl dX1_init_17 (rfl : 17 + 1 = 18) ?_
  refine z_get C (pwm_Draft h1 h2) rfl iX1_init_X1 0 (by decide) lX1_init_f9 rfl rfl dX1_init_18 (rfl : 18 + 3 = 21) ?_
  rw [up2_at]
  refine z_iconst C dX1_init_21 (rfl : 21 + 1 = 22) ?_
  refine z_callS C 1 24 (c_J7_fill (z := -1) hrr (va_up_self _ _ _) (va_up_self _ _ _) (by omega)) gX1_init_J7_fill_53178 rfl hd50_J7_fill_53178 ⟨Nat.le_of_ble_eq_true rfl, Nat.le_of_ble_eq_true rfl⟩ rfl (Nat.le_of_ble_eq_true rfl) dX1_init_22 (rfl : 22 + 3 = 25) rfl rfl ⟨Nat.le_of_ble_eq_true rfl, Nat.le_of_ble_eq_true rfl⟩ (fun _ _ h => h.elim) ?_ rfl
  rintro _ _ ⟨rfl, f, hf, rfl⟩
  refine z_v0 ?_
  exact z_vret C rfl dX1_init_25 ⟨rfl, r, f, hrL, hf, by rw [up_up]⟩ (by decide) (by decide)
abbrev rmX2_init : Room := { frames := 2, cells := 1, slots := 60, locals := 80 }
theorem c_X2_init {a i : Nat} (ha : a ∈ L) (hk : K a = 2) : MC l yX2_init wsX2_init rmX2_init G base [.ref a, .int (iI (i : Int))] (pw G X L K I F R N O) (fun v w => v = none ∧ ∃ r : Nat, r ∉ L ∧ w = pw G X (L ++ [r]) (va_up K r 8) (up2 (up2 (up2 I 5 a 100) 6 a 0) 4 a (i : Int)) (up2 F 5 a (some r)) (va_up R r (fun _ => 0)) (va_up N r 60) O) (fun _ _ => False) := by
  refine MC.of (cc := cX2_init) (by decide) rfl rfl (Nat.le_of_ble_eq_true rfl) ?_
  intro κ C hT hl hi
  refine z_sub [0, 1] (lv' := [(0, .ref a), (1, .int (iI (i : Int)))]) rfl ?_
  refine z_aload_n C 0 rfl rfl dX2_init_0 (rfl : 0 + 1 = 1) ?_
  refine z_objInit C lX2_init_m3 vX2_init_oi cX2_init_oi (by decide) (by decide) dX2_init_1 (rfl : 1 + 3 = 4) ?_
  refine z_aload_n C 0 rfl rfl dX2_init_4 (rfl : 4 + 1 = 5) ?_
  refine z_bipush (c := 60) C (by decide) dX2_init_5 (rfl : 5 + 2 = 7) ?_
  refine z_newa (N' := 60) (a0 := (60, .inl (fun _ => iI 0))) C 1 rfl arX2_init_boolean rfl (fun _ => rfl) rfl (by decide) (by decide) (by decide) (by decide) dX2_init_7 (rfl : 7 + 2 = 9) (fun r hr => ?_)
  have hrL : r ∉ L := pw_fresh hr
  refine z_ws (pwn_Z hr) ?_
  have h1 : a ∈ L ++ [r] := List.mem_append_left _ ha
  have h2 : va_up K r 8 a = 2 := (upne ha hrL).trans hk
  refine z_putF C hi tyX2 tyX2_ok nmX2 (pwm_House h1 h2) rfl iX2_init_X2 1 (by decide) lX2_init_f9 rfl rfl rfl rfl rfl (Nat.le_of_ble_eq_true rfl) dX2_init_9 (rfl : 9 + 3 = 12) (pws_House_held (z := some r) h1 h2) ?_
  refine z_aload_n C 0 rfl rfl dX2_init_12 (rfl : 12 + 1 = 13) ?_
  refine z_bipush (c := 100) C (by decide) dX2_init_13 (rfl : 13 + 2 = 15) ?_
  refine z_put C tyX2 tyX2_ok nmX2 (pwm_House h1 h2) rfl iX2_init_X2 2 (by decide) lX2_init_f15 rfl rfl rfl rfl rfl (Nat.le_of_ble_eq_true rfl) dX2_init_15 (rfl : 15 + 3 = 18) (pws_House_coins h1 h2) ?_
  refine z_aload_n C 0 rfl rfl dX2_init_18 (rfl : 18 + 1 = 19) ?_
  refine z_iconst C dX2_init_19 (rfl : 19 + 1 = 20) ?_
  refine z_put C tyX2 tyX2_ok nmX2 (pwm_House h1 h2) rfl iX2_init_X2 3 (by decide) lX2_init_f19 rfl rfl rfl rfl rfl (Nat.le_of_ble_eq_true rfl) dX2_init_20 (rfl : 20 + 3 = 23) (pws_House_laidDown h1 h2) ?_
  refine z_aload_n C 0 rfl rfl dX2_init_23 (rfl : 23 + 1 = 24) ?_
  refine z_iload_n C 1 rfl rfl dX2_init_24 (rfl : 24 + 1 = 25) ?_
  refine z_putF C hi tyX2 tyX2_ok nmX2 (pwm_House h1 h2) rfl iX2_init_X2 0 (by decide) lX2_init_f22 rfl rfl rfl rfl rfl (Nat.le_of_ble_eq_true rfl) dX2_init_25 (rfl : 25 + 3 = 28) (pws_House_number h1 h2) ?_
  exact z_vret C rfl dX2_init_28 ⟨rfl, r, hrL, rfl⟩ (by decide) (by decide)
abbrev rmX3_init : Room := { frames := 1, cells := 0, slots := 0, locals := 80 }
theorem c_X3_init {a : Nat} {p x y : Int} (ha : a ∈ L) (hk : K a = 3) : MC l yX3_init wsX3_init rmX3_init G base [.ref a, .int (iI p), .int (iI x), .int (iI y)] (pw G X L K I F R N O) (fun v w => v = none ∧ w = pw G X L K (up2 (up2 (up2 I 7 a p) 8 a x) 9 a y) F R N O) (fun _ _ => False) := by
  refine MC.of (cc := cX3_init) (by decide) rfl rfl (Nat.le_of_ble_eq_true rfl) ?_
  intro κ C hT hl hi
  refine z_sub [0, 1, 2, 3] (lv' := [(0, .ref a), (1, .int (iI p)), (2, .int (iI x)), (3, .int (iI y))]) rfl ?_
  refine z_aload_n C 0 rfl rfl dX3_init_0 (rfl : 0 + 1 = 1) ?_
  refine z_objInit C lX3_init_m3 vX3_init_oi cX3_init_oi (by decide) (by decide) dX3_init_1 (rfl : 1 + 3 = 4) ?_
  refine z_aload_n C 0 rfl rfl dX3_init_4 (rfl : 4 + 1 = 5) ?_
  refine z_iload_n C 1 rfl rfl dX3_init_5 (rfl : 5 + 1 = 6) ?_
  refine z_putF C hi tyX3 tyX3_ok nmX3 (pwm_Letter ha hk) rfl iX3_init_X3 0 (by decide) lX3_init_f9 rfl rfl rfl rfl rfl (Nat.le_of_ble_eq_true rfl) dX3_init_6 (rfl : 6 + 3 = 9) (pws_Letter_place ha hk) ?_
  refine z_aload_n C 0 rfl rfl dX3_init_9 (rfl : 9 + 1 = 10) ?_
  refine z_iload_n C 2 rfl rfl dX3_init_10 (rfl : 10 + 1 = 11) ?_
  refine z_putF C hi tyX3 tyX3_ok nmX3 (pwm_Letter ha hk) rfl iX3_init_X3 1 (by decide) lX3_init_f15 rfl rfl rfl rfl rfl (Nat.le_of_ble_eq_true rfl) dX3_init_11 (rfl : 11 + 3 = 14) (pws_Letter_was ha hk) ?_
  refine z_aload_n C 0 rfl rfl dX3_init_14 (rfl : 14 + 1 = 15) ?_
  refine z_iload_n C 3 rfl rfl dX3_init_15 (rfl : 15 + 1 = 16) ?_
  refine z_putF C hi tyX3 tyX3_ok nmX3 (pwm_Letter ha hk) rfl iX3_init_X3 2 (by decide) lX3_init_f18 rfl rfl rfl rfl rfl (Nat.le_of_ble_eq_true rfl) dX3_init_16 (rfl : 16 + 3 = 19) (pws_Letter_now ha hk) ?_
  exact z_vret C rfl dX3_init_19 ⟨rfl, rfl⟩ (by decide) (by decide)
abbrev rmX4_init : Room := { frames := 1, cells := 0, slots := 0, locals := 80 }
theorem c_X4_init {a c h : Nat} {d p : Int} (ha : a ∈ L) (hk : K a = 4) : MC l yX4_init wsX4_init rmX4_init G base [.ref a, .ref c, .ref h, .int (iI d), .int (iI p)] (pw G X L K I F R N O) (fun v w => v = none ∧ w = pw G X L K (up2 (up2 (up2 (up2 I 12 a 0) 13 a 0) 10 a d) 11 a p) (up2 (up2 F 6 a (some c)) 7 a (some h)) R N O) (fun _ _ => False) := by
  refine MC.of (cc := cX4_init) (by decide) rfl rfl (Nat.le_of_ble_eq_true rfl) ?_
  intro κ C hT hl hi
  refine z_sub [0, 1, 2, 3, 4] (lv' := [(0, .ref a), (1, .ref c), (2, .ref h), (3, .int (iI d)), (4, .int (iI p))]) rfl ?_
  refine z_aload_n C 0 rfl rfl dX4_init_0 (rfl : 0 + 1 = 1) ?_
  refine z_objInit C lX4_init_m3 vX4_init_oi cX4_init_oi (by decide) (by decide) dX4_init_1 (rfl : 1 + 3 = 4) ?_
  refine z_aload_n C 0 rfl rfl dX4_init_4 (rfl : 4 + 1 = 5) ?_
  refine z_iconst C dX4_init_5 (rfl : 5 + 1 = 6) ?_
  refine z_put C tyX4 tyX4_ok nmX4 (pwm_Loan ha hk) rfl iX4_init_X4 4 (by decide) lX4_init_f9 rfl rfl rfl (iI_bool (.inl rfl)) (iI_fitb (.inl rfl)) (Nat.le_of_ble_eq_true rfl) dX4_init_6 (rfl : 6 + 3 = 9) (pws_Loan_isBack ha hk) ?_
  refine z_aload_n C 0 rfl rfl dX4_init_9 (rfl : 9 + 1 = 10) ?_
  refine z_iconst C dX4_init_10 (rfl : 10 + 1 = 11) ?_
  refine z_put C tyX4 tyX4_ok nmX4 (pwm_Loan ha hk) rfl iX4_init_X4 5 (by decide) lX4_init_f15 rfl rfl rfl rfl rfl (Nat.le_of_ble_eq_true rfl) dX4_init_11 (rfl : 11 + 3 = 14) (pws_Loan_daysLateAtEnd ha hk) ?_
  refine z_aload_n C 0 rfl rfl dX4_init_14 (rfl : 14 + 1 = 15) ?_
  refine z_aload_n C 1 rfl rfl dX4_init_15 (rfl : 15 + 1 = 16) ?_
  refine z_putF C hi tyX4 tyX4_ok nmX4 (pwm_Loan ha hk) rfl iX4_init_X4 0 (by decide) lX4_init_f19 rfl rfl rfl rfl rfl (Nat.le_of_ble_eq_true rfl) dX4_init_16 (rfl : 16 + 3 = 19) (pws_Loan_copy (z := some c) ha hk) ?_
  refine z_aload_n C 0 rfl rfl dX4_init_19 (rfl : 19 + 1 = 20) ?_
  refine z_aload_n C 2 rfl rfl dX4_init_20 (rfl : 20 + 1 = 21) ?_
  refine z_putF C hi tyX4 tyX4_ok nmX4 (pwm_Loan ha hk) rfl iX4_init_X4 1 (by decide) lX4_init_f23 rfl rfl rfl rfl rfl (Nat.le_of_ble_eq_true rfl) dX4_init_21 (rfl : 21 + 3 = 24) (pws_Loan_borrower (z := some h) ha hk) ?_
  refine z_aload_n C 0 rfl rfl dX4_init_24 (rfl : 24 + 1 = 25) ?_
  refine z_iload_n C 3 rfl rfl dX4_init_25 (rfl : 25 + 1 = 26) ?_
  refine z_putF C hi tyX4 tyX4_ok nmX4 (pwm_Loan ha hk) rfl iX4_init_X4 2 (by decide) lX4_init_f27 rfl rfl rfl rfl rfl (Nat.le_of_ble_eq_true rfl) dX4_init_26 (rfl : 26 + 3 = 29) (pws_Loan_lastDay ha hk) ?_
  refine z_aload_n C 0 rfl rfl dX4_init_29 (rfl : 29 + 1 = 30) ?_
  refine z_iload C 4 rfl dX4_init_30 (rfl : 30 + 2 = 32) ?_
  refine z_putF C hi tyX4 tyX4_ok nmX4 (pwm_Loan ha hk) rfl iX4_init_X4 3 (by decide) lX4_init_f30 rfl rfl rfl rfl rfl (Nat.le_of_ble_eq_true rfl) dX4_init_32 (rfl : 32 + 3 = 35) (pws_Loan_pledge ha hk) ?_
  exact z_vret C rfl dX4_init_35 ⟨rfl, rfl⟩ (by decide) (by decide)
end
