theorem hd52_X1_isFilled : yX1_isFilled.cls = RX1 ∧ yX1_isFilled.cls ≠ "java/lang/invoke/MethodHandle" ∧ yX1_isFilled.cls ≠ "java/lang/invoke/VarHandle" ∧ (parseMethodDescriptor yX1_isFilled.desc).map (fun d => d.parameters.length) = some 1 := by decide +kernel
theorem lX1_writeInto_f29 : Cond.fieldLink RX1 29 "ModelCopies$Copy" "readings" "[I" ∈ wsX1_writeInto := by decide +kernel
theorem iX1_writeInto_X0 : ∀ w ∈ wsX00, w ∈ wsX1_writeInto := by decide +kernel
theorem lX1_writeInto_f9 : Cond.fieldLink RX1 9 "ModelCopies$Draft" "readings" "[I" ∈ wsX1_writeInto := by decide +kernel
theorem iX1_writeInto_X1 : ∀ w ∈ wsX10, w ∈ wsX1_writeInto := by decide +kernel
section
variable {κ : KxT} {G : GG} {base mc ms : Nat} {post : Option Value → va_W → Prop} {exc : String → va_W → Prop} {X : va_W} {L : List Nat} {K : Nat → Nat} {I : Nat → Nat → Int} {F : Nat → Nat → Option Nat} {R : Nat → Nat → Int} {N : Nat → Nat} {O : Nat → Nat → Option Nat} {l : Launch}
abbrev rmX1_writeInto : Room := { frames := 1, cells := 0, slots := 0, locals := 40 }
theorem lp_X1_writeInto (C : Cx κ cX1_writeInto 4 wsX1_writeInto RX1 (some .int) rmX1_writeInto G base) {d dr c cr : Nat} (hd : isD L K F N d dr) (hc : isC L K F N c cr) (xr : rgD (R dr)) (xc : rg9 (R cr)) (hne : dr ≠ cr)
    (kk : ∀ f : Nat → Int, (∀ k, k < 24 → f k = if R dr k = -1 then R cr k else R dr k) → Z κ 4 G base mc ms post exc 0 0 54 [(3, .int (iI ((24 : Nat) : Int))), (2, .int (iI (wrn (R cr) (R dr) 24))), (0, .ref d), (1, .ref c)] [] (pw G X L K I F (va_up R cr f) N O)) :
    ∀ (n k : Nat) (f : Nat → Int), k + n = 24 → (∀ j, j < k → f j = if R dr j = -1 then R cr j else R dr j) → (∀ j, k ≤ j → f j = R cr j) → Z κ 4 G base mc ms post exc 0 0 4 [(3, .int (iI (k : Int))), (2, .int (iI (wrn (R cr) (R dr) k))), (0, .ref d), (1, .ref c)] [] (pw G X L K I F (va_up R cr f) N O) := by
  obtain ⟨c1, c2, c3, c4, c5, c6⟩ := id hc
  obtain ⟨d1, d2, d3, d4, d5, d6⟩ := id hd
  intro n
  induction n with
  | zero =>
    intro k f hk h1 h2
    have e : k = 24 := by omega
    subst e
    refine z_iload_n C 0 rfl rfl dX1_writeInto_4 (rfl : 4 + 1 = 5) ?_
    refine z_bipush (c := 24) C (by decide) dX1_writeInto_5 (rfl : 5 + 2 = 7) ?_
    refine z_icmp_ge (pt := 54) C dX1_writeInto_7 (by decide) (rfl : 7 + 3 = 10) (iI_le (by omega) (by omega)).1 (fun q => mt (iI_le (by omega) (by omega)).2 q) (fun c => ?_) (fun c => ?_)
    · exact kk f h1
    · exact absurd c (by omega)
  | succ n ih =>
    intro k f hk h1 h2
    have x1 := xr k (by omega)
    have x2 := xc k (by omega)
    have eR : va_up R cr f dr = R dr := va_up_ne _ _ hne
    have ec : va_up R cr f cr = f := va_up_self _ _ _
    have nx : ∀ f' : Nat → Int, (∀ j, j ≠ k → f' j = f j) → f' k = (if R dr k = -1 then R cr k else R dr k) → Z κ 4 G base mc ms post exc 0 0 4 [(3, .int (iI ((k + 1 : Nat) : Int))), (2, .int (iI (wrn (R cr) (R dr) (k + 1)))), (0, .ref d), (1, .ref c)] [] (pw G X L K I F (va_up R cr f') N O) := fun f' g1 g2 => by
      refine ih (k + 1) f' (by omega) (fun j hj => ?_) (fun j hj => ?_)
      · by_cases e : j = k
        · subst e; exact g2
        · rw [g1 j e]; exact h1 j (by omega)
      · rw [g1 j (by omega)]; exact h2 j (by omega)
    refine z_iload_n C 0 rfl rfl dX1_writeInto_4 (rfl : 4 + 1 = 5) ?_
    refine z_bipush (c := 24) C (by decide) dX1_writeInto_5 (rfl : 5 + 2 = 7) ?_
    refine z_icmp_ge (pt := 54) C dX1_writeInto_7 (by decide) (rfl : 7 + 3 = 10) (iI_le (by omega) (by omega)).1 (fun q => mt (iI_le (by omega) (by omega)).2 q) (fun c => ?_) (fun c => ?_)
    · exact absurd c (by omega)
    refine z_aload_n C 2 rfl rfl dX1_writeInto_10 (rfl : 10 + 1 = 11) ?_
    refine z_iload_n C 0 rfl rfl dX1_writeInto_11 (rfl : 11 + 1 = 12) ?_
    refine z_callV C 0 0 (c_X1_isFilled (R := va_up R cr f) (i := k) hd (by rw [eR]; exact xr) (by omega)) gX1_writeInto_X1_isFilled rfl hd52_X1_isFilled ⟨Nat.le_of_ble_eq_true rfl, Nat.le_of_ble_eq_true rfl⟩ (pwm_Draft d1 d2) rfl rfl (Nat.le_of_ble_eq_true rfl) dX1_writeInto_12 (rfl : 12 + 3 = 15) rfl rfl ⟨Nat.le_of_ble_eq_true rfl, Nat.le_of_ble_eq_true rfl⟩ (fun _ _ h => h.elim) ?_ rfl
    rintro _ _ ⟨rfl, rfl⟩
    refine z_v1 ?_
    rw [eR]
    by_cases e : R dr k = -1
    · rw [if_pos e]
      refine z_if_eq (pt := 48) C dX1_writeInto_15 (by decide) (rfl : 15 + 3 = 18) (iI_eq0 (by omega)).1 (fun q => mt (iI_eq0 (by omega)).2 q) (fun c7 => ?_) (fun c7 => ?_)
      · refine z_iinc (lv' := [(3, _), (2, _), (0, _), (1, _)]) C 0 dX1_writeInto_48 (rfl : 48 + 3 = 51) rfl rfl (by decide) rfl ?_
        refine z_goto (pc' := 4) C dX1_writeInto_51 (by decide) ?_
        have e2 : wrn (R cr) (R dr) (k + 1) = wrn (R cr) (R dr) k := by
          simp only [wrn]
          rw [b01_eq0.mpr (fun h => h.1 e), Int.add_zero]
        have := nx f (fun j _ => rfl) (by rw [if_pos e]; exact h2 k (Nat.le_refl _))
        rw [e2] at this
        exact this
      · exact absurd rfl c7
    rw [if_neg e]
    refine z_if_eq (pt := 48) C dX1_writeInto_15 (by decide) (rfl : 15 + 3 = 18) (iI_eq0 (by omega)).1 (fun q => mt (iI_eq0 (by omega)).2 q) (fun c7 => ?_) (fun c7 => ?_)
    · exact absurd c7 (by omega)
    refine z_aload_n C 3 rfl rfl dX1_writeInto_18 (rfl : 18 + 1 = 19) ?_
    refine z_get C (pwm_Copy c1 c2) rfl iX1_writeInto_X0 3 (by decide) lX1_writeInto_f29 rfl rfl dX1_writeInto_19 (rfl : 19 + 3 = 22) ?_
    rw [c3]
    refine z_iload_n C 0 rfl rfl dX1_writeInto_22 (rfl : 22 + 1 = 23) ?_
    refine z_iald C (x := iI (f k)) (pwm_I c4 c5) ⟨by omega, by omega⟩ (by omega) (by rw [ec]; rfl) dX1_writeInto_23 (rfl : 23 + 1 = 24) ?_
    refine z_aload_n C 2 rfl rfl dX1_writeInto_24 (rfl : 24 + 1 = 25) ?_
    refine z_get C (pwm_Draft d1 d2) rfl iX1_writeInto_X1 0 (by decide) lX1_writeInto_f9 rfl rfl dX1_writeInto_25 (rfl : 25 + 3 = 28) ?_
    rw [d3]
    refine z_iload_n C 0 rfl rfl dX1_writeInto_28 (rfl : 28 + 1 = 29) ?_
    refine z_iald C (x := iI (R dr k)) (pwm_I d4 d5) ⟨by omega, by omega⟩ (by omega) (by rw [eR]; rfl) dX1_writeInto_29 (rfl : 29 + 1 = 30) ?_
    rw [h2 k (Nat.le_refl _)]
    refine z_icmp_eq (pt := 48) C dX1_writeInto_30 (by decide) (rfl : 30 + 3 = 33) (iI_eq (by omega) (by omega)).1 (fun q => mt (iI_eq (by omega) (by omega)).2 q) (fun c8 => ?_) (fun c8 => ?_)
    · refine z_iinc (lv' := [(3, _), (2, _), (0, _), (1, _)]) C 0 dX1_writeInto_48 (rfl : 48 + 3 = 51) rfl rfl (by decide) rfl ?_
      refine z_goto (pc' := 4) C dX1_writeInto_51 (by decide) ?_
      have e2 : wrn (R cr) (R dr) (k + 1) = wrn (R cr) (R dr) k := by
        simp only [wrn]
        rw [b01_eq0.mpr (fun h => h.2 c8), Int.add_zero]
      have := nx f (fun j _ => rfl) (by rw [if_neg e, h2 k (Nat.le_refl _)]; exact c8)
      rw [e2] at this
      exact this
    refine z_aload_n C 3 rfl rfl dX1_writeInto_33 (rfl : 33 + 1 = 34) ?_
    refine z_get C (pwm_Copy c1 c2) rfl iX1_writeInto_X0 3 (by decide) lX1_writeInto_f29 rfl rfl dX1_writeInto_34 (rfl : 34 + 3 = 37) ?_
    rw [c3]
    refine z_iload_n C 0 rfl rfl dX1_writeInto_37 (rfl : 37 + 1 = 38) ?_
    refine z_aload_n C 2 rfl rfl dX1_writeInto_38 (rfl : 38 + 1 = 39) ?_
    refine z_get C (pwm_Draft d1 d2) rfl iX1_writeInto_X1 0 (by decide) lX1_writeInto_f9 rfl rfl dX1_writeInto_39 (rfl : 39 + 3 = 42) ?_
    rw [d3]
    refine z_iload_n C 0 rfl rfl dX1_writeInto_42 (rfl : 42 + 1 = 43) ?_
    refine z_iald C (x := iI (R dr k)) (pwm_I d4 d5) ⟨by omega, by omega⟩ (by omega) (by rw [eR]; rfl) dX1_writeInto_43 (rfl : 43 + 1 = 44) ?_
    refine z_iast C (pwm_I c4 c5) ⟨by omega, by omega⟩ (by omega) dX1_writeInto_44 (rfl : 44 + 1 = 45) (pwt_I (i := k) c4 c5) ?_
    refine z_iinc (lv' := [(2, _), (3, _), (0, _), (1, _)]) C 1 dX1_writeInto_45 (rfl : 45 + 3 = 48) rfl rfl (by decide) rfl ?_
    refine z_iinc (lv' := [(3, _), (2, _), (0, _), (1, _)]) C 1 dX1_writeInto_48 (rfl : 48 + 3 = 51) rfl rfl (by decide) rfl ?_
    refine z_goto (pc' := 4) C dX1_writeInto_51 (by decide) ?_
    have e2 : wrn (R cr) (R dr) (k + 1) = wrn (R cr) (R dr) k + 1 := by
      simp only [wrn]
      rw [b01, if_pos ⟨e, c8⟩]
    have := nx (va_up f k (R dr k)) (fun j hj => va_up_ne _ _ hj) (by rw [va_up_self, if_neg e])
    rw [e2] at this
    refine z_ws (ws' := pw G X L K I F (va_up R cr (va_up f k (R dr k))) N O) (by rw [up2_row, va_up_self, up_up]) ?_
    exact z_sub [0, 1, 2, 3] rfl this
theorem c_X1_writeInto {d dr c cr : Nat} (hd : isD L K F N d dr) (hc : isC L K F N c cr) (xr : rgD (R dr)) (xc : rg9 (R cr)) (hne : dr ≠ cr) : MC l yX1_writeInto wsX1_writeInto rmX1_writeInto G base [.ref d, .ref c] (pw G X L K I F R N O) (fun v w => v = some (.int (iI (wrn (R cr) (R dr) 24))) ∧ ∃ f : Nat → Int, (∀ k, k < 24 → f k = if R dr k = -1 then R cr k else R dr k) ∧ w = pw G X L K I F (va_up R cr f) N O) (fun _ _ => False) := by
  refine MC.of (cc := cX1_writeInto) (by decide) rfl rfl (Nat.le_of_ble_eq_true rfl) ?_
  intro κ C hT hl hi
  refine z_sub [0, 1] (lv' := [(0, .ref d), (1, .ref c)]) rfl ?_
  refine z_iconst C dX1_writeInto_0 (rfl : 0 + 1 = 1) ?_
  refine z_istore_n (lv' := [(2, _), (0, _), (1, _)]) C rfl dX1_writeInto_1 (rfl : 1 + 1 = 2) (by decide) rfl ?_
  refine z_iconst C dX1_writeInto_2 (rfl : 2 + 1 = 3) ?_
  refine z_istore_n (lv' := [(3, _), (2, _), (0, _), (1, _)]) C rfl dX1_writeInto_3 (rfl : 3 + 1 = 4) (by decide) rfl ?_
  refine z_ws (ws' := pw G X L K I F (va_up R cr (R cr)) N O) (by rw [up_self]) ?_
  refine lp_X1_writeInto C hd hc xr xc hne (fun f hf => ?_) 24 0 (R cr) rfl (fun j hj => absurd hj (Nat.not_lt_zero j)) (fun j _ => rfl)
  refine z_iload_n C 1 rfl rfl dX1_writeInto_54 (rfl : 54 + 1 = 55) ?_
  exact z_iret C rfl dX1_writeInto_55 ⟨rfl, f, hf, rfl⟩ (by decide) (by decide)
end
