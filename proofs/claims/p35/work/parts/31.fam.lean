theorem lX5_joinFamilies_f16 : Cond.fieldLink RX5 16 "ModelCopies" "copies" "Ljava/util/ArrayList;" ∈ wsX5_joinFamilies := by decide +kernel
theorem iX5_joinFamilies_X5 : ∀ w ∈ wsX50, w ∈ wsX5_joinFamilies := by decide +kernel
theorem hd31_Jx4a65c_size_8abf5 : yJx4a65c_size_8abf5.cls = RJx4a65c ∧ yJx4a65c_size_8abf5.cls ≠ "java/lang/invoke/MethodHandle" ∧ yJx4a65c_size_8abf5.cls ≠ "java/lang/invoke/VarHandle" ∧ (parseMethodDescriptor yJx4a65c_size_8abf5.desc).map (fun d => d.parameters.length) = some 0 := by decide +kernel
theorem hd31_Jx4a65c_get_915e3 : yJx4a65c_get_915e3.cls = RJx4a65c ∧ yJx4a65c_get_915e3.cls ≠ "java/lang/invoke/MethodHandle" ∧ yJx4a65c_get_915e3.cls ≠ "java/lang/invoke/VarHandle" ∧ (parseMethodDescriptor yJx4a65c_get_915e3.desc).map (fun d => d.parameters.length) = some 1 := by decide +kernel
theorem lX5_joinFamilies_c49 : Cond.classLink RX5 49 "ModelCopies$Copy" ∈ wsX5_joinFamilies := by decide +kernel
theorem lX5_joinFamilies_f127 : Cond.fieldLink RX5 127 "ModelCopies$Copy" "family" "I" ∈ wsX5_joinFamilies := by decide +kernel
theorem iX5_joinFamilies_X0 : ∀ w ∈ wsX00, w ∈ wsX5_joinFamilies := by decide +kernel
theorem lX5_joinFamilies_m304 : Cond.methodLink RX5 304 Lib.Math.min.name ∈ wsX5_joinFamilies := by decide +kernel
theorem stX5_joinFamilies_min : Cond.static Lib.Math.min.name ∈ wsX5_joinFamilies := by decide +kernel
theorem nX5_joinFamilies_Math : Cond.initialized "java/lang/Math" ∈ wsX5_joinFamilies := by decide +kernel
theorem cdX5_joinFamilies_min : Cond.code Lib.Math.min.name Lib.Math.min.code 2 (some .int) ∈ wsX5_joinFamilies := by decide +kernel
theorem lX5_joinFamilies_m310 : Cond.methodLink RX5 310 Lib.Math.max.name ∈ wsX5_joinFamilies := by decide +kernel
theorem stX5_joinFamilies_max : Cond.static Lib.Math.max.name ∈ wsX5_joinFamilies := by decide +kernel
theorem cdX5_joinFamilies_max : Cond.code Lib.Math.max.name Lib.Math.max.code 2 (some .int) ∈ wsX5_joinFamilies := by decide +kernel
theorem lX5_enterFamily_f118 : Cond.fieldLink RX5 118 "ModelCopies$Copy" "number" "I" ∈ wsX5_enterFamily := by decide +kernel
theorem iX5_enterFamily_X0 : ∀ w ∈ wsX00, w ∈ wsX5_enterFamily := by decide +kernel
theorem lX5_enterFamily_f16 : Cond.fieldLink RX5 16 "ModelCopies" "copies" "Ljava/util/ArrayList;" ∈ wsX5_enterFamily := by decide +kernel
theorem iX5_enterFamily_X5 : ∀ w ∈ wsX50, w ∈ wsX5_enterFamily := by decide +kernel
theorem lX5_enterFamily_c49 : Cond.classLink RX5 49 "ModelCopies$Copy" ∈ wsX5_enterFamily := by decide +kernel
theorem lX5_enterFamily_f127 : Cond.fieldLink RX5 127 "ModelCopies$Copy" "family" "I" ∈ wsX5_enterFamily := by decide +kernel
theorem hd31_X0_isKinOf : yX0_isKinOf.cls = RX0 ∧ yX0_isKinOf.cls ≠ "java/lang/invoke/MethodHandle" ∧ yX0_isKinOf.cls ≠ "java/lang/invoke/VarHandle" ∧ (parseMethodDescriptor yX0_isKinOf.desc).map (fun d => d.parameters.length) = some 1 := by decide +kernel
theorem hd31_X5_joinFamilies : yX5_joinFamilies.cls = RX5 ∧ yX5_joinFamilies.cls ≠ "java/lang/invoke/MethodHandle" ∧ yX5_joinFamilies.cls ≠ "java/lang/invoke/VarHandle" ∧ (parseMethodDescriptor yX5_joinFamilies.desc).map (fun d => d.parameters.length) = some 2 := by decide +kernel
theorem lX5_findFamiliesAnew_f16 : Cond.fieldLink RX5 16 "ModelCopies" "copies" "Ljava/util/ArrayList;" ∈ wsX5_findFamiliesAnew := by decide +kernel
theorem iX5_findFamiliesAnew_X5 : ∀ w ∈ wsX50, w ∈ wsX5_findFamiliesAnew := by decide +kernel
theorem lX5_findFamiliesAnew_c49 : Cond.classLink RX5 49 "ModelCopies$Copy" ∈ wsX5_findFamiliesAnew := by decide +kernel
theorem hd31_X5_enterFamily : yX5_enterFamily.cls = RX5 ∧ yX5_enterFamily.cls ≠ "java/lang/invoke/MethodHandle" ∧ yX5_enterFamily.cls ≠ "java/lang/invoke/VarHandle" ∧ (parseMethodDescriptor yX5_enterFamily.desc).map (fun d => d.parameters.length) = some 1 := by decide +kernel
section
variable {κ : KxT} {G : GG} {base mc ms : Nat} {post : Option Value → va_W → Prop} {exc : String → va_W → Prop} {X : va_W} {L : List Nat} {K : Nat → Nat} {I : Nat → Nat → Int} {F : Nat → Nat → Option Nat} {R : Nat → Nat → Int} {N : Nat → Nat} {O : Nat → Nat → Option Nat} {l : Launch}
variable {de x cl ec n : Nat} {cA rA : Nat → Nat}
abbrev rmX5_joinFamilies : Room := { frames := 3, cells := 0, slots := 0, locals := 70 }
theorem lp_X5_join (C : Cx κ cX5_joinFamilies 7 wsX5_joinFamilies RX5 none rmX5_joinFamilies G base) (h : CPS L K I F N O de x cl ec n cA rA) (f : Nat → Int) {lo hi u v : Int} (hf : rgF f n cA) (hlo : 0 ≤ lo ∧ lo < 100) (hhi : 0 ≤ hi ∧ hi < 100)
    (hp : ∀ g : Nat → Int, (∀ k, k < n → g (cA k) = if f (cA k) = hi then lo else f (cA k)) → post none (pw G X L K (va_up I 2 g) F R N O)) :
    ∀ (d i : Nat) (g : Nat → Int), i + d = n → (∀ k, k < i → g (cA k) = if f (cA k) = hi then lo else f (cA k)) → (∀ k, i ≤ k → k < n → g (cA k) = f (cA k)) → Z κ 7 G base mc ms post exc 0 0 16 [(5, .int (iI (i : Int))), (4, .int (iI hi)), (3, .int (iI lo)), (0, .ref x), (1, .int (iI u)), (2, .int (iI v))] [] (pw G X L K (va_up I 2 g) F R N O) := by
  intro d
  induction d with
  | zero =>
    intro i g hi1 hg1 hg2
    have h' := h.fam g
    obtain ⟨hx, hl, hn, hc, hnum, hinj⟩ := h'
    refine z_iload C 0 rfl dX5_joinFamilies_16 (rfl : 16 + 2 = 18) ?_
    refine z_aload_n C 3 rfl rfl dX5_joinFamilies_18 (rfl : 18 + 1 = 19) ?_
    refine z_get C (pwm_MC hx.1 hx.2.1) rfl iX5_joinFamilies_X5 1 (by decide) lX5_joinFamilies_f16 rfl rfl dX5_joinFamilies_19 (rfl : 19 + 3 = 22) ?_
    rw [hx.2.2]
    refine z_callV C 0 0 (c_list_size hl) gX5_joinFamilies_Jx4a65c_size_8abf5 rfl hd31_Jx4a65c_size_8abf5 ⟨Nat.le_of_ble_eq_true rfl, Nat.le_of_ble_eq_true rfl⟩ (pwm_AL hl.1 hl.2.1) rfl rfl (Nat.le_of_ble_eq_true rfl) dX5_joinFamilies_22 (rfl : 22 + 3 = 25) rfl rfl ⟨Nat.le_of_ble_eq_true rfl, Nat.le_of_ble_eq_true rfl⟩ (fun _ _ h => h.elim) ?_ rfl
    rintro _ _ ⟨rfl, rfl⟩
    refine z_v1 ?_
    refine z_icmp_ge (pt := 64) C dX5_joinFamilies_25 (by decide) (rfl : 25 + 3 = 28) (iI_le (by omega) (by omega)).1 (fun q => mt (iI_le (by omega) (by omega)).2 q) (fun c => ?_) (fun c => ?_)
    · exact z_vret C rfl dX5_joinFamilies_64 (hp g (fun k hk => hg1 k (by omega))) (Nat.zero_le _) (Nat.zero_le _)
    · exact absurd c (by omega)
  | succ d ih =>
    intro i g hi1 hg1 hg2
    have h' := h.fam g
    obtain ⟨hx, hl, hn, hc, hnum, hinj⟩ := h'
    have hin : i < n := by omega
    have r1 := hf i hin
    have e1 := hg2 i (Nat.le_refl _) hin
    have mC := pwm_Copy (G := G) (X := X) (I := va_up I 2 g) (F := F) (R := R) (N := N) (O := O) (hc i hin).1 (hc i hin).2.1
    have nx : ∀ g' : Nat → Int, (∀ k, k < n → g' (cA k) = if k = i then (if f (cA k) = hi then lo else f (cA k)) else g (cA k)) → Z κ 7 G base mc ms post exc 0 0 16 [(5, .int (iI ((i + 1 : Nat) : Int))), (4, .int (iI hi)), (3, .int (iI lo)), (0, .ref x), (1, .int (iI u)), (2, .int (iI v))] [] (pw G X L K (va_up I 2 g') F R N O) := fun g' hg' => ih (i + 1) g' (by omega) (fun k hk => by
      rw [hg' k (by omega)]
      by_cases e : k = i
      · rw [if_pos e]
      · rw [if_neg e]; exact hg1 k (by omega)) (fun k hk1 hk2 => by
      rw [hg' k hk2, if_neg (by omega)]
      exact hg2 k (by omega) hk2)
    refine z_iload C 0 rfl dX5_joinFamilies_16 (rfl : 16 + 2 = 18) ?_
    refine z_aload_n C 3 rfl rfl dX5_joinFamilies_18 (rfl : 18 + 1 = 19) ?_
    refine z_get C (pwm_MC hx.1 hx.2.1) rfl iX5_joinFamilies_X5 1 (by decide) lX5_joinFamilies_f16 rfl rfl dX5_joinFamilies_19 (rfl : 19 + 3 = 22) ?_
    rw [hx.2.2]
    refine z_callV C 0 0 (c_list_size hl) gX5_joinFamilies_Jx4a65c_size_8abf5 rfl hd31_Jx4a65c_size_8abf5 ⟨Nat.le_of_ble_eq_true rfl, Nat.le_of_ble_eq_true rfl⟩ (pwm_AL hl.1 hl.2.1) rfl rfl (Nat.le_of_ble_eq_true rfl) dX5_joinFamilies_22 (rfl : 22 + 3 = 25) rfl rfl ⟨Nat.le_of_ble_eq_true rfl, Nat.le_of_ble_eq_true rfl⟩ (fun _ _ h => h.elim) ?_ rfl
    rintro _ _ ⟨rfl, rfl⟩
    refine z_v1 ?_
    refine z_icmp_ge (pt := 64) C dX5_joinFamilies_25 (by decide) (rfl : 25 + 3 = 28) (iI_le (by omega) (by omega)).1 (fun q => mt (iI_le (by omega) (by omega)).2 q) (fun c => ?_) (fun c => ?_)
    · exact absurd c (by omega)
    refine z_aload_n C 3 rfl rfl dX5_joinFamilies_28 (rfl : 28 + 1 = 29) ?_
    refine z_get C (pwm_MC hx.1 hx.2.1) rfl iX5_joinFamilies_X5 1 (by decide) lX5_joinFamilies_f16 rfl rfl dX5_joinFamilies_29 (rfl : 29 + 3 = 32) ?_
    rw [hx.2.2]
    refine z_iload C 0 rfl dX5_joinFamilies_32 (rfl : 32 + 2 = 34) ?_
    refine z_callV C 0 0 (c_list_get (i := i) hl hin) gX5_joinFamilies_Jx4a65c_get_915e3 rfl hd31_Jx4a65c_get_915e3 ⟨Nat.le_of_ble_eq_true rfl, Nat.le_of_ble_eq_true rfl⟩ (pwm_AL hl.1 hl.2.1) rfl rfl (Nat.le_of_ble_eq_true rfl) dX5_joinFamilies_34 (rfl : 34 + 3 = 37) rfl rfl ⟨Nat.le_of_ble_eq_true rfl, Nat.le_of_ble_eq_true rfl⟩ (fun _ _ h => h.elim) ?_ rfl
    rintro _ _ ⟨rfl, rfl⟩
    refine z_v1 ?_
    refine z_cast C mC rfl lX5_joinFamilies_c49 dX5_joinFamilies_37 (rfl : 37 + 3 = 40) ?_
    refine z_astore (lv' := [(6, _), (5, _), (4, _), (3, _), (0, _), (1, _), (2, _)]) C dX5_joinFamilies_40 (rfl : 40 + 2 = 42) (by decide) rfl ?_
    refine z_aload C 0 rfl dX5_joinFamilies_42 (rfl : 42 + 2 = 44) ?_
    refine z_get C mC rfl iX5_joinFamilies_X0 6 (by decide) lX5_joinFamilies_f127 rfl rfl dX5_joinFamilies_44 (rfl : 44 + 3 = 47) ?_
    rw [va_up_self, e1]
    refine z_iload C 2 rfl dX5_joinFamilies_47 (rfl : 47 + 2 = 49) ?_
    refine z_icmp_ne (pt := 58) C dX5_joinFamilies_49 (by decide) (rfl : 49 + 3 = 52) (fun q => mt (iI_eq (by omega) (by omega)).2 q) (iI_eq (by omega) (by omega)).1 (fun c2 => ?_) (fun c2 => ?_)
    · refine z_iinc (lv' := [(5, _), (6, _), (4, _), (3, _), (0, _), (1, _), (2, _)]) C 1 dX5_joinFamilies_58 (rfl : 58 + 3 = 61) rfl rfl (by decide) rfl ?_
      refine z_goto (pc' := 16) C dX5_joinFamilies_61 (by decide) ?_
      refine z_sub [0, 2, 3, 4, 5, 6] (lv' := [(5, .int (iI ((i + 1 : Nat) : Int))), (4, .int (iI hi)), (3, .int (iI lo)), (0, .ref x), (1, .int (iI u)), (2, .int (iI v))]) rfl ?_
      refine nx g (fun k hk => ?_)
      by_cases e : k = i
      · subst e; rw [if_pos rfl, if_neg c2, e1]
      · rw [if_neg e]
    · refine z_aload C 0 rfl dX5_joinFamilies_52 (rfl : 52 + 2 = 54) ?_
      refine z_iload_n C 3 rfl rfl dX5_joinFamilies_54 (rfl : 54 + 1 = 55) ?_
      refine z_put C tyX0 tyX0_ok nmX0 mC rfl iX5_joinFamilies_X0 6 (by decide) lX5_joinFamilies_f127 rfl rfl rfl rfl rfl (Nat.le_of_ble_eq_true rfl) dX5_joinFamilies_55 (rfl : 55 + 3 = 58) (pws_Copy_family (hc i hin).1 (hc i hin).2.1) ?_
      rw [up2_fam]
      refine z_iinc (lv' := [(5, _), (6, _), (4, _), (3, _), (0, _), (1, _), (2, _)]) C 1 dX5_joinFamilies_58 (rfl : 58 + 3 = 61) rfl rfl (by decide) rfl ?_
      refine z_goto (pc' := 16) C dX5_joinFamilies_61 (by decide) ?_
      refine z_sub [0, 2, 3, 4, 5, 6] (lv' := [(5, .int (iI ((i + 1 : Nat) : Int))), (4, .int (iI hi)), (3, .int (iI lo)), (0, .ref x), (1, .int (iI u)), (2, .int (iI v))]) rfl ?_
      refine nx _ (fun k hk => ?_)
      by_cases e : k = i
      · subst e; rw [if_pos rfl, va_up_self, if_pos c2]
      · rw [if_neg e, va_up_ne _ _ (fun q => e (hinj k i hk hin q))]
theorem c_X5_joinFamilies {a b : Int} (h : CPS L K I F N O de x cl ec n cA rA) (hf : rgF (I 2) n cA) (ha : 0 ≤ a ∧ a < 100) (hb : 0 ≤ b ∧ b < 100) : MC l yX5_joinFamilies wsX5_joinFamilies rmX5_joinFamilies G base [.ref x, .int (iI a), .int (iI b)] (pw G X L K I F R N O) (fun v w => v = none ∧ ∃ g : Nat → Int, (∀ k, k < n → g (cA k) = jnF a b (fun k => I 2 (cA k)) k) ∧ w = pw G X L K (va_up I 2 g) F R N O) (fun _ _ => False) := by
  refine MC.of (cc := cX5_joinFamilies) (by decide) rfl rfl (Nat.le_of_ble_eq_true rfl) ?_
  intro κ C hT hl hnm
  refine z_sub [0, 1, 2] (lv' := [(0, .ref x), (1, .int (iI a)), (2, .int (iI b))]) rfl ?_
  refine z_iload_n C 1 rfl rfl dX5_joinFamilies_0 (rfl : 0 + 1 = 1) ?_
  refine z_iload_n C 2 rfl rfl dX5_joinFamilies_1 (rfl : 1 + 1 = 2) ?_
  refine z_mmin C lX5_joinFamilies_m304 stX5_joinFamilies_min nX5_joinFamilies_Math cdX5_joinFamilies_min (by decide) (Nat.le_of_ble_eq_true rfl) (by decide) (by first | decide | (show _ ≤ 200; omega)) dX5_joinFamilies_2 (rfl : 2 + 3 = 5) ?_
  rw [iI_mn ha hb]
  refine z_istore_n (lv' := [(3, _), (0, _), (1, _), (2, _)]) C rfl dX5_joinFamilies_5 (rfl : 5 + 1 = 6) (by decide) rfl ?_
  refine z_iload_n C 2 rfl rfl dX5_joinFamilies_6 (rfl : 6 + 1 = 7) ?_
  refine z_iload_n C 3 rfl rfl dX5_joinFamilies_7 (rfl : 7 + 1 = 8) ?_
  refine z_mmax C lX5_joinFamilies_m310 stX5_joinFamilies_max nX5_joinFamilies_Math cdX5_joinFamilies_max (by decide) (Nat.le_of_ble_eq_true rfl) (by decide) (by first | decide | (show _ ≤ 200; omega)) dX5_joinFamilies_8 (rfl : 8 + 3 = 11) ?_
  rw [iI_mx ha hb]
  refine z_istore (lv' := [(4, _), (3, _), (0, _), (1, _), (2, _)]) C dX5_joinFamilies_11 (rfl : 11 + 2 = 13) (by decide) rfl ?_
  refine z_iconst C dX5_joinFamilies_13 (rfl : 13 + 1 = 14) ?_
  refine z_istore (lv' := [(5, _), (4, _), (3, _), (0, _), (1, _), (2, _)]) C dX5_joinFamilies_14 (rfl : 14 + 2 = 16) (by decide) rfl ?_
  have hh := lp_X5_join (mc := 0) (ms := 0) (u := a) (v := b) C h (I 2) (lo := min a b) (hi := max a b) (post := fun v w => v = none ∧ ∃ g : Nat → Int, (∀ k, k < n → g (cA k) = jnF a b (fun k => I 2 (cA k)) k) ∧ w = pw G X L K (va_up I 2 g) F R N O) (exc := fun _ _ => False) hf (by omega) (by omega) (fun g hg => ⟨rfl, g, hg, rfl⟩) n 0 (I 2) (by omega) (fun k hk => absurd hk (by omega)) (fun _ _ _ => rfl)
  rw [up_self] at hh
  exact hh
abbrev rmX5_enterFamily : Room := { frames := 4, cells := 0, slots := 0, locals := 100 }
theorem lp_X5_enter (C : Cx κ cX5_enterFamily 4 wsX5_enterFamily RX5 none rmX5_enterFamily G base) {V : Nat → Nat → Int} {k : Nat} (h : CPS L K I F N O de x cl ec n cA rA) (hv : CPV I R n cA rA) (hk : CPK V I F R n cA rA) (hkn : k < n)
    (hp : ∀ g : Nat → Int, rgF g n cA → IsFam V (k + 1) (fun i => g (cA i)) → post none (pw G X L K (va_up I 2 g) F R N O)) :
    ∀ (d i : Nat) (g : Nat → Int), i + d = k → rgF g n cA → EntF V k i (fun i => g (cA i)) → Z κ 4 G base mc ms post exc 0 0 10 [(2, .int (iI (i : Int))), (0, .ref x), (1, .ref (cA k))] [] (pw G X L K (va_up I 2 g) F R N O) := by
  intro d
  induction d with
  | zero =>
    intro i g hi1 hg1 hg2
    have h' := h.fam g
    obtain ⟨hx, hl, hn, hc, hnum, hinj⟩ := h'
    have e : i = k := by omega
    subst e
    refine z_iload_n C 0 rfl rfl dX5_enterFamily_10 (rfl : 10 + 1 = 11) ?_
    refine z_aload_n C 2 rfl rfl dX5_enterFamily_11 (rfl : 11 + 1 = 12) ?_
    refine z_get C (pwm_Copy (hc i hkn).1 (hc i hkn).2.1) rfl iX5_enterFamily_X0 0 (by decide) lX5_enterFamily_f118 rfl rfl dX5_enterFamily_12 (rfl : 12 + 3 = 15) ?_
    rw [hnum i hkn]
    refine z_icmp_ge (pt := 78) C dX5_enterFamily_15 (by decide) (rfl : 15 + 3 = 18) (iI_le (by omega) (by omega)).1 (fun q => mt (iI_le (by omega) (by omega)).2 q) (fun c => ?_) (fun c => ?_)
    · exact z_vret C rfl dX5_enterFamily_78 (hp g hg1 hg2.done) (Nat.zero_le _) (Nat.zero_le _)
    · exact absurd c (by omega)
  | succ d ih =>
    intro i g hi1 hg1 hg2
    have h' := h.fam g
    have hv' := hv.fam g
    obtain ⟨hx, hl, hn, hc, hnum, hinj⟩ := id h'
    have hik : i < k := by omega
    have hin : i < n := by omega
    have r1 := hg1 i hin
    have r2 := hg1 k hkn
    have mC := pwm_Copy (G := G) (X := X) (I := va_up I 2 g) (F := F) (R := R) (N := N) (O := O) (hc i hin).1 (hc i hin).2.1
    have mK := pwm_Copy (G := G) (X := X) (I := va_up I 2 g) (F := F) (R := R) (N := N) (O := O) (hc k hkn).1 (hc k hkn).2.1
    refine z_iload_n C 0 rfl rfl dX5_enterFamily_10 (rfl : 10 + 1 = 11) ?_
    refine z_aload_n C 2 rfl rfl dX5_enterFamily_11 (rfl : 11 + 1 = 12) ?_
    refine z_get C mK rfl iX5_enterFamily_X0 0 (by decide) lX5_enterFamily_f118 rfl rfl dX5_enterFamily_12 (rfl : 12 + 3 = 15) ?_
    rw [hnum k hkn]
    refine z_icmp_ge (pt := 78) C dX5_enterFamily_15 (by decide) (rfl : 15 + 3 = 18) (iI_le (by omega) (by omega)).1 (fun q => mt (iI_le (by omega) (by omega)).2 q) (fun c => ?_) (fun c => ?_)
    · exact absurd c (by omega)
    refine z_iload_n C 0 rfl rfl dX5_enterFamily_18 (rfl : 18 + 1 = 19) ?_
    refine z_aload_n C 1 rfl rfl dX5_enterFamily_19 (rfl : 19 + 1 = 20) ?_
    refine z_get C (pwm_MC hx.1 hx.2.1) rfl iX5_enterFamily_X5 1 (by decide) lX5_enterFamily_f16 rfl rfl dX5_enterFamily_20 (rfl : 20 + 3 = 23) ?_
    rw [hx.2.2]
    refine z_callV C 0 0 (c_list_size hl) gX5_enterFamily_Jx4a65c_size_8abf5 rfl hd31_Jx4a65c_size_8abf5 ⟨Nat.le_of_ble_eq_true rfl, Nat.le_of_ble_eq_true rfl⟩ (pwm_AL hl.1 hl.2.1) rfl rfl (Nat.le_of_ble_eq_true rfl) dX5_enterFamily_23 (rfl : 23 + 3 = 26) rfl rfl ⟨Nat.le_of_ble_eq_true rfl, Nat.le_of_ble_eq_true rfl⟩ (fun _ _ h => h.elim) ?_ rfl
    rintro _ _ ⟨rfl, rfl⟩
    refine z_v1 ?_
    refine z_icmp_ge (pt := 78) C dX5_enterFamily_26 (by decide) (rfl : 26 + 3 = 29) (iI_le (by omega) (by omega)).1 (fun q => mt (iI_le (by omega) (by omega)).2 q) (fun c2 => ?_) (fun c2 => ?_)
    · exact absurd c2 (by omega)
    refine z_aload_n C 1 rfl rfl dX5_enterFamily_29 (rfl : 29 + 1 = 30) ?_
    refine z_get C (pwm_MC hx.1 hx.2.1) rfl iX5_enterFamily_X5 1 (by decide) lX5_enterFamily_f16 rfl rfl dX5_enterFamily_30 (rfl : 30 + 3 = 33) ?_
    rw [hx.2.2]
    refine z_iload_n C 0 rfl rfl dX5_enterFamily_33 (rfl : 33 + 1 = 34) ?_
    refine z_callV C 0 0 (c_list_get (i := i) hl hin) gX5_enterFamily_Jx4a65c_get_915e3 rfl hd31_Jx4a65c_get_915e3 ⟨Nat.le_of_ble_eq_true rfl, Nat.le_of_ble_eq_true rfl⟩ (pwm_AL hl.1 hl.2.1) rfl rfl (Nat.le_of_ble_eq_true rfl) dX5_enterFamily_34 (rfl : 34 + 3 = 37) rfl rfl ⟨Nat.le_of_ble_eq_true rfl, Nat.le_of_ble_eq_true rfl⟩ (fun _ _ h => h.elim) ?_ rfl
    rintro _ _ ⟨rfl, rfl⟩
    refine z_v1 ?_
    refine z_cast C mC rfl lX5_enterFamily_c49 dX5_enterFamily_37 (rfl : 37 + 3 = 40) ?_
    refine z_astore_n (lv' := [(3, _), (2, _), (0, _), (1, _)]) C rfl dX5_enterFamily_40 (rfl : 40 + 1 = 41) (by decide) rfl ?_
    refine z_aload_n C 0 rfl rfl dX5_enterFamily_41 (rfl : 41 + 1 = 42) ?_
    refine z_get C mC rfl iX5_enterFamily_X0 6 (by decide) lX5_enterFamily_f127 rfl rfl dX5_enterFamily_42 (rfl : 42 + 3 = 45) ?_
    rw [va_up_self]
    refine z_aload_n C 3 rfl rfl dX5_enterFamily_45 (rfl : 45 + 1 = 46) ?_
    refine z_get C mK rfl iX5_enterFamily_X0 6 (by decide) lX5_enterFamily_f127 rfl rfl dX5_enterFamily_46 (rfl : 46 + 3 = 49) ?_
    rw [va_up_self]
    refine z_icmp_eq (pt := 72) C dX5_enterFamily_49 (by decide) (rfl : 49 + 3 = 52) (iI_eq (by omega) (by omega)).1 (fun q => mt (iI_eq (by omega) (by omega)).2 q) (fun c3 => ?_) (fun c3 => ?_)
    · refine z_iinc (lv' := [(2, _), (3, _), (0, _), (1, _)]) C 1 dX5_enterFamily_72 (rfl : 72 + 3 = 75) rfl rfl (by decide) rfl ?_
      refine z_goto (pc' := 10) C dX5_enterFamily_75 (by decide) ?_
      refine z_sub [0, 2, 3] (lv' := [(2, .int (iI ((i + 1 : Nat) : Int))), (0, .ref x), (1, .ref (cA k))]) rfl ?_
      exact ih (i + 1) g (by omega) hg1 (hg2.skip (.inl c3))
    refine z_aload_n C 3 rfl rfl dX5_enterFamily_52 (rfl : 52 + 1 = 53) ?_
    refine z_aload_n C 0 rfl rfl dX5_enterFamily_53 (rfl : 53 + 1 = 54) ?_
    refine z_callV C 0 0 (c_X0_isKinOf (hc k hkn) (hc i hin) (hv' k hkn).1 (hv' i hin).1 (hv' k hkn).2 (hv' i hin).2) gX5_enterFamily_X0_isKinOf rfl hd31_X0_isKinOf ⟨Nat.le_of_ble_eq_true rfl, Nat.le_of_ble_eq_true rfl⟩ mK rfl rfl (Nat.le_of_ble_eq_true rfl) dX5_enterFamily_54 (rfl : 54 + 3 = 57) rfl rfl ⟨Nat.le_of_ble_eq_true rfl, Nat.le_of_ble_eq_true rfl⟩ (fun _ _ h => h.elim) ?_ rfl
    rintro _ _ ⟨rfl, rfl⟩
    refine z_v1 ?_
    rw [tmo_fam, tmo_fam]
    have hkk := hk k i hkn hin
    refine z_if_eq (pt := 72) C dX5_enterFamily_57 (by decide) (rfl : 57 + 3 = 60) (iI_eq0 (by split <;> omega)).1 (fun q => mt (iI_eq0 (by split <;> omega)).2 q) (fun c4 => ?_) (fun c4 => ?_)
    · refine z_iinc (lv' := [(2, _), (3, _), (0, _), (1, _)]) C 1 dX5_enterFamily_72 (rfl : 72 + 3 = 75) rfl rfl (by decide) rfl ?_
      refine z_goto (pc' := 10) C dX5_enterFamily_75 (by decide) ?_
      refine z_sub [0, 2, 3] (lv' := [(2, .int (iI ((i + 1 : Nat) : Int))), (0, .ref x), (1, .ref (cA k))]) rfl ?_
      refine ih (i + 1) g (by omega) hg1 (hg2.skip (.inr ?_))
      cases hq : kinV V k i with
      | false => rfl
      | true => rw [if_pos (hkk.mpr hq)] at c4; omega
    · have hq : kinV V k i = true := by
        by_cases q : (tmo I F (cA k) = some (cA i) ∨ tmo I F (cA i) = some (cA k) ∨ 0 < shc (R (rA k)) (R (rA i)) 24)
        · exact hkk.mp q
        · rw [if_neg q] at c4; omega
      refine z_aload_n C 2 rfl rfl dX5_enterFamily_60 (rfl : 60 + 1 = 61) ?_
      refine z_aload_n C 0 rfl rfl dX5_enterFamily_61 (rfl : 61 + 1 = 62) ?_
      refine z_get C mC rfl iX5_enterFamily_X0 6 (by decide) lX5_enterFamily_f127 rfl rfl dX5_enterFamily_62 (rfl : 62 + 3 = 65) ?_
      rw [va_up_self]
      refine z_aload_n C 3 rfl rfl dX5_enterFamily_65 (rfl : 65 + 1 = 66) ?_
      refine z_get C mK rfl iX5_enterFamily_X0 6 (by decide) lX5_enterFamily_f127 rfl rfl dX5_enterFamily_66 (rfl : 66 + 3 = 69) ?_
      rw [va_up_self]
      refine z_callV C 0 0 (c_X5_joinFamilies h' (by rw [va_up_self]; exact hg1) r1 r2) gX5_enterFamily_X5_joinFamilies rfl hd31_X5_joinFamilies ⟨Nat.le_of_ble_eq_true rfl, Nat.le_of_ble_eq_true rfl⟩ (pwm_MC hx.1 hx.2.1) rfl rfl (Nat.le_of_ble_eq_true rfl) dX5_enterFamily_69 (rfl : 69 + 3 = 72) rfl rfl ⟨Nat.le_of_ble_eq_true rfl, Nat.le_of_ble_eq_true rfl⟩ (fun _ _ h => h.elim) ?_ rfl
      rintro _ _ ⟨rfl, g', hg', rfl⟩
      refine z_v0 ?_
      rw [up_up]
      rw [va_up_self] at hg'
      refine z_iinc (lv' := [(2, _), (3, _), (0, _), (1, _)]) C 1 dX5_enterFamily_72 (rfl : 72 + 3 = 75) rfl rfl (by decide) rfl ?_
      refine z_goto (pc' := 10) C dX5_enterFamily_75 (by decide) ?_
      refine z_sub [0, 2, 3] (lv' := [(2, .int (iI ((i + 1 : Nat) : Int))), (0, .ref x), (1, .ref (cA k))]) rfl ?_
      refine ih (i + 1) g' (by omega) (fun j hj => ?_) ?_
      · rw [hg' j hj]
        have r3 := hg1 j hj
        simp only [jnF]
        split <;> omega
      · have hj := hg2.join hik hq
        refine ⟨fun j hj1 => ?_, fun a b ha hb hab => ?_, fun j hj1 hj2 => ?_⟩
        · obtain ⟨r, a1, a2⟩ := hj.1 j hj1
          exact ⟨r, (hg' j (by omega)).trans a1, a2⟩
        · exact ((hg' a (by omega)).trans (hj.2.1 a b ha hb hab)).trans (hg' b (by omega)).symm
        · exact ((hg' k hkn).trans (hj.2.2 j hj1 hj2)).trans (hg' j (by omega)).symm
theorem c_X5_enterFamily {V : Nat → Nat → Int} {k : Nat} (h : CPS L K I F N O de x cl ec n cA rA) (hv : CPV I R n cA rA) (hk : CPK V I F R n cA rA) (hkn : k < n) (hf : rgF (I 2) n cA) (hF : IsFam V k (fun i => I 2 (cA i))) : MC l yX5_enterFamily wsX5_enterFamily rmX5_enterFamily G base [.ref x, .ref (cA k)] (pw G X L K I F R N O) (fun v w => v = none ∧ ∃ g : Nat → Int, rgF g n cA ∧ IsFam V (k + 1) (fun i => g (cA i)) ∧ w = pw G X L K (va_up I 2 g) F R N O) (fun _ _ => False) := by
  refine MC.of (cc := cX5_enterFamily) (by decide) rfl rfl (Nat.le_of_ble_eq_true rfl) ?_
  intro κ C hT hl hnm
  obtain ⟨hx, hl, hn, hc, hnum, hinj⟩ := id h
  refine z_sub [0, 1] (lv' := [(0, .ref x), (1, .ref (cA k))]) rfl ?_
  refine z_aload_n C 1 rfl rfl dX5_enterFamily_0 (rfl : 0 + 1 = 1) ?_
  refine z_aload_n C 1 rfl rfl dX5_enterFamily_1 (rfl : 1 + 1 = 2) ?_
  refine z_get C (pwm_Copy (hc k hkn).1 (hc k hkn).2.1) rfl iX5_enterFamily_X0 0 (by decide) lX5_enterFamily_f118 rfl rfl dX5_enterFamily_2 (rfl : 2 + 3 = 5) ?_
  rw [hnum k hkn]
  refine z_put C tyX0 tyX0_ok nmX0 (pwm_Copy (hc k hkn).1 (hc k hkn).2.1) rfl iX5_enterFamily_X0 6 (by decide) lX5_enterFamily_f127 rfl rfl rfl rfl rfl (Nat.le_of_ble_eq_true rfl) dX5_enterFamily_5 (rfl : 5 + 3 = 8) (pws_Copy_family (hc k hkn).1 (hc k hkn).2.1) ?_
  refine z_iconst C dX5_enterFamily_8 (rfl : 8 + 1 = 9) ?_
  refine z_istore_n (lv' := [(2, _), (0, _), (1, _)]) C rfl dX5_enterFamily_9 (rfl : 9 + 1 = 10) (by decide) rfl ?_
  refine lp_X5_enter C h hv hk hkn (fun g h1 h2 => ⟨rfl, g, h1, h2, rfl⟩) k 0 (va_up (I 2) (cA k) (k : Int)) (by omega) (fun j hj => ?_) ?_
  · simp only [va_up]
    split
    · omega
    · exact hf j hj
  · have e := EntF.start hF
    refine ⟨fun j hj => ?_, fun a b ha hb hab => ?_, fun j hj => absurd hj (by omega)⟩
    · obtain ⟨r, a1, a2⟩ := e.1 j hj
      refine ⟨r, ?_, a2⟩
      rw [← a1]
      by_cases q : j = k
      · subst q; simp [va_up]
      · simp only [if_neg q]
        exact va_up_ne _ _ (fun z => q (hinj j k (by omega) hkn z))
    · have e2 := e.2.1 a b ha hb hab
      simp only [if_neg (show ¬ a = k by omega), if_neg (show ¬ b = k by omega)] at e2
      show va_up (I 2) (cA k) (k : Int) (cA a) = va_up (I 2) (cA k) (k : Int) (cA b)
      rw [va_up_ne _ _ (fun z => (show ¬ a = k by omega) (hinj a k (by omega) hkn z)), va_up_ne _ _ (fun z => (show ¬ b = k by omega) (hinj b k (by omega) hkn z))]
      exact e2
abbrev rmX5_findFamiliesAnew : Room := { frames := 5, cells := 0, slots := 0, locals := 130 }
theorem lp_X5_ffa (C : Cx κ cX5_findFamiliesAnew 2 wsX5_findFamiliesAnew RX5 none rmX5_findFamiliesAnew G base) {V : Nat → Nat → Int} (h : CPS L K I F N O de x cl ec n cA rA) (hv : CPV I R n cA rA) (hk : CPK V I F R n cA rA)
    (hp : ∀ g : Nat → Int, rgF g n cA → IsFam V n (fun i => g (cA i)) → post none (pw G X L K (va_up I 2 g) F R N O)) :
    ∀ (d i : Nat) (g : Nat → Int), i + d = n → rgF g n cA → IsFam V i (fun i => g (cA i)) → Z κ 2 G base mc ms post exc 0 0 2 [(1, .int (iI (i : Int))), (0, .ref x)] [] (pw G X L K (va_up I 2 g) F R N O) := by
  intro d
  induction d with
  | zero =>
    intro i g hi1 hg1 hg2
    have h' := h.fam g
    obtain ⟨hx, hl, hn, hc, hnum, hinj⟩ := h'
    have e : i = n := by omega
    subst e
    refine z_iload_n C 0 rfl rfl dX5_findFamiliesAnew_2 (rfl : 2 + 1 = 3) ?_
    refine z_aload_n C 1 rfl rfl dX5_findFamiliesAnew_3 (rfl : 3 + 1 = 4) ?_
    refine z_get C (pwm_MC hx.1 hx.2.1) rfl iX5_findFamiliesAnew_X5 1 (by decide) lX5_findFamiliesAnew_f16 rfl rfl dX5_findFamiliesAnew_4 (rfl : 4 + 3 = 7) ?_
    rw [hx.2.2]
    refine z_callV C 0 0 (c_list_size hl) gX5_findFamiliesAnew_Jx4a65c_size_8abf5 rfl hd31_Jx4a65c_size_8abf5 ⟨Nat.le_of_ble_eq_true rfl, Nat.le_of_ble_eq_true rfl⟩ (pwm_AL hl.1 hl.2.1) rfl rfl (Nat.le_of_ble_eq_true rfl) dX5_findFamiliesAnew_7 (rfl : 7 + 3 = 10) rfl rfl ⟨Nat.le_of_ble_eq_true rfl, Nat.le_of_ble_eq_true rfl⟩ (fun _ _ h => h.elim) ?_ rfl
    rintro _ _ ⟨rfl, rfl⟩
    refine z_v1 ?_
    refine z_icmp_ge (pt := 34) C dX5_findFamiliesAnew_10 (by decide) (rfl : 10 + 3 = 13) (iI_le (by omega) (by omega)).1 (fun q => mt (iI_le (by omega) (by omega)).2 q) (fun c => ?_) (fun c => ?_)
    · exact z_vret C rfl dX5_findFamiliesAnew_34 (hp g hg1 hg2) (Nat.zero_le _) (Nat.zero_le _)
    · exact absurd c (by omega)
  | succ d ih =>
    intro i g hi1 hg1 hg2
    have h' := h.fam g
    have hv' := hv.fam g
    obtain ⟨hx, hl, hn, hc, hnum, hinj⟩ := id h'
    have hin : i < n := by omega
    have mC := pwm_Copy (G := G) (X := X) (I := va_up I 2 g) (F := F) (R := R) (N := N) (O := O) (hc i hin).1 (hc i hin).2.1
    refine z_iload_n C 0 rfl rfl dX5_findFamiliesAnew_2 (rfl : 2 + 1 = 3) ?_
    refine z_aload_n C 1 rfl rfl dX5_findFamiliesAnew_3 (rfl : 3 + 1 = 4) ?_
    refine z_get C (pwm_MC hx.1 hx.2.1) rfl iX5_findFamiliesAnew_X5 1 (by decide) lX5_findFamiliesAnew_f16 rfl rfl dX5_findFamiliesAnew_4 (rfl : 4 + 3 = 7) ?_
    rw [hx.2.2]
    refine z_callV C 0 0 (c_list_size hl) gX5_findFamiliesAnew_Jx4a65c_size_8abf5 rfl hd31_Jx4a65c_size_8abf5 ⟨Nat.le_of_ble_eq_true rfl, Nat.le_of_ble_eq_true rfl⟩ (pwm_AL hl.1 hl.2.1) rfl rfl (Nat.le_of_ble_eq_true rfl) dX5_findFamiliesAnew_7 (rfl : 7 + 3 = 10) rfl rfl ⟨Nat.le_of_ble_eq_true rfl, Nat.le_of_ble_eq_true rfl⟩ (fun _ _ h => h.elim) ?_ rfl
    rintro _ _ ⟨rfl, rfl⟩
    refine z_v1 ?_
    refine z_icmp_ge (pt := 34) C dX5_findFamiliesAnew_10 (by decide) (rfl : 10 + 3 = 13) (iI_le (by omega) (by omega)).1 (fun q => mt (iI_le (by omega) (by omega)).2 q) (fun c => ?_) (fun c => ?_)
    · exact absurd c (by omega)
    refine z_aload_n C 1 rfl rfl dX5_findFamiliesAnew_13 (rfl : 13 + 1 = 14) ?_
    refine z_aload_n C 1 rfl rfl dX5_findFamiliesAnew_14 (rfl : 14 + 1 = 15) ?_
    refine z_get C (pwm_MC hx.1 hx.2.1) rfl iX5_findFamiliesAnew_X5 1 (by decide) lX5_findFamiliesAnew_f16 rfl rfl dX5_findFamiliesAnew_15 (rfl : 15 + 3 = 18) ?_
    rw [hx.2.2]
    refine z_iload_n C 0 rfl rfl dX5_findFamiliesAnew_18 (rfl : 18 + 1 = 19) ?_
    refine z_callV C 0 0 (c_list_get (i := i) hl hin) gX5_findFamiliesAnew_Jx4a65c_get_915e3 rfl hd31_Jx4a65c_get_915e3 ⟨Nat.le_of_ble_eq_true rfl, Nat.le_of_ble_eq_true rfl⟩ (pwm_AL hl.1 hl.2.1) rfl rfl (Nat.le_of_ble_eq_true rfl) dX5_findFamiliesAnew_19 (rfl : 19 + 3 = 22) rfl rfl ⟨Nat.le_of_ble_eq_true rfl, Nat.le_of_ble_eq_true rfl⟩ (fun _ _ h => h.elim) ?_ rfl
    rintro _ _ ⟨rfl, rfl⟩
    refine z_v1 ?_
    refine z_cast C mC rfl lX5_findFamiliesAnew_c49 dX5_findFamiliesAnew_22 (rfl : 22 + 3 = 25) ?_
    refine z_callV C 0 0 (c_X5_enterFamily h' hv' (hk.fam g) hin (by rw [va_up_self]; exact hg1) (by rw [va_up_self]; exact hg2)) gX5_findFamiliesAnew_X5_enterFamily rfl hd31_X5_enterFamily ⟨Nat.le_of_ble_eq_true rfl, Nat.le_of_ble_eq_true rfl⟩ (pwm_MC hx.1 hx.2.1) rfl rfl (Nat.le_of_ble_eq_true rfl) dX5_findFamiliesAnew_25 (rfl : 25 + 3 = 28) rfl rfl ⟨Nat.le_of_ble_eq_true rfl, Nat.le_of_ble_eq_true rfl⟩ (fun _ _ h => h.elim) ?_ rfl
    rintro _ _ ⟨rfl, g', h1, h2, rfl⟩
    refine z_v0 ?_
    rw [up_up]
    refine z_iinc (lv' := [(1, _), (0, _)]) C 0 dX5_findFamiliesAnew_28 (rfl : 28 + 3 = 31) rfl rfl (by decide) rfl ?_
    refine z_goto (pc' := 2) C dX5_findFamiliesAnew_31 (by decide) ?_
    refine z_sub [0, 1] (lv' := [(1, .int (iI ((i + 1 : Nat) : Int))), (0, .ref x)]) rfl ?_
    exact ih (i + 1) g' (by omega) h1 h2
theorem c_X5_findFamiliesAnew {V : Nat → Nat → Int} (h : CPS L K I F N O de x cl ec n cA rA) (hv : CPV I R n cA rA) (hk : CPK V I F R n cA rA) (hf : rgF (I 2) n cA) : MC l yX5_findFamiliesAnew wsX5_findFamiliesAnew rmX5_findFamiliesAnew G base [.ref x] (pw G X L K I F R N O) (fun v w => v = none ∧ ∃ g : Nat → Int, rgF g n cA ∧ IsFam V n (fun i => g (cA i)) ∧ w = pw G X L K (va_up I 2 g) F R N O) (fun _ _ => False) := by
  refine MC.of (cc := cX5_findFamiliesAnew) (by decide) rfl rfl (Nat.le_of_ble_eq_true rfl) ?_
  intro κ C hT hl hnm
  refine z_iconst C dX5_findFamiliesAnew_0 (rfl : 0 + 1 = 1) ?_
  refine z_istore_n (lv' := [(1, _), (0, _)]) C rfl dX5_findFamiliesAnew_1 (rfl : 1 + 1 = 2) (by decide) rfl ?_
  have hh := lp_X5_ffa (mc := 0) (ms := 0) C h hv hk (post := fun v w => v = none ∧ ∃ g : Nat → Int, rgF g n cA ∧ IsFam V n (fun i => g (cA i)) ∧ w = pw G X L K (va_up I 2 g) F R N O) (exc := fun _ _ => False) (fun g h1 h2 => ⟨rfl, g, h1, h2, rfl⟩) n 0 (I 2) (by omega) hf (fun i hi => absurd hi (by omega))
  rw [up_self] at hh
  exact hh
end
