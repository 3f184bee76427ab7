theorem lL_get_k9 : Cond.constantLong RL 9 15 ∈ wsL_get := by decide +kernel
theorem lL_put_k9 : Cond.constantLong RL 9 15 ∈ wsL_put := by decide +kernel
theorem lL_put_k11 : Cond.constantLong RL 11 (-1) ∈ wsL_put := by decide +kernel
theorem hd82_L_get : yL_get.cls ≠ "java/lang/invoke/MethodHandle" ∧ yL_get.cls ≠ "java/lang/invoke/VarHandle" ∧ (parseMethodDescriptor yL_get.desc).map (fun d => d.parameters.length) = some 2 := by decide +kernel
theorem lL_from_k8 : Cond.constant RL 8 2147483647 ∈ wsL_from := by decide +kernel
theorem lL_from_k7 : Cond.constant RL 7 217643 ∈ wsL_from := by decide +kernel
section
variable {κ : KxT} {G : GG} {base mc ms : Nat} {post : Option Value → va_W → Prop} {exc : String → va_W → Prop} {q : Nat → Nat} {V : Nat → Nat → Int} {B : Nat → Nat → Int64} {A : Nat → Nat → Int} {Y : va_W} {l : Launch} {n m t : Nat}
abbrev rmL_place : Room := { frames := 0, cells := 0, slots := 0, locals := 0 }
theorem c_L_place {k : Nat} (hk : k < 12) {ws : va_W} : MC l yL_place wsL_place rmL_place G base [.int (iI (k : Int))] ws (fun v w => v = some (.int (iI ((plc k : Nat) : Int))) ∧ w = ws) (fun _ _ => False) := by
  refine MC.of (cc := cL_place) (by decide) rfl rfl (Nat.le_of_ble_eq_true rfl) ?_
  intro κ C hT hl hnm
  refine z_sub [0] (lv' := [(0, .int (iI (k : Int)))]) rfl ?_
  refine z_iload_n C 0 rfl rfl dL_place_0 (rfl : 0 + 1 = 1) ?_
  refine z_bipush (c := 11) C (by decide) dL_place_1 (rfl : 1 + 2 = 3) ?_
  refine z_icmp_ne (pt := 11) C dL_place_3 (by decide) (rfl : 3 + 3 = 6) (fun q => mt (iI_eq (by omega) (by omega)).2 q) (iI_eq (by omega) (by omega)).1 (fun c => ?_) (fun c => ?_)
  · refine z_iconst C dL_place_11 (rfl : 11 + 1 = 12) ?_
    refine z_iload_n C 0 rfl rfl dL_place_12 (rfl : 12 + 1 = 13) ?_
    refine z_imul C dL_place_13 (rfl : 13 + 1 = 14) rfl ?_
    refine z_topi (y := iI ((plc k : Nat) : Int)) (by rw [show ((plc k : Nat) : Int) = 2 * (k : Int) from by unfold plc; split <;> omega]) ?_
    exact z_iret C rfl dL_place_14 ⟨rfl, rfl⟩ (Nat.le_refl _) (Nat.le_refl _)
  · refine z_bipush (c := 23) C (by decide) dL_place_6 (rfl : 6 + 2 = 8) ?_
    refine z_goto (pc' := 14) C dL_place_8 (by decide) ?_
    refine z_topi (y := iI ((plc k : Nat) : Int)) (by rw [show ((plc k : Nat) : Int) = 23 from by unfold plc; split <;> omega]) ?_
    exact z_iret C rfl dL_place_14 ⟨rfl, rfl⟩ (Nat.le_refl _) (Nat.le_refl _)
abbrev rmL_get : Room := { frames := 0, cells := 0, slots := 0, locals := 0 }
theorem c_L_get {x : Int64} {k : Nat} {ws : va_W} : MC l yL_get wsL_get rmL_get G base [.long x, .int (iI (k : Int))] ws (fun v w => v = some (.int (nibt x k)) ∧ w = ws) (fun _ _ => False) := by
  refine MC.of (cc := cL_get) (by decide) rfl rfl (Nat.le_of_ble_eq_true rfl) ?_
  intro κ C hT hl hnm
  refine z_sub [0, 1] (lv' := [(0, .long x), (2, .int (iI (k : Int)))]) rfl ?_
  refine z_lload_n C 0 rfl rfl dL_get_0 (rfl : 0 + 1 = 1) ?_
  refine z_iconst C dL_get_1 (rfl : 1 + 1 = 2) ?_
  refine z_iload_n C 1 rfl rfl dL_get_2 (rfl : 2 + 1 = 3) ?_
  refine z_imul C dL_get_3 (rfl : 3 + 1 = 4) rfl ?_
  refine z_lshr C rfl dL_get_4 (rfl : 4 + 1 = 5) ?_
  refine z_ldc2 C (C.hts lL_get_k9) dL_get_5 (rfl : 5 + 3 = 8) ?_
  refine z_land C dL_get_8 (rfl : 8 + 1 = 9) ?_
  refine z_l2i C rfl dL_get_9 (rfl : 9 + 1 = 10) ?_
  exact z_iret C rfl dL_get_10 ⟨rfl, rfl⟩ (Nat.le_refl _) (Nat.le_refl _)
abbrev rmL_put : Room := { frames := 0, cells := 0, slots := 0, locals := 0 }
theorem c_L_put {x : Int64} {k : Nat} {r : Int} {ws : va_W} : MC l yL_put wsL_put rmL_put G base [.long x, .int (iI (k : Int)), .int (iI r)] ws (fun v w => v = some (.long (pubt x k r)) ∧ w = ws) (fun _ _ => False) := by
  refine MC.of (cc := cL_put) (by decide) rfl rfl (Nat.le_of_ble_eq_true rfl) ?_
  intro κ C hT hl hnm
  refine z_sub [0, 1, 2] (lv' := [(0, .long x), (2, .int (iI (k : Int))), (3, .int (iI r))]) rfl ?_
  refine z_lload_n C 0 rfl rfl dL_put_0 (rfl : 0 + 1 = 1) ?_
  refine z_ldc2 C (C.hts lL_put_k9) dL_put_1 (rfl : 1 + 3 = 4) ?_
  refine z_iconst C dL_put_4 (rfl : 4 + 1 = 5) ?_
  refine z_iload_n C 1 rfl rfl dL_put_5 (rfl : 5 + 1 = 6) ?_
  refine z_imul C dL_put_6 (rfl : 6 + 1 = 7) rfl ?_
  refine z_lshl C rfl dL_put_7 (rfl : 7 + 1 = 8) ?_
  refine z_ldc2 C (C.hts lL_put_k11) dL_put_8 (rfl : 8 + 3 = 11) ?_
  refine z_lxor C dL_put_11 (rfl : 11 + 1 = 12) ?_
  refine z_land C dL_put_12 (rfl : 12 + 1 = 13) ?_
  refine z_iload_n C 2 rfl rfl dL_put_13 (rfl : 13 + 1 = 14) ?_
  refine z_i2l C rfl dL_put_14 (rfl : 14 + 1 = 15) ?_
  refine z_iconst C dL_put_15 (rfl : 15 + 1 = 16) ?_
  refine z_iload_n C 1 rfl rfl dL_put_16 (rfl : 16 + 1 = 17) ?_
  refine z_imul C dL_put_17 (rfl : 17 + 1 = 18) rfl ?_
  refine z_lshl C rfl dL_put_18 (rfl : 18 + 1 = 19) ?_
  refine z_lor C dL_put_19 (rfl : 19 + 1 = 20) ?_
  exact z_lret C rfl dL_put_20 ⟨rfl, rfl⟩ (Nat.le_refl _) (Nat.le_refl _)
abbrev rmL_shared : Room := { frames := 1, cells := 0, slots := 0, locals := 40 }
theorem lp_L_shared (C : Cx κ cL_shared 6 wsL_shared RL (some .int) rmL_shared G base) {x y : Int64} {f g : Nat → Int} {ws : va_W} (hx : ∀ k, k < 12 → nibt x k = iI (f k) ∧ 0 ≤ f k ∧ f k ≤ 9) (hy : ∀ k, k < 12 → nibt y k = iI (g k) ∧ 0 ≤ g k ∧ g k ≤ 9)
    (hq : post (some (.int (iI (shc f g 12)))) ws) :
    ∀ (d i : Nat), i + d = 12 → Z κ 6 G base mc ms post exc 0 0 6 [(5, .int (iI (i : Int))), (4, .int (iI (shc f g i))), (0, .long x), (2, .long y)] [] ws := by
  intro d
  induction d with
  | zero =>
    intro i hi
    have e : i = 12 := by omega
    subst e
    refine z_iload C 0 rfl dL_shared_6 (rfl : 6 + 2 = 8) ?_
    refine z_bipush (c := 12) C (by decide) dL_shared_8 (rfl : 8 + 2 = 10) ?_
    refine z_icmp_ge (pt := 53) C dL_shared_10 (by decide) (rfl : 10 + 3 = 13) (iI_le (by omega) (by omega)).1 (fun q => mt (iI_le (by omega) (by omega)).2 q) (fun c => ?_) (fun c => ?_)
    · refine z_iload C 1 rfl dL_shared_53 (rfl : 53 + 2 = 55) ?_
      exact z_iret C rfl dL_shared_55 hq (Nat.zero_le _) (Nat.zero_le _)
    · exact absurd c (by omega)
  | succ d ih =>
    intro i hi
    have x1 := hx i (by omega)
    have y1 := hy i (by omega)
    refine z_iload C 0 rfl dL_shared_6 (rfl : 6 + 2 = 8) ?_
    refine z_bipush (c := 12) C (by decide) dL_shared_8 (rfl : 8 + 2 = 10) ?_
    refine z_icmp_ge (pt := 53) C dL_shared_10 (by decide) (rfl : 10 + 3 = 13) (iI_le (by omega) (by omega)).1 (fun q => mt (iI_le (by omega) (by omega)).2 q) (fun c => ?_) (fun c => ?_)
    · exact absurd c (by omega)
    refine z_iload C 1 rfl dL_shared_13 (rfl : 13 + 2 = 15) ?_
    refine z_lload_n C 2 rfl rfl dL_shared_15 (rfl : 15 + 1 = 16) ?_
    refine z_iload C 0 rfl dL_shared_16 (rfl : 16 + 2 = 18) ?_
    refine z_callS C 0 0 c_L_get gL_shared_L_get rfl hd82_L_get ⟨Nat.le_of_ble_eq_true rfl, Nat.le_of_ble_eq_true rfl⟩ rfl (Nat.le_of_ble_eq_true rfl) dL_shared_18 (rfl : 18 + 3 = 21) rfl rfl ⟨Nat.le_of_ble_eq_true rfl, Nat.le_of_ble_eq_true rfl⟩ (fun _ _ h => h.elim) ?_ rfl
    rintro _ _ ⟨rfl, rfl⟩
    refine z_v1 (z_topi x1.1 ?_)
    refine z_if_le (pt := 43) C dL_shared_21 (by decide) (rfl : 21 + 3 = 24) (iI_le0 (by omega)).1 (fun q => mt (iI_le0 (by omega)).2 q) (fun c1 => ?_) (fun c1 => ?_)
    · refine z_iconst C dL_shared_43 (rfl : 43 + 1 = 44) ?_
      refine z_iadd C dL_shared_44 (rfl : 44 + 1 = 45) rfl ?_
      refine z_topi (y := iI (shc f g (i + 1))) (by simp only [shc]; rw [if_neg (fun h => h.1 (by omega)), Int.add_zero]) ?_
      refine z_istore (lv' := [(4, _), (5, _), (0, _), (2, _)]) C dL_shared_45 (rfl : 45 + 2 = 47) (by decide) rfl ?_
      refine z_iinc (lv' := [(5, _), (4, _), (0, _), (2, _)]) C 1 dL_shared_47 (rfl : 47 + 3 = 50) rfl rfl (by decide) rfl ?_
      refine z_goto (pc' := 6) C dL_shared_50 (by decide) ?_
      exact z_sub [0, 1, 2, 3] rfl (ih (i + 1) (by omega))
    refine z_lload_n C 2 rfl rfl dL_shared_24 (rfl : 24 + 1 = 25) ?_
    refine z_iload C 0 rfl dL_shared_25 (rfl : 25 + 2 = 27) ?_
    refine z_callS C 0 0 c_L_get gL_shared_L_get rfl hd82_L_get ⟨Nat.le_of_ble_eq_true rfl, Nat.le_of_ble_eq_true rfl⟩ rfl (Nat.le_of_ble_eq_true rfl) dL_shared_27 (rfl : 27 + 3 = 30) rfl rfl ⟨Nat.le_of_ble_eq_true rfl, Nat.le_of_ble_eq_true rfl⟩ (fun _ _ h => h.elim) ?_ rfl
    rintro _ _ ⟨rfl, rfl⟩
    refine z_v1 (z_topi x1.1 ?_)
    refine z_lload_n C 3 rfl rfl dL_shared_30 (rfl : 30 + 1 = 31) ?_
    refine z_iload C 0 rfl dL_shared_31 (rfl : 31 + 2 = 33) ?_
    refine z_callS C 0 0 c_L_get gL_shared_L_get rfl hd82_L_get ⟨Nat.le_of_ble_eq_true rfl, Nat.le_of_ble_eq_true rfl⟩ rfl (Nat.le_of_ble_eq_true rfl) dL_shared_33 (rfl : 33 + 3 = 36) rfl rfl ⟨Nat.le_of_ble_eq_true rfl, Nat.le_of_ble_eq_true rfl⟩ (fun _ _ h => h.elim) ?_ rfl
    rintro _ _ ⟨rfl, rfl⟩
    refine z_v1 (z_topi y1.1 ?_)
    refine z_icmp_ne (pt := 43) C dL_shared_36 (by decide) (rfl : 36 + 3 = 39) (fun q => mt (iI_eq (by omega) (by omega)).2 q) (iI_eq (by omega) (by omega)).1 (fun c2 => ?_) (fun c2 => ?_)
    · refine z_iconst C dL_shared_43 (rfl : 43 + 1 = 44) ?_
      refine z_iadd C dL_shared_44 (rfl : 44 + 1 = 45) rfl ?_
      refine z_topi (y := iI (shc f g (i + 1))) (by simp only [shc]; rw [if_neg (fun h => c2 h.2), Int.add_zero]) ?_
      refine z_istore (lv' := [(4, _), (5, _), (0, _), (2, _)]) C dL_shared_45 (rfl : 45 + 2 = 47) (by decide) rfl ?_
      refine z_iinc (lv' := [(5, _), (4, _), (0, _), (2, _)]) C 1 dL_shared_47 (rfl : 47 + 3 = 50) rfl rfl (by decide) rfl ?_
      refine z_goto (pc' := 6) C dL_shared_50 (by decide) ?_
      exact z_sub [0, 1, 2, 3] rfl (ih (i + 1) (by omega))
    refine z_iconst C dL_shared_39 (rfl : 39 + 1 = 40) ?_
    refine z_goto (pc' := 44) C dL_shared_40 (by decide) ?_
    refine z_iadd C dL_shared_44 (rfl : 44 + 1 = 45) rfl ?_
    refine z_topi (y := iI (shc f g (i + 1))) (by simp only [shc]; rw [if_pos ⟨by omega, c2⟩]) ?_
    refine z_istore (lv' := [(4, _), (5, _), (0, _), (2, _)]) C dL_shared_45 (rfl : 45 + 2 = 47) (by decide) rfl ?_
    refine z_iinc (lv' := [(5, _), (4, _), (0, _), (2, _)]) C 1 dL_shared_47 (rfl : 47 + 3 = 50) rfl rfl (by decide) rfl ?_
    refine z_goto (pc' := 6) C dL_shared_50 (by decide) ?_
    exact z_sub [0, 1, 2, 3] rfl (ih (i + 1) (by omega))
theorem c_L_shared {x y : Int64} {f g : Nat → Int} {ws : va_W} (hx : ∀ k, k < 12 → nibt x k = iI (f k) ∧ 0 ≤ f k ∧ f k ≤ 9) (hy : ∀ k, k < 12 → nibt y k = iI (g k) ∧ 0 ≤ g k ∧ g k ≤ 9) : MC l yL_shared wsL_shared rmL_shared G base [.long x, .long y] ws (fun v w => v = some (.int (iI (shc f g 12))) ∧ w = ws) (fun _ _ => False) := by
  refine MC.of (cc := cL_shared) (by decide) rfl rfl (Nat.le_of_ble_eq_true rfl) ?_
  intro κ C hT hl hnm
  refine z_sub [0, 1] (lv' := [(0, .long x), (2, .long y)]) rfl ?_
  refine z_iconst C dL_shared_0 (rfl : 0 + 1 = 1) ?_
  refine z_istore (lv' := [(4, _), (0, _), (2, _)]) C dL_shared_1 (rfl : 1 + 2 = 3) (by decide) rfl ?_
  refine z_iconst C dL_shared_3 (rfl : 3 + 1 = 4) ?_
  refine z_istore (lv' := [(5, _), (4, _), (0, _), (2, _)]) C dL_shared_4 (rfl : 4 + 2 = 6) (by decide) rfl ?_
  exact z_sub [0, 1, 2, 3] rfl (lp_L_shared C hx hy ⟨rfl, rfl⟩ 12 0 rfl)
abbrev rmL_errors : Room := { frames := 1, cells := 0, slots := 0, locals := 40 }
theorem lp_L_errors (C : Cx κ cL_errors 4 wsL_errors RL (some .int) rmL_errors G base) {x : Int64} {f : Nat → Int} {ws : va_W} (hx : ∀ k, k < 12 → nibt x k = iI (f k) ∧ 0 ≤ f k ∧ f k ≤ 9)
    (hq : post (some (.int (iI (shc f f 12)))) ws) :
    ∀ (d i : Nat), i + d = 12 → Z κ 4 G base mc ms post exc 0 0 4 [(3, .int (iI (i : Int))), (2, .int (iI (shc f f i))), (0, .long x)] [] ws := by
  intro d
  induction d with
  | zero =>
    intro i hi
    have e : i = 12 := by omega
    subst e
    refine z_iload_n C 0 rfl rfl dL_errors_4 (rfl : 4 + 1 = 5) ?_
    refine z_bipush (c := 12) C (by decide) dL_errors_5 (rfl : 5 + 2 = 7) ?_
    refine z_icmp_ge (pt := 32) C dL_errors_7 (by decide) (rfl : 7 + 3 = 10) (iI_le (by omega) (by omega)).1 (fun q => mt (iI_le (by omega) (by omega)).2 q) (fun c => ?_) (fun c => ?_)
    · refine z_iload_n C 1 rfl rfl dL_errors_32 (rfl : 32 + 1 = 33) ?_
      exact z_iret C rfl dL_errors_33 hq (Nat.zero_le _) (Nat.zero_le _)
    · exact absurd c (by omega)
  | succ d ih =>
    intro i hi
    have x1 := hx i (by omega)
    refine z_iload_n C 0 rfl rfl dL_errors_4 (rfl : 4 + 1 = 5) ?_
    refine z_bipush (c := 12) C (by decide) dL_errors_5 (rfl : 5 + 2 = 7) ?_
    refine z_icmp_ge (pt := 32) C dL_errors_7 (by decide) (rfl : 7 + 3 = 10) (iI_le (by omega) (by omega)).1 (fun q => mt (iI_le (by omega) (by omega)).2 q) (fun c => ?_) (fun c => ?_)
    · exact absurd c (by omega)
    refine z_iload_n C 1 rfl rfl dL_errors_10 (rfl : 10 + 1 = 11) ?_
    refine z_lload_n C 2 rfl rfl dL_errors_11 (rfl : 11 + 1 = 12) ?_
    refine z_iload_n C 0 rfl rfl dL_errors_12 (rfl : 12 + 1 = 13) ?_
    refine z_callS C 0 0 c_L_get gL_errors_L_get rfl hd82_L_get ⟨Nat.le_of_ble_eq_true rfl, Nat.le_of_ble_eq_true rfl⟩ rfl (Nat.le_of_ble_eq_true rfl) dL_errors_13 (rfl : 13 + 3 = 16) rfl rfl ⟨Nat.le_of_ble_eq_true rfl, Nat.le_of_ble_eq_true rfl⟩ (fun _ _ h => h.elim) ?_ rfl
    rintro _ _ ⟨rfl, rfl⟩
    refine z_v1 (z_topi x1.1 ?_)
    refine z_if_le (pt := 23) C dL_errors_16 (by decide) (rfl : 16 + 3 = 19) (iI_le0 (by omega)).1 (fun q => mt (iI_le0 (by omega)).2 q) (fun c1 => ?_) (fun c1 => ?_)
    · refine z_iconst C dL_errors_23 (rfl : 23 + 1 = 24) ?_
      refine z_iadd C dL_errors_24 (rfl : 24 + 1 = 25) rfl ?_
      refine z_topi (y := iI (shc f f (i + 1))) (by simp only [shc]; rw [if_neg (fun h => h.1 (by omega)), Int.add_zero]) ?_
      refine z_istore_n (lv' := [(2, _), (3, _), (0, _)]) C rfl dL_errors_25 (rfl : 25 + 1 = 26) (by decide) rfl ?_
      refine z_iinc (lv' := [(3, _), (2, _), (0, _)]) C 1 dL_errors_26 (rfl : 26 + 3 = 29) rfl rfl (by decide) rfl ?_
      refine z_goto (pc' := 4) C dL_errors_29 (by decide) ?_
      exact z_sub [0, 1, 2] rfl (ih (i + 1) (by omega))
    refine z_iconst C dL_errors_19 (rfl : 19 + 1 = 20) ?_
    refine z_goto (pc' := 24) C dL_errors_20 (by decide) ?_
    refine z_iadd C dL_errors_24 (rfl : 24 + 1 = 25) rfl ?_
    refine z_topi (y := iI (shc f f (i + 1))) (by simp only [shc]; rw [if_pos ⟨by omega, trivial⟩]) ?_
    refine z_istore_n (lv' := [(2, _), (3, _), (0, _)]) C rfl dL_errors_25 (rfl : 25 + 1 = 26) (by decide) rfl ?_
    refine z_iinc (lv' := [(3, _), (2, _), (0, _)]) C 1 dL_errors_26 (rfl : 26 + 3 = 29) rfl rfl (by decide) rfl ?_
    refine z_goto (pc' := 4) C dL_errors_29 (by decide) ?_
    exact z_sub [0, 1, 2] rfl (ih (i + 1) (by omega))
theorem c_L_errors {x : Int64} {f : Nat → Int} {ws : va_W} (hx : ∀ k, k < 12 → nibt x k = iI (f k) ∧ 0 ≤ f k ∧ f k ≤ 9) : MC l yL_errors wsL_errors rmL_errors G base [.long x] ws (fun v w => v = some (.int (iI (shc f f 12))) ∧ w = ws) (fun _ _ => False) := by
  refine MC.of (cc := cL_errors) (by decide) rfl rfl (Nat.le_of_ble_eq_true rfl) ?_
  intro κ C hT hl hnm
  refine z_sub [0] (lv' := [(0, .long x)]) rfl ?_
  refine z_iconst C dL_errors_0 (rfl : 0 + 1 = 1) ?_
  refine z_istore_n (lv' := [(2, _), (0, _)]) C rfl dL_errors_1 (rfl : 1 + 1 = 2) (by decide) rfl ?_
  refine z_iconst C dL_errors_2 (rfl : 2 + 1 = 3) ?_
  refine z_istore_n (lv' := [(3, _), (2, _), (0, _)]) C rfl dL_errors_3 (rfl : 3 + 1 = 4) (by decide) rfl ?_
  exact z_sub [0, 1, 2] rfl (lp_L_errors C hx ⟨rfl, rfl⟩ 12 0 rfl)
abbrev rmL_lowest : Room := { frames := 0, cells := 0, slots := 0, locals := 0 }
theorem lp_L_lowest (C : Cx κ cL_lowest 2 wsL_lowest RL (some .int) rmL_lowest G base) {x : Int32} {z : Nat} {ws : va_W} (hz : z < 16) (h1 : ibt x z = true) (h0 : ∀ j, j < z → ibt x j = false)
    (hq : post (some (.int (iI (z : Int)))) ws) :
    ∀ (d i : Nat), i + d = z → Z κ 2 G base mc ms post exc 0 0 2 [(1, .int (iI (i : Int))), (0, .int x)] [] ws := by
  intro d
  induction d with
  | zero =>
    intro i hi
    have e : i = z := by omega
    subst e
    refine z_iload_n C 1 rfl rfl dL_lowest_2 (rfl : 2 + 1 = 3) ?_
    refine z_iload_n C 0 rfl rfl dL_lowest_3 (rfl : 3 + 1 = 4) ?_
    refine z_ishr C dL_lowest_4 (rfl : 4 + 1 = 5) ?_
    refine z_iconst C dL_lowest_5 (rfl : 5 + 1 = 6) ?_
    refine z_iand C dL_lowest_6 (rfl : 6 + 1 = 7) ?_
    refine z_if_ne (pt := 16) C dL_lowest_7 (by decide) (rfl : 7 + 3 = 10) (fun q => mt (Iff.rfl).2 q) (Iff.rfl).1 (fun c => ?_) (fun c => ?_)
    · refine z_iload_n C 0 rfl rfl dL_lowest_16 (rfl : 16 + 1 = 17) ?_
      exact z_iret C rfl dL_lowest_17 hq (Nat.zero_le _) (Nat.zero_le _)
    · rw [ibt_t0 x (by omega), h1] at c
      cases c
  | succ d ih =>
    intro i hi
    refine z_iload_n C 1 rfl rfl dL_lowest_2 (rfl : 2 + 1 = 3) ?_
    refine z_iload_n C 0 rfl rfl dL_lowest_3 (rfl : 3 + 1 = 4) ?_
    refine z_ishr C dL_lowest_4 (rfl : 4 + 1 = 5) ?_
    refine z_iconst C dL_lowest_5 (rfl : 5 + 1 = 6) ?_
    refine z_iand C dL_lowest_6 (rfl : 6 + 1 = 7) ?_
    refine z_if_ne (pt := 16) C dL_lowest_7 (by decide) (rfl : 7 + 3 = 10) (fun q => mt (Iff.rfl).2 q) (Iff.rfl).1 (fun c => ?_) (fun c => ?_)
    · exact absurd ((ibt_t0 x (by omega)).mpr (h0 i (by omega))) c
    refine z_iinc (lv' := [(1, _), (0, _)]) C 0 dL_lowest_10 (rfl : 10 + 3 = 13) rfl rfl (by decide) rfl ?_
    refine z_goto (pc' := 2) C dL_lowest_13 (by decide) ?_
    exact ih (i + 1) (by omega)
theorem c_L_lowest {x : Int32} {z : Nat} {ws : va_W} (hz : z < 16) (h1 : ibt x z = true) (h0 : ∀ j, j < z → ibt x j = false) : MC l yL_lowest wsL_lowest rmL_lowest G base [.int x] ws (fun v w => v = some (.int (iI (z : Int))) ∧ w = ws) (fun _ _ => False) := by
  refine MC.of (cc := cL_lowest) (by decide) rfl rfl (Nat.le_of_ble_eq_true rfl) ?_
  intro κ C hT hl hnm
  refine z_sub [0] (lv' := [(0, .int x)]) rfl ?_
  refine z_iconst C dL_lowest_0 (rfl : 0 + 1 = 1) ?_
  refine z_istore_n (lv' := [(1, _), (0, _)]) C rfl dL_lowest_1 (rfl : 1 + 1 = 2) (by decide) rfl ?_
  exact lp_L_lowest C hz h1 h0 ⟨rfl, rfl⟩ z 0 (by omega)
abbrev rmL_late : Room := { frames := 0, cells := 0, slots := 0, locals := 0 }
theorem c_L_late {i : Nat} (hi : i < t) (hI : LInv V n m t) (hm : LWrm V A n m t) (ho : LWro V A t) : MC l yL_late wsL_late rmL_late G base [.ref (q 5), .ref (q 8), .int (iI (i : Int))] (lwW G q B A ++ Y) (fun v w => v = some (.int (iI (if V 20 i = 1 then V 19 i else lateOf (V 9 0) (V 17 i)))) ∧ w = (lwW G q B A ++ Y)) (fun _ _ => False) := by
  refine MC.of (cc := cL_late) (by decide) rfl rfl (Nat.le_of_ble_eq_true rfl) ?_
  intro κ C hT hl hnm
  have o1 := ho i hi
  have hb := hI.2.2.1
  have b1 := (hI.1.2.2.2.2.2.2.2.2.2.1 i hi).2.2.1
  have b2 := hI.1.2.2.2.2.2.2.2.2.2.2.1 i (by omega)
  have b3 := hI.1.2.2.2.2.2.2.2.2.2.2.2
  refine z_sub [0, 1, 2] (lv' := [(0, .ref (q 5)), (1, .ref (q 8)), (2, .int (iI (i : Int)))]) rfl ?_
  refine z_aload_n C 1 rfl rfl dL_late_0 (rfl : 0 + 1 = 1) ?_
  refine z_iconst C dL_late_1 (rfl : 1 + 1 = 2) ?_
  refine z_iald C lwm_8 ⟨by omega, by omega⟩ (by omega) (rdA hm.2.2.1 (by omega)) dL_late_2 (rfl : 2 + 1 = 3) ?_
  refine z_aload_n C 0 rfl rfl dL_late_3 (rfl : 3 + 1 = 4) ?_
  refine z_bipush (c := 6) C (by decide) dL_late_4 (rfl : 4 + 2 = 6) ?_
  refine z_iload_n C 2 rfl rfl dL_late_6 (rfl : 6 + 1 = 7) ?_
  refine z_imul C dL_late_7 (rfl : 7 + 1 = 8) rfl ?_
  refine z_iconst C dL_late_8 (rfl : 8 + 1 = 9) ?_
  refine z_iadd C dL_late_9 (rfl : 9 + 1 = 10) rfl ?_
  refine z_iald C lwm_5 ⟨by omega, by omega⟩ (by omega) (rdA o1.2.2.1 (by omega)) dL_late_10 (rfl : 10 + 1 = 11) ?_
  refine z_isub C dL_late_11 (rfl : 11 + 1 = 12) rfl ?_
  refine z_istore_n (lv' := [(3, _), (0, _), (1, _), (2, _)]) C rfl dL_late_12 (rfl : 12 + 1 = 13) (by decide) rfl ?_
  refine z_aload_n C 1 rfl rfl dL_late_13 (rfl : 13 + 1 = 14) ?_
  refine z_bipush (c := 6) C (by decide) dL_late_14 (rfl : 14 + 2 = 16) ?_
  refine z_iload_n C 3 rfl rfl dL_late_16 (rfl : 16 + 1 = 17) ?_
  refine z_imul C dL_late_17 (rfl : 17 + 1 = 18) rfl ?_
  refine z_iconst C dL_late_18 (rfl : 18 + 1 = 19) ?_
  refine z_iadd C dL_late_19 (rfl : 19 + 1 = 20) rfl ?_
  refine z_iald C lwm_5 ⟨by omega, by omega⟩ (by omega) (rdA o1.2.2.2.2.2 (by omega)) dL_late_20 (rfl : 20 + 1 = 21) ?_
  refine z_iconst C dL_late_21 (rfl : 21 + 1 = 22) ?_
  refine z_icmp_ne (pt := 36) C dL_late_22 (by decide) (rfl : 22 + 3 = 25) (fun q => mt (iI_eq (by omega) (by omega)).2 q) (iI_eq (by omega) (by omega)).1 (fun c => ?_) (fun c => ?_)
  · rw [if_neg c]
    unfold lateOf
    refine z_iload_n C 0 rfl rfl dL_late_36 (rfl : 36 + 1 = 37) ?_
    refine z_if_le (pt := 44) C dL_late_37 (by decide) (rfl : 37 + 3 = 40) (iI_le0 (by omega)).1 (fun q => mt (iI_le0 (by omega)).2 q) (fun c2 => ?_) (fun c2 => ?_)
    · refine z_iconst C dL_late_44 (rfl : 44 + 1 = 45) ?_
      rw [if_neg (by omega)]
      exact z_iret C rfl dL_late_45 ⟨rfl, rfl⟩ (Nat.le_refl _) (Nat.le_refl _)
    · refine z_iload_n C 0 rfl rfl dL_late_40 (rfl : 40 + 1 = 41) ?_
      refine z_goto (pc' := 45) C dL_late_41 (by decide) ?_
      rw [if_pos (by omega)]
      exact z_iret C rfl dL_late_45 ⟨rfl, rfl⟩ (Nat.le_refl _) (Nat.le_refl _)
  · refine z_aload_n C 1 rfl rfl dL_late_25 (rfl : 25 + 1 = 26) ?_
    refine z_bipush (c := 6) C (by decide) dL_late_26 (rfl : 26 + 2 = 28) ?_
    refine z_iload_n C 3 rfl rfl dL_late_28 (rfl : 28 + 1 = 29) ?_
    refine z_imul C dL_late_29 (rfl : 29 + 1 = 30) rfl ?_
    refine z_iconst C dL_late_30 (rfl : 30 + 1 = 31) ?_
    refine z_iadd C dL_late_31 (rfl : 31 + 1 = 32) rfl ?_
    refine z_iald C lwm_5 ⟨by omega, by omega⟩ (by omega) (rdA (o1.2.2.2.2.1 c) (by omega)) dL_late_32 (rfl : 32 + 1 = 33) ?_
    rw [if_pos c]
    refine z_goto (pc' := 45) C dL_late_33 (by decide) ?_
    exact z_iret C rfl dL_late_45 ⟨rfl, rfl⟩ (Nat.le_refl _) (Nat.le_refl _)
end
section
variable {κ : KxT} {G : GG} {base mc ms b Ln : Nat} {xs : Nat → Int32} {post : Option Value → va_W → Prop} {exc : String → va_W → Prop} {l : Launch} {ws : va_W}
abbrev rmL_from : Room := { frames := 0, cells := 0, slots := 0, locals := 0 }
theorem tl_L_from (C : Cx κ cL_from 4 wsL_from RL (some .int) rmL_from G base) {k w : Int} (hw : 0 < w ∧ w < 2147483648) (hq : ∀ z : Int, 0 ≤ z ∧ z < w → post (some (.int (iI z))) ws) (X : Int32) : Z κ 4 G base mc ms post exc 0 0 28 [(0, .ref b), (1, .int (iI k)), (2, .int (iI w))] [.int X] ws := by
  obtain ⟨z, hz, e⟩ := iI_and31 X
  have h1 := Int.emod_nonneg z (show w ≠ 0 by omega)
  have h2 := Int.emod_lt_of_pos z hw.1
  refine z_istore_n (lv' := [(3, _), (0, _), (1, _), (2, _)]) C rfl dL_from_28 (rfl : 28 + 1 = 29) (by decide) rfl ?_
  refine z_iload_n C 0 rfl rfl dL_from_29 (rfl : 29 + 1 = 30) ?_
  refine z_ldc C (C.hts lL_from_k8) dL_from_30 (rfl : 30 + 2 = 32) ?_
  refine z_topi (y := iI 2147483647) (by decide +kernel) ?_
  refine z_iand C dL_from_32 (rfl : 32 + 1 = 33) ?_
  refine z_topi e ?_
  refine z_iload_n C 3 rfl rfl dL_from_33 (rfl : 33 + 1 = 34) ?_
  refine z_irem C ⟨by omega, by omega⟩ ⟨by omega, by omega⟩ rfl dL_from_34 (rfl : 34 + 1 = 35) ?_
  exact z_iret C rfl dL_from_35 (hq _ ⟨h1, h2⟩) (Nat.zero_le _) (Nat.zero_le _)
theorem c_L_from {k w : Int} (hL : Ln ≤ 260) (hk : 0 ≤ k ∧ k < 1000) (hw : 0 < w ∧ w < 2147483648) : MCS l yL_from wsL_from rmL_from G base b Ln xs [.ref b, .int (iI k), .int (iI w)] ws (fun v u => u = ws ∧ ∃ z : Int, (0 ≤ z ∧ z < w) ∧ v = some (.int (iI z))) := by
  refine MCS.of (cc := cL_from) (by decide) rfl rfl (Nat.le_of_ble_eq_true rfl) ?_
  intro κ C S hl
  refine z_sub [0, 1, 2] (lv' := [(0, .ref b), (1, .int (iI k)), (2, .int (iI w))]) rfl ?_
  refine z_aload_n C 0 rfl rfl dL_from_0 (rfl : 0 + 1 = 1) ?_
  refine z_slen C S dL_from_1 (rfl : 1 + 1 = 2) ?_
  refine z_if_ne (pt := 17) C dL_from_2 (by decide) (rfl : 2 + 3 = 5) (fun q => mt (iI_eq0 (by omega)).2 q) (iI_eq0 (by omega)).1 (fun c => ?_) (fun c => ?_)
  · have h1 := Int.emod_nonneg k (show (Ln : Int) ≠ 0 by omega)
    have h2 := Int.emod_lt_of_pos k (show 0 < (Ln : Int) by omega)
    refine z_aload_n C 0 rfl rfl dL_from_17 (rfl : 17 + 1 = 18) ?_
    refine z_iload_n C 1 rfl rfl dL_from_18 (rfl : 18 + 1 = 19) ?_
    refine z_aload_n C 0 rfl rfl dL_from_19 (rfl : 19 + 1 = 20) ?_
    refine z_slen C S dL_from_20 (rfl : 20 + 1 = 21) ?_
    refine z_irem C ⟨by omega, by omega⟩ ⟨by omega, by omega⟩ rfl dL_from_21 (rfl : 21 + 1 = 22) ?_
    refine z_sld C S ⟨by omega, by omega⟩ (by omega) dL_from_22 (rfl : 22 + 1 = 23) ?_
    refine z_ldc C (C.hts lL_from_k7) dL_from_23 (rfl : 23 + 2 = 25) ?_
    refine z_topi (y := iI 217643) (by decide +kernel) ?_
    refine z_iload_n C 1 rfl rfl dL_from_25 (rfl : 25 + 1 = 26) ?_
    refine z_imul C dL_from_26 (rfl : 26 + 1 = 27) rfl ?_
    refine z_ixor C dL_from_27 (rfl : 27 + 1 = 28) ?_
    exact tl_L_from C hw (fun z hz => ⟨rfl, z, hz, rfl⟩) _
  · refine z_sipush (c := 277) C (by decide) dL_from_5 (rfl : 5 + 3 = 8) ?_
    refine z_iload_n C 1 rfl rfl dL_from_8 (rfl : 8 + 1 = 9) ?_
    refine z_imul C dL_from_9 (rfl : 9 + 1 = 10) rfl ?_
    refine z_sipush (c := 251) C (by decide) dL_from_10 (rfl : 10 + 3 = 13) ?_
    refine z_iadd C dL_from_13 (rfl : 13 + 1 = 14) rfl ?_
    refine z_goto (pc' := 28) C dL_from_14 (by decide) ?_
    exact tl_L_from C hw (fun z hz => ⟨rfl, z, hz, rfl⟩) _
end
