theorem iX5_init_Jx4a65c : ∀ w ∈ wsJx4a65c0, w ∈ wsX5_init := by decide +kernel
theorem lX5_init_c7 : Cond.classLink RX5 7 "java/util/ArrayList" ∈ wsX5_init := by decide +kernel
theorem nnX5_init_Jx4a65c : Cond.instantiable "java/util/ArrayList" 3 ∈ wsX5_init := by decide +kernel
theorem niX5_init_Jx4a65c : Cond.initialized "java/util/ArrayList" ∈ wsX5_init := by decide +kernel
theorem hd58_Jx4a65c_init_da8c8 : yJx4a65c_init_da8c8.cls ≠ "java/lang/invoke/MethodHandle" ∧ yJx4a65c_init_da8c8.cls ≠ "java/lang/invoke/VarHandle" ∧ (parseMethodDescriptor yJx4a65c_init_da8c8.desc).map (fun d => d.parameters.length) = some 0 := by decide +kernel
theorem lX5_init_m9 : Cond.methodLink RX5 9 yJx4a65c_init_da8c8 ∈ wsX5_init := by decide +kernel
theorem nX5_init_Jx4a65c_init_da8c8 : Cond.initialized yJx4a65c_init_da8c8.cls ∈ wsX5_init := by decide +kernel
theorem vX5_init_Jx4a65c_init_da8c8 : Cond.instanceMethod yJx4a65c_init_da8c8 ∈ wsX5_init := by decide +kernel
theorem lX5_init_f10 : Cond.fieldLink RX5 10 "ModelCopies" "houses" "Ljava/util/ArrayList;" ∈ wsX5_init := by decide +kernel
theorem iX5_init_X5 : ∀ w ∈ wsX50, w ∈ wsX5_init := by decide +kernel
theorem lX5_init_f16 : Cond.fieldLink RX5 16 "ModelCopies" "copies" "Ljava/util/ArrayList;" ∈ wsX5_init := by decide +kernel
theorem lX5_init_f19 : Cond.fieldLink RX5 19 "ModelCopies" "letters" "Ljava/util/ArrayList;" ∈ wsX5_init := by decide +kernel
theorem lX5_init_f22 : Cond.fieldLink RX5 22 "ModelCopies" "loans" "Ljava/util/ArrayList;" ∈ wsX5_init := by decide +kernel
/-- the object while its lists are made -/
def PIN (de : Nat) (L : List Nat) (K : Nat → Nat) (I : Nat → Nat → Int) (F : Nat → Nat → Option Nat) (x : Nat) (gl : Nat → Nat) (j : Nat) : Prop :=
  (x ∈ L ∧ K x = 5) ∧ (∀ i, i < j → gl i ∈ L ∧ K (gl i) = 6 ∧ I 16 (gl i) = 0 ∧ F 14 (gl i) = some de ∧ F (8 + i) x = some (gl i)) ∧ ∀ i k, i < j → k < j → gl i = gl k → i = k
theorem PIN.step {de : Nat} {L : List Nat} {K : Nat → Nat} {I : Nat → Nat → Int} {F : Nat → Nat → Option Nat} {x q j : Nat} {gl : Nat → Nat} (h : PIN de L K I F x gl j) (hq : q ∉ L) (hj : j < 4) :
    PIN de (L ++ [q]) (va_up K q 6) (up2 (up2 (up2 I 15 q 0) 16 q 0) 15 q 0) (up2 (up2 (up2 F 14 q none) 14 q (some de)) (8 + j) x (some q)) x (va_up gl j q) (j + 1) := by
  obtain ⟨⟨h1, h2⟩, h3, h4⟩ := h
  have nx : x ≠ q := fun e => hq (e ▸ h1)
  have nk : ∀ i, i < j → gl i ≠ q := fun i hi e => hq (e ▸ (h3 i hi).1)
  have nxx : ∀ i, i < j → gl i ≠ x := fun i hi e => by
    have := (h3 i hi).2.1
    rw [e] at this
    omega
  refine ⟨⟨List.mem_append_left _ h1, (upne h1 hq).trans h2⟩, fun i hi => ?_, fun i k hi hk e => ?_⟩
  · by_cases c : i = j
    · subst c
      rw [va_up_self]
      exact ⟨by simp, va_up_self _ _ _, by rw [up2_ne _ _ (by omega), up2_at], by rw [up2_ne _ _ (by omega), up2_at], up2_at _ _ _ _⟩
    · rw [va_up_ne _ _ c]
      obtain ⟨a1, a2, a3, a4, a5⟩ := h3 i (by omega)
      have n1 := nk i (by omega)
      exact ⟨List.mem_append_left _ a1, (upne a1 hq).trans a2, by rw [up2_ne _ _ (by omega), up2_ne _ _ (by omega), up2_ne _ _ (by omega)]; exact a3, by rw [up2_ne _ _ (by omega), up2_ne _ _ (by omega), up2_ne _ _ (by omega)]; exact a4, by rw [up2_ne _ _ (by omega), up2_ne _ _ (by omega), up2_ne _ _ (by omega)]; exact a5⟩
  · by_cases c : i = j
    · by_cases c2 : k = j
      · omega
      · subst c
        rw [va_up_self, va_up_ne _ _ c2] at e
        exact absurd e.symm (nk k (by omega))
    · by_cases c2 : k = j
      · subst c2
        rw [va_up_self, va_up_ne _ _ c] at e
        exact absurd e (nk i (by omega))
      · rw [va_up_ne _ _ c, va_up_ne _ _ c2] at e
        exact h4 i k (by omega) (by omega) e
section
variable {κ : KxT} {G : GG} {base mc ms : Nat} {post : Option Value → va_W → Prop} {exc : String → va_W → Prop} {X : va_W} {L : List Nat} {K : Nat → Nat} {I : Nat → Nat → Int} {F : Nat → Nat → Option Nat} {R : Nat → Nat → Int} {N : Nat → Nat} {O : Nat → Nat → Option Nat} {l : Launch}
abbrev rmX5_init : Room := { frames := 7, cells := 80, slots := 6000, locals := 300 }
theorem tl_X5_i0 (C : Cx κ cX5_init 3 wsX5_init RX5 none rmX5_init G base) {x : Nat} {gl : Nat → Nat} (hi : (kM κ).name = "<init>") (h : PIN (gde G) L K I F x gl 0)
    (kk : ∀ (L : List Nat) (K : Nat → Nat) (I : Nat → Nat → Int) (F : Nat → Nat → Option Nat) (gl : Nat → Nat), PIN (gde G) L K I F x gl 1 → Z κ 3 G base mc ms post exc 1 3 15 [(0, .ref x)] [] (pw G X L K I F R N O)) : Z κ 3 G base mc ms post exc 0 0 4 [(0, .ref x)] [] (pw G X L K I F R N O) := by
  refine z_aload_n C 0 rfl rfl dX5_init_4 (rfl : 4 + 1 = 5) ?_
  refine z_new (ci := 0) (fs := [.int 0, .null, .int 0]) C tyJx4a65c tyJx4a65c_ok iX5_init_Jx4a65c lX5_init_c7 nnX5_init_Jx4a65c niX5_init_Jx4a65c rfl (by decide) (Nat.le_of_ble_eq_true rfl) (Nat.le_of_ble_eq_true rfl) dX5_init_5 (rfl : 5 + 3 = 8) (fun q hq => ?_)
  refine z_ws (pwn_AL hq) ?_
  have hqL : q ∉ L := pw_fresh hq
  have hqq : q ∈ L ++ [q] := by simp
  refine z_dup C rfl dX5_init_8 (rfl : 8 + 1 = 9) ?_
  refine z_callI C 1 3 (c_AL_init hqq (va_up_self _ _ _)) gX5_init_Jx4a65c_init_da8c8 rfl nX5_init_Jx4a65c_init_da8c8 lX5_init_m9 vX5_init_Jx4a65c_init_da8c8 rfl hd58_Jx4a65c_init_da8c8 ⟨Nat.le_of_ble_eq_true rfl, Nat.le_of_ble_eq_true rfl⟩ rfl (Nat.le_of_ble_eq_true rfl) dX5_init_9 (rfl : 9 + 3 = 12) rfl rfl ⟨Nat.le_of_ble_eq_true rfl, Nat.le_of_ble_eq_true rfl⟩ (fun _ _ h => h.elim) ?_ rfl
  rintro _ _ ⟨rfl, rfl⟩
  refine z_v0 ?_
  refine z_putF C hi tyX5 tyX5_ok nmX5 (pwm_MC (List.mem_append_left _ h.1.1) ((upne h.1.1 hqL).trans h.1.2)) rfl iX5_init_X5 0 (by decide) lX5_init_f10 rfl rfl rfl rfl rfl (Nat.le_of_ble_eq_true rfl) dX5_init_12 (rfl : 12 + 3 = 15) (pws_MC_houses (z := some q) (List.mem_append_left _ h.1.1) ((upne h.1.1 hqL).trans h.1.2)) ?_
  exact kk _ _ _ _ _ (h.step hqL (by decide))
theorem tl_X5_i1 (C : Cx κ cX5_init 3 wsX5_init RX5 none rmX5_init G base) {x : Nat} {gl : Nat → Nat} (hi : (kM κ).name = "<init>") (h : PIN (gde G) L K I F x gl 1)
    (kk : ∀ (L : List Nat) (K : Nat → Nat) (I : Nat → Nat → Int) (F : Nat → Nat → Option Nat) (gl : Nat → Nat), PIN (gde G) L K I F x gl 2 → Z κ 3 G base mc ms post exc 2 6 26 [(0, .ref x)] [] (pw G X L K I F R N O)) : Z κ 3 G base mc ms post exc 1 3 15 [(0, .ref x)] [] (pw G X L K I F R N O) := by
  refine z_aload_n C 0 rfl rfl dX5_init_15 (rfl : 15 + 1 = 16) ?_
  refine z_new (ci := 0) (fs := [.int 0, .null, .int 0]) C tyJx4a65c tyJx4a65c_ok iX5_init_Jx4a65c lX5_init_c7 nnX5_init_Jx4a65c niX5_init_Jx4a65c rfl (by decide) (Nat.le_of_ble_eq_true rfl) (Nat.le_of_ble_eq_true rfl) dX5_init_16 (rfl : 16 + 3 = 19) (fun q hq => ?_)
  refine z_ws (pwn_AL hq) ?_
  have hqL : q ∉ L := pw_fresh hq
  have hqq : q ∈ L ++ [q] := by simp
  refine z_dup C rfl dX5_init_19 (rfl : 19 + 1 = 20) ?_
  refine z_callI C 2 6 (c_AL_init hqq (va_up_self _ _ _)) gX5_init_Jx4a65c_init_da8c8 rfl nX5_init_Jx4a65c_init_da8c8 lX5_init_m9 vX5_init_Jx4a65c_init_da8c8 rfl hd58_Jx4a65c_init_da8c8 ⟨Nat.le_of_ble_eq_true rfl, Nat.le_of_ble_eq_true rfl⟩ rfl (Nat.le_of_ble_eq_true rfl) dX5_init_20 (rfl : 20 + 3 = 23) rfl rfl ⟨Nat.le_of_ble_eq_true rfl, Nat.le_of_ble_eq_true rfl⟩ (fun _ _ h => h.elim) ?_ rfl
  rintro _ _ ⟨rfl, rfl⟩
  refine z_v0 ?_
  refine z_putF C hi tyX5 tyX5_ok nmX5 (pwm_MC (List.mem_append_left _ h.1.1) ((upne h.1.1 hqL).trans h.1.2)) rfl iX5_init_X5 1 (by decide) lX5_init_f16 rfl rfl rfl rfl rfl (Nat.le_of_ble_eq_true rfl) dX5_init_23 (rfl : 23 + 3 = 26) (pws_MC_copies (z := some q) (List.mem_append_left _ h.1.1) ((upne h.1.1 hqL).trans h.1.2)) ?_
  exact kk _ _ _ _ _ (h.step hqL (by decide))
theorem tl_X5_i2 (C : Cx κ cX5_init 3 wsX5_init RX5 none rmX5_init G base) {x : Nat} {gl : Nat → Nat} (hi : (kM κ).name = "<init>") (h : PIN (gde G) L K I F x gl 2)
    (kk : ∀ (L : List Nat) (K : Nat → Nat) (I : Nat → Nat → Int) (F : Nat → Nat → Option Nat) (gl : Nat → Nat), PIN (gde G) L K I F x gl 3 → Z κ 3 G base mc ms post exc 3 9 37 [(0, .ref x)] [] (pw G X L K I F R N O)) : Z κ 3 G base mc ms post exc 2 6 26 [(0, .ref x)] [] (pw G X L K I F R N O) := by
  refine z_aload_n C 0 rfl rfl dX5_init_26 (rfl : 26 + 1 = 27) ?_
  refine z_new (ci := 0) (fs := [.int 0, .null, .int 0]) C tyJx4a65c tyJx4a65c_ok iX5_init_Jx4a65c lX5_init_c7 nnX5_init_Jx4a65c niX5_init_Jx4a65c rfl (by decide) (Nat.le_of_ble_eq_true rfl) (Nat.le_of_ble_eq_true rfl) dX5_init_27 (rfl : 27 + 3 = 30) (fun q hq => ?_)
  refine z_ws (pwn_AL hq) ?_
  have hqL : q ∉ L := pw_fresh hq
  have hqq : q ∈ L ++ [q] := by simp
  refine z_dup C rfl dX5_init_30 (rfl : 30 + 1 = 31) ?_
  refine z_callI C 3 9 (c_AL_init hqq (va_up_self _ _ _)) gX5_init_Jx4a65c_init_da8c8 rfl nX5_init_Jx4a65c_init_da8c8 lX5_init_m9 vX5_init_Jx4a65c_init_da8c8 rfl hd58_Jx4a65c_init_da8c8 ⟨Nat.le_of_ble_eq_true rfl, Nat.le_of_ble_eq_true rfl⟩ rfl (Nat.le_of_ble_eq_true rfl) dX5_init_31 (rfl : 31 + 3 = 34) rfl rfl ⟨Nat.le_of_ble_eq_true rfl, Nat.le_of_ble_eq_true rfl⟩ (fun _ _ h => h.elim) ?_ rfl
  rintro _ _ ⟨rfl, rfl⟩
  refine z_v0 ?_
  refine z_putF C hi tyX5 tyX5_ok nmX5 (pwm_MC (List.mem_append_left _ h.1.1) ((upne h.1.1 hqL).trans h.1.2)) rfl iX5_init_X5 2 (by decide) lX5_init_f19 rfl rfl rfl rfl rfl (Nat.le_of_ble_eq_true rfl) dX5_init_34 (rfl : 34 + 3 = 37) (pws_MC_letters (z := some q) (List.mem_append_left _ h.1.1) ((upne h.1.1 hqL).trans h.1.2)) ?_
  exact kk _ _ _ _ _ (h.step hqL (by decide))
theorem tl_X5_i3 (C : Cx κ cX5_init 3 wsX5_init RX5 none rmX5_init G base) {x : Nat} {gl : Nat → Nat} (hi : (kM κ).name = "<init>") (h : PIN (gde G) L K I F x gl 3)
    (kk : ∀ (L : List Nat) (K : Nat → Nat) (I : Nat → Nat → Int) (F : Nat → Nat → Option Nat) (gl : Nat → Nat), PIN (gde G) L K I F x gl 4 → Z κ 3 G base mc ms post exc 4 12 48 [(0, .ref x)] [] (pw G X L K I F R N O)) : Z κ 3 G base mc ms post exc 3 9 37 [(0, .ref x)] [] (pw G X L K I F R N O) := by
  refine z_aload_n C 0 rfl rfl dX5_init_37 (rfl : 37 + 1 = 38) ?_
  refine z_new (ci := 0) (fs := [.int 0, .null, .int 0]) C tyJx4a65c tyJx4a65c_ok iX5_init_Jx4a65c lX5_init_c7 nnX5_init_Jx4a65c niX5_init_Jx4a65c rfl (by decide) (Nat.le_of_ble_eq_true rfl) (Nat.le_of_ble_eq_true rfl) dX5_init_38 (rfl : 38 + 3 = 41) (fun q hq => ?_)
  refine z_ws (pwn_AL hq) ?_
  have hqL : q ∉ L := pw_fresh hq
  have hqq : q ∈ L ++ [q] := by simp
  refine z_dup C rfl dX5_init_41 (rfl : 41 + 1 = 42) ?_
  refine z_callI C 4 12 (c_AL_init hqq (va_up_self _ _ _)) gX5_init_Jx4a65c_init_da8c8 rfl nX5_init_Jx4a65c_init_da8c8 lX5_init_m9 vX5_init_Jx4a65c_init_da8c8 rfl hd58_Jx4a65c_init_da8c8 ⟨Nat.le_of_ble_eq_true rfl, Nat.le_of_ble_eq_true rfl⟩ rfl (Nat.le_of_ble_eq_true rfl) dX5_init_42 (rfl : 42 + 3 = 45) rfl rfl ⟨Nat.le_of_ble_eq_true rfl, Nat.le_of_ble_eq_true rfl⟩ (fun _ _ h => h.elim) ?_ rfl
  rintro _ _ ⟨rfl, rfl⟩
  refine z_v0 ?_
  refine z_putF C hi tyX5 tyX5_ok nmX5 (pwm_MC (List.mem_append_left _ h.1.1) ((upne h.1.1 hqL).trans h.1.2)) rfl iX5_init_X5 3 (by decide) lX5_init_f22 rfl rfl rfl rfl rfl (Nat.le_of_ble_eq_true rfl) dX5_init_45 (rfl : 45 + 3 = 48) (pws_MC_loans (z := some q) (List.mem_append_left _ h.1.1) ((upne h.1.1 hqL).trans h.1.2)) ?_
  exact kk _ _ _ _ _ (h.step hqL (by decide))
end
