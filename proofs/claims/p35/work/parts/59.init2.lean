theorem arX5_init_int : Cond.arrayClass (newarray.typeOf .int) ∈ wsX5_init := by decide +kernel
theorem lX5_init_f25 : Cond.fieldLink RX5 25 "ModelCopies" "slipsByScribe" "[I" ∈ wsX5_init := by decide +kernel
theorem iX5_init_X1 : ∀ w ∈ wsX10, w ∈ wsX5_init := by decide +kernel
theorem lX5_init_c29 : Cond.classLink RX5 29 "ModelCopies$Draft" ∈ wsX5_init := by decide +kernel
theorem nnX5_init_X1 : Cond.instantiable "ModelCopies$Draft" 2 ∈ wsX5_init := by decide +kernel
theorem niX5_init_X1 : Cond.initialized "ModelCopies$Draft" ∈ wsX5_init := by decide +kernel
theorem hd59_X1_init : yX1_init.cls ≠ "java/lang/invoke/MethodHandle" ∧ yX1_init.cls ≠ "java/lang/invoke/VarHandle" ∧ (parseMethodDescriptor yX1_init.desc).map (fun d => d.parameters.length) = some 0 := by decide +kernel
theorem lX5_init_m31 : Cond.methodLink RX5 31 yX1_init ∈ wsX5_init := by decide +kernel
theorem nX5_init_X1_init : Cond.initialized yX1_init.cls ∈ wsX5_init := by decide +kernel
theorem vX5_init_X1_init : Cond.instanceMethod yX1_init ∈ wsX5_init := by decide +kernel
theorem lX5_init_f32 : Cond.fieldLink RX5 32 "ModelCopies" "draft" "LModelCopies$Draft;" ∈ wsX5_init := by decide +kernel
theorem lX5_init_f36 : Cond.fieldLink RX5 36 "ModelCopies" "today" "I" ∈ wsX5_init := by decide +kernel
def Tst (x q1 q2 r3 : Nat) (gl : Nat → Nat) (b : Nat) : Nat := if b = x then 6000 else if b = q1 then 6001 else if b = q2 then 6002 else if b = r3 then 6003 else if b = gl 0 then 6004 else if b = gl 1 then 6005 else if b = gl 2 then 6006 else 6007
def gst (de x q1 q2 r3 : Nat) (gl : Nat → Nat) (a i : Nat) : Nat := if a = 6 then (if i = 0 then x else if i = 1 then q1 else if i = 2 then q2 else if i = 3 then r3 else gl (i - 4)) else de
theorem RP.start {de x q1 q2 r3 : Nat} {L : List Nat} {K : Nat → Nat} {I : Nat → Nat → Int} {F : Nat → Nat → Option Nat} {R : Nat → Nat → Int} {N : Nat → Nat} {O : Nat → Nat → Option Nat} {gl : Nat → Nat} {f : Nat → Int} (h : PIN de L K I F x gl 4) (h1 : q1 ∉ L) (h2 : q2 ∉ L ++ [q1]) (h3 : r3 ∉ (L ++ [q1]) ++ [q2]) (hf : ∀ k, k < 24 → f k = -1) :
    ∃ (T : Nat → Nat) (g : Nat → Nat → Nat), g 6 0 = x ∧ RP de (((L ++ [q1]) ++ [q2]) ++ [r3]) (va_up (va_up (va_up K q1 7) q2 1) r3 7) (up2 (up2 (up2 I 3 q2 0) 3 q2 0) 14 x 0) (up2 (up2 (up2 (up2 F 12 x (some q1)) 4 q2 none) 4 q2 (some r3)) 13 x (some q2)) (va_up (va_up R q1 (fun _ => 0)) r3 f) (va_up (va_up N q1 6) r3 24) O T g V0 0 0 0 0 := by
  obtain ⟨⟨hx, kx⟩, hl, hinj⟩ := h
  simp only [List.mem_append, List.mem_singleton, not_or] at h2 h3
  obtain ⟨h2, n21⟩ := h2
  obtain ⟨⟨h3, n31⟩, n32⟩ := h3
  have nx1 : x ≠ q1 := fun e => h1 (e ▸ hx)
  have nx2 : x ≠ q2 := fun e => h2 (e ▸ hx)
  have nx3 : x ≠ r3 := fun e => h3 (e ▸ hx)
  have l1 : ∀ i, i < 4 → gl i ≠ q1 := fun i hi e => h1 (e ▸ (hl i hi).1)
  have l2 : ∀ i, i < 4 → gl i ≠ q2 := fun i hi e => h2 (e ▸ (hl i hi).1)
  have l3 : ∀ i, i < 4 → gl i ≠ r3 := fun i hi e => h3 (e ▸ (hl i hi).1)
  have lx : ∀ i, i < 4 → gl i ≠ x := fun i hi e => by
    have := (hl i hi).2.1
    rw [e] at this
    omega
  have lk : ∀ i k, i < 4 → k < 4 → i ≠ k → gl i ≠ gl k := fun i k hi hk n e => n (hinj i k hi hk e)
  have ml : ∀ b, b ∈ L → b ∈ ((L ++ [q1]) ++ [q2]) ++ [r3] := fun b hb => by simp [hb]
  have lst : ∀ i, i < 4 → ∀ ad, LST (((L ++ [q1]) ++ [q2]) ++ [r3]) (va_up (va_up (va_up K q1 7) q2 1) r3 7) (up2 (up2 (up2 I 3 q2 0) 3 q2 0) 14 x 0) (up2 (up2 (up2 (up2 F 12 x (some q1)) 4 q2 none) 4 q2 (some r3)) 13 x (some q2)) (va_up (va_up N q1 6) r3 24) O de (gl i) de 0 ad := fun i hi ad => by
    obtain ⟨a1, a2, a3, a4, a5⟩ := hl i hi
    refine ⟨ml _ a1, ?_, ?_, ?_, .inl ⟨rfl, rfl⟩⟩
    · rw [va_up_ne _ _ (l3 i hi), va_up_ne _ _ (l2 i hi), va_up_ne _ _ (l1 i hi)]; exact a2
    · exact a3
    · exact a4
  refine ⟨Tst x q1 q2 r3 gl, gst de x q1 q2 r3 gl, rfl, ⟨fun a i hv => ?_, fun i hi hc => ?_, fun i hi hc => rfl⟩, ⟨⟨?_, ?_, ?_, ?_, ?_, ?_, ?_⟩, ⟨?_, ?_⟩, fun i hi => absurd hi (Nat.not_lt_zero _), fun i hi => absurd hi (Nat.not_lt_zero _), fun i hi => absurd hi (Nat.not_lt_zero _), fun i hi => absurd hi (Nat.not_lt_zero _)⟩, ⟨⟨lst 0 (by decide) _, .inl ⟨rfl, rfl⟩⟩, ⟨lst 1 (by decide) _, .inl ⟨rfl, rfl⟩⟩, ⟨lst 2 (by decide) _, .inl ⟨rfl, rfl⟩⟩, ⟨lst 3 (by decide) _, .inl ⟨rfl, rfl⟩⟩⟩, ⟨?_, fun k hk => ?_, ?_, fun k hk => ?_, fun i hi => absurd hi (Nat.not_lt_zero _), fun i hi => absurd hi (Nat.not_lt_zero _), fun i hi => absurd hi (Nat.not_lt_zero _), fun i hi => absurd hi (Nat.not_lt_zero _), fun i hi => absurd hi (Nat.not_lt_zero _), fun i hi => absurd hi (Nat.not_lt_zero _)⟩⟩
  · obtain ⟨rfl, hi⟩ : a = 6 ∧ i < 8 := by unfold VLD at hv; omega
    have e : i = 0 ∨ i = 1 ∨ i = 2 ∨ i = 3 ∨ i = 4 ∨ i = 5 ∨ i = 6 ∨ i = 7 := by omega
    rcases e with rfl | rfl | rfl | rfl | rfl | rfl | rfl | rfl
    · refine ⟨ml x hx, ?_, if_pos rfl⟩
      show va_up (va_up (va_up K q1 7) q2 1) r3 7 x = 5
      rw [va_up_ne _ _ nx3, va_up_ne _ _ nx2, va_up_ne _ _ nx1]; exact kx
    · refine ⟨by simp [gst], ?_, ?_⟩
      · show va_up (va_up (va_up K q1 7) q2 1) r3 7 q1 = 7
        rw [va_up_ne _ _ (Ne.symm n31), va_up_ne _ _ (Ne.symm n21), va_up_self]
      · show Tst x q1 q2 r3 gl q1 = 6001
        unfold Tst
        rw [if_neg (Ne.symm nx1)]; exact if_pos rfl
    · refine ⟨by simp [gst], ?_, ?_⟩
      · show va_up (va_up (va_up K q1 7) q2 1) r3 7 q2 = 1
        rw [va_up_ne _ _ (Ne.symm n32), va_up_self]
      · show Tst x q1 q2 r3 gl q2 = 6002
        unfold Tst
        rw [if_neg (Ne.symm nx2), if_neg n21]; exact if_pos rfl
    · refine ⟨by simp [gst], ?_, ?_⟩
      · show va_up (va_up (va_up K q1 7) q2 1) r3 7 r3 = 7
        rw [va_up_self]
      · show Tst x q1 q2 r3 gl r3 = 6003
        unfold Tst
        rw [if_neg (Ne.symm nx3), if_neg n31, if_neg n32]; exact if_pos rfl
    · refine ⟨(lst 0 (by decide) (fun _ => 0)).1, (lst 0 (by decide) (fun _ => 0)).2.1, ?_⟩
      show Tst x q1 q2 r3 gl (gl 0) = 6004
      unfold Tst
      rw [if_neg (lx 0 (by decide)), if_neg (l1 0 (by decide)), if_neg (l2 0 (by decide)), if_neg (l3 0 (by decide))]; exact if_pos rfl
    · refine ⟨(lst 1 (by decide) (fun _ => 0)).1, (lst 1 (by decide) (fun _ => 0)).2.1, ?_⟩
      show Tst x q1 q2 r3 gl (gl 1) = 6005
      unfold Tst
      rw [if_neg (lx 1 (by decide)), if_neg (l1 1 (by decide)), if_neg (l2 1 (by decide)), if_neg (l3 1 (by decide)), if_neg (lk 1 0 (by decide) (by decide) (by decide))]; exact if_pos rfl
    · refine ⟨(lst 2 (by decide) (fun _ => 0)).1, (lst 2 (by decide) (fun _ => 0)).2.1, ?_⟩
      show Tst x q1 q2 r3 gl (gl 2) = 6006
      unfold Tst
      rw [if_neg (lx 2 (by decide)), if_neg (l1 2 (by decide)), if_neg (l2 2 (by decide)), if_neg (l3 2 (by decide)), if_neg (lk 2 0 (by decide) (by decide) (by decide)), if_neg (lk 2 1 (by decide) (by decide) (by decide))]; exact if_pos rfl
    · refine ⟨(lst 3 (by decide) (fun _ => 0)).1, (lst 3 (by decide) (fun _ => 0)).2.1, ?_⟩
      show Tst x q1 q2 r3 gl (gl 3) = 6007
      unfold Tst
      rw [if_neg (lx 3 (by decide)), if_neg (l1 3 (by decide)), if_neg (l2 3 (by decide)), if_neg (l3 3 (by decide)), if_neg (lk 3 0 (by decide) (by decide) (by decide)), if_neg (lk 3 1 (by decide) (by decide) (by decide)), if_neg (lk 3 2 (by decide) (by decide) (by decide))]
  · have e : i = 0 ∨ i = 1 ∨ i = 2 ∨ i = 3 := by omega
    rcases e with rfl | rfl | rfl | rfl <;> exact absurd hc (Nat.lt_irrefl 0)
  · exact (hl 0 (by decide)).2.2.2.2
  · exact (hl 1 (by decide)).2.2.2.2
  · exact (hl 2 (by decide)).2.2.2.2
  · exact (hl 3 (by decide)).2.2.2.2
  · show up2 (up2 (up2 (up2 F 12 x (some q1)) 4 q2 none) 4 q2 (some r3)) 13 x (some q2) 12 x = some q1
    rw [up2_ne _ _ (by omega), up2_ne _ _ (by omega), up2_ne _ _ (by omega), up2_at]
  · exact up2_at _ _ _ _
  · show up2 (up2 (up2 (up2 F 12 x (some q1)) 4 q2 none) 4 q2 (some r3)) 13 x (some q2) 4 q2 = some r3
    rw [up2_ne _ _ (by omega), up2_at]
  · show va_up (va_up N q1 6) r3 24 q1 = 6
    rw [va_up_ne _ _ (Ne.symm n31), va_up_self]
  · exact va_up_self _ _ _
  · exact up2_at _ _ _ _
  · show va_up (va_up R q1 (fun _ => 0)) r3 f q1 k = 0
    rw [va_up_ne _ _ (Ne.symm n31), va_up_self]
  · show up2 (up2 (up2 I 3 q2 0) 3 q2 0) 14 x 0 3 q2 = 0
    rw [up2_ne _ _ (by omega), up2_at]
  · show va_up (va_up R q1 (fun _ => 0)) r3 f r3 k = if k < 24 then -1 else 0
    rw [va_up_self, if_pos hk]; exact hf k hk
section
variable {κ : KxT} {G : GG} {base mc ms : Nat} {post : Option Value → va_W → Prop} {exc : String → va_W → Prop} {X : va_W} {L : List Nat} {K : Nat → Nat} {I : Nat → Nat → Int} {F : Nat → Nat → Option Nat} {R : Nat → Nat → Int} {N : Nat → Nat} {O : Nat → Nat → Option Nat} {l : Launch}
theorem tl_X5_iS (C : Cx κ cX5_init 3 wsX5_init RX5 none rmX5_init G base) {x : Nat} {gl : Nat → Nat} (hi : (kM κ).name = "<init>") (h : PIN (gde G) L K I F x gl 4)
    (kk : ∀ (L : List Nat) (K : Nat → Nat) (I : Nat → Nat → Int) (F : Nat → Nat → Option Nat) (R : Nat → Nat → Int) (N : Nat → Nat) (T : Nat → Nat) (g : Nat → Nat → Nat), g 6 0 = x → RP (gde G) L K I F R N O T g V0 0 0 0 0 → Z κ 3 G base mc ms post exc 7 44 72 [(0, .ref x)] [] (pw G X L K I F R N O)) : Z κ 3 G base mc ms post exc 4 12 48 [(0, .ref x)] [] (pw G X L K I F R N O) := by
  refine z_aload_n C 0 rfl rfl dX5_init_48 (rfl : 48 + 1 = 49) ?_
  refine z_bipush (c := 6) C (by decide) dX5_init_49 (rfl : 49 + 2 = 51) ?_
  refine z_newa (N' := 6) (a0 := (6, .inl (fun _ => iI 0))) C 0 rfl arX5_init_int rfl (fun _ => rfl) rfl (by decide) (by decide) (by decide) (by decide) dX5_init_51 (rfl : 51 + 2 = 53) (fun q1 hq1 => ?_)
  have h1 : q1 ∉ L := pw_fresh hq1
  refine z_ws (pwn_I hq1) ?_
  refine z_putF C hi tyX5 tyX5_ok nmX5 (pwm_MC (List.mem_append_left _ h.1.1) ((upne h.1.1 h1).trans h.1.2)) rfl iX5_init_X5 4 (by decide) lX5_init_f25 rfl rfl rfl rfl rfl (Nat.le_of_ble_eq_true rfl) dX5_init_53 (rfl : 53 + 3 = 56) (pws_MC_slips (z := some q1) (List.mem_append_left _ h.1.1) ((upne h.1.1 h1).trans h.1.2)) ?_
  refine z_aload_n C 0 rfl rfl dX5_init_56 (rfl : 56 + 1 = 57) ?_
  refine z_new (ci := 2) (fs := [.null, .int 0]) C tyX1 tyX1_ok iX5_init_X1 lX5_init_c29 nnX5_init_X1 niX5_init_X1 rfl (by decide) (Nat.le_of_ble_eq_true rfl) (Nat.le_of_ble_eq_true rfl) dX5_init_57 (rfl : 57 + 3 = 60) (fun q2 hq2 => ?_)
  refine z_ws (pwn_Draft hq2) ?_
  have h2 : q2 ∉ L ++ [q1] := pw_fresh hq2
  have m2 : x ∈ L ++ [q1] := List.mem_append_left _ h.1.1
  have k2 : va_up (va_up K q1 7) q2 1 x = 5 := (upne m2 h2).trans ((upne h.1.1 h1).trans h.1.2)
  refine z_dup C rfl dX5_init_60 (rfl : 60 + 1 = 61) ?_
  refine z_callI C 7 44 (c_X1_init (by simp) (va_up_self _ _ _)) gX5_init_X1_init rfl nX5_init_X1_init lX5_init_m31 vX5_init_X1_init rfl hd59_X1_init ⟨Nat.le_of_ble_eq_true rfl, Nat.le_of_ble_eq_true rfl⟩ rfl (Nat.le_of_ble_eq_true rfl) dX5_init_61 (rfl : 61 + 3 = 64) rfl rfl ⟨Nat.le_of_ble_eq_true rfl, Nat.le_of_ble_eq_true rfl⟩ (fun _ _ h => h.elim) ?_ rfl
  rintro _ _ ⟨rfl, r3, f, h3, hf, rfl⟩
  refine z_v0 ?_
  have m3 : x ∈ (L ++ [q1]) ++ [q2] := List.mem_append_left _ m2
  have k3 : va_up (va_up (va_up K q1 7) q2 1) r3 7 x = 5 := (upne m3 h3).trans k2
  refine z_putF C hi tyX5 tyX5_ok nmX5 (pwm_MC (List.mem_append_left _ m3) k3) rfl iX5_init_X5 5 (by decide) lX5_init_f32 rfl rfl rfl rfl rfl (Nat.le_of_ble_eq_true rfl) dX5_init_64 (rfl : 64 + 3 = 67) (pws_MC_draft (z := some q2) (List.mem_append_left _ m3) k3) ?_
  refine z_aload_n C 0 rfl rfl dX5_init_67 (rfl : 67 + 1 = 68) ?_
  refine z_iconst C dX5_init_68 (rfl : 68 + 1 = 69) ?_
  refine z_put C tyX5 tyX5_ok nmX5 (pwm_MC (List.mem_append_left _ m3) k3) rfl iX5_init_X5 6 (by decide) lX5_init_f36 rfl rfl rfl rfl rfl (Nat.le_of_ble_eq_true rfl) dX5_init_69 (rfl : 69 + 3 = 72) (pws_MC_today (List.mem_append_left _ m3) k3) ?_
  obtain ⟨T, g, hg, hR⟩ := RP.start (R := R) (N := N) (O := O) h h1 h2 h3 hf
  exact kk _ _ _ _ _ _ T g hg hR
end
