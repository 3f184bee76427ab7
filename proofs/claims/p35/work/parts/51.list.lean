theorem lJxa1e45_init_da8c8_m1 : Cond.methodLink RJxa1e45 1 objectInit ∈ wsJxa1e45_init_da8c8 := by decide +kernel
theorem vJxa1e45_init_da8c8_oi : Cond.instanceMethod objectInit ∈ wsJxa1e45_init_da8c8 := by decide +kernel
theorem cJxa1e45_init_da8c8_oi : Cond.code objectInit ⟨#[0xb1]⟩ 1 none ∈ wsJxa1e45_init_da8c8 := by decide +kernel
theorem hd51_Jxa1e45_init_da8c8 : yJxa1e45_init_da8c8.cls ≠ "java/lang/invoke/MethodHandle" ∧ yJxa1e45_init_da8c8.cls ≠ "java/lang/invoke/VarHandle" ∧ (parseMethodDescriptor yJxa1e45_init_da8c8.desc).map (fun d => d.parameters.length) = some 0 := by decide +kernel
theorem lJxc12de_init_da8c8_m1 : Cond.methodLink RJxc12de 1 yJxa1e45_init_da8c8 ∈ wsJxc12de_init_da8c8 := by decide +kernel
theorem nJxc12de_init_da8c8_Jxa1e45_init_da8c8 : Cond.initialized yJxa1e45_init_da8c8.cls ∈ wsJxc12de_init_da8c8 := by decide +kernel
theorem vJxc12de_init_da8c8_Jxa1e45_init_da8c8 : Cond.instanceMethod yJxa1e45_init_da8c8 ∈ wsJxc12de_init_da8c8 := by decide +kernel
theorem hd51_Jxc12de_init_da8c8 : yJxc12de_init_da8c8.cls ≠ "java/lang/invoke/MethodHandle" ∧ yJxc12de_init_da8c8.cls ≠ "java/lang/invoke/VarHandle" ∧ (parseMethodDescriptor yJxc12de_init_da8c8.desc).map (fun d => d.parameters.length) = some 0 := by decide +kernel
theorem lJx4a65c_init_da8c8_m1 : Cond.methodLink RJx4a65c 1 yJxc12de_init_da8c8 ∈ wsJx4a65c_init_da8c8 := by decide +kernel
theorem nJx4a65c_init_da8c8_Jxc12de_init_da8c8 : Cond.initialized yJxc12de_init_da8c8.cls ∈ wsJx4a65c_init_da8c8 := by decide +kernel
theorem vJx4a65c_init_da8c8_Jxc12de_init_da8c8 : Cond.instanceMethod yJxc12de_init_da8c8 ∈ wsJx4a65c_init_da8c8 := by decide +kernel
theorem lJx4a65c_init_da8c8_f39 : Cond.fieldLink RJx4a65c 39 RJx4a65c "DEFAULTCAPACITY_EMPTY_ELEMENTDATA" "[Ljava/lang/Object;" ∈ wsJx4a65c_init_da8c8 := by decide +kernel
theorem lJx4a65c_init_da8c8_f9 : Cond.fieldLink RJx4a65c 9 "java/util/ArrayList" "elementData" "[Ljava/lang/Object;" ∈ wsJx4a65c_init_da8c8 := by decide +kernel
theorem iJx4a65c_init_da8c8_Jx4a65c : ∀ w ∈ wsJx4a65c0, w ∈ wsJx4a65c_init_da8c8 := by decide +kernel
theorem lJx4a65c_add_72be8_f48 : Cond.fieldLink RJx4a65c 48 "java/util/ArrayList" "size" "I" ∈ wsJx4a65c_add_72be8 := by decide +kernel
theorem iJx4a65c_add_72be8_Jx4a65c : ∀ w ∈ wsJx4a65c0, w ∈ wsJx4a65c_add_72be8 := by decide +kernel
theorem hd51_Jx4a65c_grow_d5877 : yJx4a65c_grow_d5877.cls = RJx4a65c ∧ yJx4a65c_grow_d5877.cls ≠ "java/lang/invoke/MethodHandle" ∧ yJx4a65c_grow_d5877.cls ≠ "java/lang/invoke/VarHandle" ∧ (parseMethodDescriptor yJx4a65c_grow_d5877.desc).map (fun d => d.parameters.length) = some 0 := by decide +kernel
theorem lJx4a65c_add_9ea2d_f9 : Cond.fieldLink RJx4a65c 9 "java/util/ArrayList" "elementData" "[Ljava/lang/Object;" ∈ wsJx4a65c_add_9ea2d := by decide +kernel
theorem iJx4a65c_add_9ea2d_Jx4a65c : ∀ w ∈ wsJx4a65c0, w ∈ wsJx4a65c_add_9ea2d := by decide +kernel
theorem lJx4a65c_add_9ea2d_f48 : Cond.fieldLink RJx4a65c 48 "java/util/ArrayList" "size" "I" ∈ wsJx4a65c_add_9ea2d := by decide +kernel
theorem hd51_Jx4a65c_add_72be8 : yJx4a65c_add_72be8.cls = RJx4a65c ∧ yJx4a65c_add_72be8.cls ≠ "java/lang/invoke/MethodHandle" ∧ yJx4a65c_add_72be8.cls ≠ "java/lang/invoke/VarHandle" ∧ (parseMethodDescriptor yJx4a65c_add_72be8.desc).map (fun d => d.parameters.length) = some 3 := by decide +kernel
/-- what a list's row holds is of the kind kk -/
def TYP (L : List Nat) (K : Nat → Nat) (N : Nat → Nat) (O : Nat → Nat → Option Nat) (de e n kk : Nat) : Prop := (n = 0 ∧ e = de) ∨ ∀ i, i < N e → ∀ y, O e i = some y → y ∈ L ∧ K y = kk
/-- what an addition to the list a leaves -/
def ADD (G : GG) (X : va_W) (L : List Nat) (K : Nat → Nat) (I : Nat → Nat → Int) (F : Nat → Nat → Option Nat) (R : Nat → Nat → Int) (N : Nat → Nat) (O : Nat → Nat → Option Nat) (a e n : Nat) (ad : Nat → Nat) (v kk : Nat) (w : va_W) : Prop :=
  ∃ (L' : List Nat) (K' : Nat → Nat) (F' : Nat → Nat → Option Nat) (N' : Nat → Nat) (O' : Nat → Nat → Option Nat) (e' : Nat) (z : Int),
    w = pw G X L' K' (up2 (up2 I 15 a z) 16 a ((n : Int) + 1)) F' R N' O' ∧ LST L' K' (up2 (up2 I 15 a z) 16 a ((n : Int) + 1)) F' N' O' (gde G) a e' (n + 1) (va_up ad n v) ∧ TYP L' K' N' O' (gde G) e' (n + 1) kk ∧
    (∀ b, b ∈ L → b ∈ L' ∧ K' b = K b) ∧ (∀ b, b ∈ L → b ≠ e ∨ (n = 0 ∧ e = gde G) → N' b = N b ∧ O' b = O b) ∧ (∀ c b, ¬ (c = 14 ∧ b = a) → F' c b = F c b) ∧ ((¬ (n = 0 ∧ e = gde G) ∧ e' = e ∧ e ∈ L) ∨ e' ∉ L)
theorem lJxc12de_init_da8c8_f7 : Cond.fieldLink RJxc12de 7 "java/util/AbstractList" "modCount" "I" ∈ wsJxc12de_init_da8c8 := by decide +kernel
theorem iJxc12de_init_da8c8_Jx4a65c : ∀ w ∈ wsJx4a65c0, w ∈ wsJxc12de_init_da8c8 := by decide +kernel
theorem lJx4a65c_add_9ea2d_f63 : Cond.fieldLink RJx4a65c 63 "java/util/ArrayList" "modCount" "I" ∈ wsJx4a65c_add_9ea2d := by decide +kernel
theorem sJx4a65c_add_9ea2d_f63 : Cond.sameField "java/util/ArrayList" RJxc12de "modCount" "I" ∈ wsJx4a65c_add_9ea2d := by decide +kernel
section
variable {κ : KxT} {G : GG} {base mc ms : Nat} {post : Option Value → va_W → Prop} {exc : String → va_W → Prop} {X : va_W} {L : List Nat} {K : Nat → Nat} {I : Nat → Nat → Int} {F : Nat → Nat → Option Nat} {R : Nat → Nat → Int} {N : Nat → Nat} {O : Nat → Nat → Option Nat} {l : Launch}
abbrev rmJxa1e45_init_da8c8 : Room := { frames := 1, cells := 0, slots := 0, locals := 40 }
theorem c_AC_init {a : Nat} {ws : va_W} : MC l yJxa1e45_init_da8c8 wsJxa1e45_init_da8c8 rmJxa1e45_init_da8c8 G base [.ref a] ws (fun v w => v = none ∧ w = ws) (fun _ _ => False) := by
  refine MC.of (cc := cJxa1e45_init_da8c8) (by decide) rfl rfl (Nat.le_of_ble_eq_true rfl) ?_
  intro κ C hT hl hi
  refine z_aload_n C 0 rfl rfl dJxa1e45_init_da8c8_0 (rfl : 0 + 1 = 1) ?_
  refine z_objInit C lJxa1e45_init_da8c8_m1 vJxa1e45_init_da8c8_oi cJxa1e45_init_da8c8_oi (by decide) (by decide) dJxa1e45_init_da8c8_1 (rfl : 1 + 3 = 4) ?_
  exact z_vret C rfl dJxa1e45_init_da8c8_4 ⟨rfl, rfl⟩ (by decide) (by decide)
abbrev rmJxc12de_init_da8c8 : Room := { frames := 2, cells := 0, slots := 0, locals := 70 }
theorem c_ALi_init {a : Nat} (ha : a ∈ L) (hk : K a = 6) : MC l yJxc12de_init_da8c8 wsJxc12de_init_da8c8 rmJxc12de_init_da8c8 G base [.ref a] (pw G X L K I F R N O) (fun v w => v = none ∧ w = pw G X L K (up2 I 15 a 0) F R N O) (fun _ _ => False) := by
  refine MC.of (cc := cJxc12de_init_da8c8) (by decide) rfl rfl (Nat.le_of_ble_eq_true rfl) ?_
  intro κ C hT hl hi
  refine z_aload_n C 0 rfl rfl dJxc12de_init_da8c8_0 (rfl : 0 + 1 = 1) ?_
  refine z_callI C 0 0 (c_AC_init) gJxc12de_init_da8c8_Jxa1e45_init_da8c8 rfl nJxc12de_init_da8c8_Jxa1e45_init_da8c8 lJxc12de_init_da8c8_m1 vJxc12de_init_da8c8_Jxa1e45_init_da8c8 rfl hd51_Jxa1e45_init_da8c8 ⟨Nat.le_of_ble_eq_true rfl, Nat.le_of_ble_eq_true rfl⟩ rfl (Nat.le_of_ble_eq_true rfl) dJxc12de_init_da8c8_1 (rfl : 1 + 3 = 4) rfl rfl ⟨Nat.le_of_ble_eq_true rfl, Nat.le_of_ble_eq_true rfl⟩ (fun _ _ h => h.elim) ?_ rfl
  rintro _ _ ⟨rfl, rfl⟩
  refine z_v0 ?_
  refine z_aload_n C 0 rfl rfl dJxc12de_init_da8c8_4 (rfl : 4 + 1 = 5) ?_
  refine z_iconst C dJxc12de_init_da8c8_5 (rfl : 5 + 1 = 6) ?_
  refine z_put C tyJx4a65c tyJx4a65c_ok nmJx4a65c (pwm_AL ha hk) rfl iJxc12de_init_da8c8_Jx4a65c 0 (by decide) lJxc12de_init_da8c8_f7 rfl rfl rfl rfl rfl (Nat.le_of_ble_eq_true rfl) dJxc12de_init_da8c8_6 (rfl : 6 + 3 = 9) (pws_AL_modCount ha hk) ?_
  exact z_vret C rfl dJxc12de_init_da8c8_9 ⟨rfl, rfl⟩ (by decide) (by decide)
abbrev rmJx4a65c_init_da8c8 : Room := { frames := 3, cells := 0, slots := 0, locals := 100 }
theorem c_AL_init {a : Nat} (ha : a ∈ L) (hk : K a = 6) : MC l yJx4a65c_init_da8c8 wsJx4a65c_init_da8c8 rmJx4a65c_init_da8c8 G base [.ref a] (pw G X L K I F R N O) (fun v w => v = none ∧ w = pw G X L K (up2 I 15 a 0) (up2 F 14 a (some (gde G))) R N O) (fun _ _ => False) := by
  refine MC.of (cc := cJx4a65c_init_da8c8) (by decide) rfl rfl (Nat.le_of_ble_eq_true rfl) ?_
  intro κ C hT hl hi
  refine z_aload_n C 0 rfl rfl dJx4a65c_init_da8c8_0 (rfl : 0 + 1 = 1) ?_
  refine z_callI C 0 0 (c_ALi_init ha hk) gJx4a65c_init_da8c8_Jxc12de_init_da8c8 rfl nJx4a65c_init_da8c8_Jxc12de_init_da8c8 lJx4a65c_init_da8c8_m1 vJx4a65c_init_da8c8_Jxc12de_init_da8c8 rfl hd51_Jxc12de_init_da8c8 ⟨Nat.le_of_ble_eq_true rfl, Nat.le_of_ble_eq_true rfl⟩ rfl (Nat.le_of_ble_eq_true rfl) dJx4a65c_init_da8c8_1 (rfl : 1 + 3 = 4) rfl rfl ⟨Nat.le_of_ble_eq_true rfl, Nat.le_of_ble_eq_true rfl⟩ (fun _ _ h => h.elim) ?_ rfl
  rintro _ _ ⟨rfl, rfl⟩
  refine z_v0 ?_
  refine z_aload_n C 0 rfl rfl dJx4a65c_init_da8c8_4 (rfl : 4 + 1 = 5) ?_
  refine z_gets C lJx4a65c_init_da8c8_f39 dJx4a65c_init_da8c8_5 (rfl : 5 + 3 = 8) ?_
  refine z_put C tyJx4a65c tyJx4a65c_ok nmJx4a65c (pwm_AL ha hk) rfl iJx4a65c_init_da8c8_Jx4a65c 1 (by decide) lJx4a65c_init_da8c8_f9 rfl rfl rfl rfl rfl (Nat.le_of_ble_eq_true rfl) dJx4a65c_init_da8c8_8 (rfl : 8 + 3 = 11) (pws_AL_elementData (z := some (gde G)) ha hk) ?_
  exact z_vret C rfl dJx4a65c_init_da8c8_11 ⟨rfl, rfl⟩ (by decide) (by decide)
abbrev rmJx4a65c_add_72be8 : Room := { frames := 5, cells := 1, slots := 200, locals := 190 }
theorem tl_AL_add0 (C : Cx κ cJx4a65c_add_72be8 4 wsJx4a65c_add_72be8 RJx4a65c none rmJx4a65c_add_72be8 G base) {a v e n kk cells slots : Nat} (ha : a ∈ L) (hk : K a = 6) (he : e ∈ L) (hke : K e = 9) (hn : n < N e) (hn2 : N e ≤ 200) (hv : v ∈ L) (hkv : K v = kk) (ok : okK kk) (hc : cells ≤ mc) (hs : slots ≤ ms)
    (hp : post none (pw G X L K (up2 I 16 a ((n : Int) + 1)) F R N (up2 O e n (some v)))) : Z κ 4 G base mc ms post exc cells slots 11 [(2, .ref e), (0, .ref a), (1, .ref v), (3, .int (iI (n : Int)))] [] (pw G X L K I F R N O) := by
  obtain ⟨ci, fs, T, nn, hm, hcl⟩ := pw_obj (G := G) (X := X) (I := I) (F := F) (R := R) (N := N) (O := O) hv hkv ok
  refine z_aload_n C 0 rfl rfl dJx4a65c_add_72be8_11 (rfl : 11 + 1 = 12) ?_
  refine z_iload_n C 3 rfl rfl dJx4a65c_add_72be8_12 (rfl : 12 + 1 = 13) ?_
  refine z_aload_n C 2 rfl rfl dJx4a65c_add_72be8_13 (rfl : 13 + 1 = 14) ?_
  refine z_aast C (pwm_O he hke) hm hcl (cnK_ok ok) ⟨by omega, by omega⟩ (by omega) dJx4a65c_add_72be8_14 (rfl : 14 + 1 = 15) (pwt_O (z := some v) he hke) ?_
  refine z_aload_n C 1 rfl rfl dJx4a65c_add_72be8_15 (rfl : 15 + 1 = 16) ?_
  refine z_iload_n C 3 rfl rfl dJx4a65c_add_72be8_16 (rfl : 16 + 1 = 17) ?_
  refine z_iconst C dJx4a65c_add_72be8_17 (rfl : 17 + 1 = 18) ?_
  refine z_iadd C dJx4a65c_add_72be8_18 (rfl : 18 + 1 = 19) rfl ?_
  refine z_put C tyJx4a65c tyJx4a65c_ok nmJx4a65c (pwm_AL ha hk) rfl iJx4a65c_add_72be8_Jx4a65c 2 (by decide) lJx4a65c_add_72be8_f48 rfl rfl rfl rfl rfl (Nat.le_of_ble_eq_true rfl) dJx4a65c_add_72be8_19 (rfl : 19 + 3 = 22) (pws_AL_size ha hk) ?_
  exact z_vret C rfl dJx4a65c_add_72be8_22 hp hc hs
theorem c_AL_add0 {a v e n kk : Nat} {ad : Nat → Nat} (h : LST L K I F N O (gde G) a e n ad) (ty : TYP L K N O (gde G) e n kk) (hn : n ≤ 100) (ok : okK kk) (hv : v ∈ L) (hkv : K v = kk) : MC l yJx4a65c_add_72be8 wsJx4a65c_add_72be8 rmJx4a65c_add_72be8 G base [.ref a, .ref v, .ref e, .int (iI (n : Int))] (pw G X L K I F R N O) (fun r w => r = none ∧
    ∃ (L' : List Nat) (K' : Nat → Nat) (F' : Nat → Nat → Option Nat) (N' : Nat → Nat) (O' : Nat → Nat → Option Nat) (e' : Nat),
    w = pw G X L' K' (up2 I 16 a ((n : Int) + 1)) F' R N' O' ∧ LST L' K' (up2 I 16 a ((n : Int) + 1)) F' N' O' (gde G) a e' (n + 1) (va_up ad n v) ∧ TYP L' K' N' O' (gde G) e' (n + 1) kk ∧
    (∀ b, b ∈ L → b ∈ L' ∧ K' b = K b) ∧ (∀ b, b ∈ L → b ≠ e ∨ (n = 0 ∧ e = gde G) → N' b = N b ∧ O' b = O b) ∧ (∀ c b, ¬ (c = 14 ∧ b = a) → F' c b = F c b) ∧ ((¬ (n = 0 ∧ e = gde G) ∧ e' = e ∧ e ∈ L) ∨ e' ∉ L)) (fun _ _ => False) := by
  refine MC.of (cc := cJx4a65c_add_72be8) (by decide) rfl rfl (Nat.le_of_ble_eq_true rfl) ?_
  intro κ C hT hl hi
  refine z_sub [0, 1, 2, 3] (lv' := [(0, .ref a), (1, .ref v), (2, .ref e), (3, .int (iI (n : Int)))]) rfl ?_
  obtain ⟨h1, h2, h3, h4, h5⟩ := h
  have sz : up2 I 16 a ((n : Int) + 1) 16 a = (((n + 1 : Nat)) : Int) := by rw [up2_at]; omega
  have h6 : (n = 0 ∧ e = gde G) ∨ (¬ (n = 0 ∧ e = gde G) ∧ (e ∈ L ∧ K e = 9 ∧ n ≤ N e ∧ 2 ≤ N e ∧ N e ≤ 200 ∧ ∀ i, i < n → O e i = some (ad i)) ∧ ∀ i, i < N e → ∀ y, O e i = some y → y ∈ L ∧ K y = kk) := by
    by_cases hz : n = 0 ∧ e = gde G
    · exact .inl hz
    · exact .inr ⟨hz, h5.resolve_left hz, ty.resolve_left hz⟩
  rcases h6 with ⟨rfl, rfl⟩ | ⟨hz, ⟨g1, g2, g3, g4, g5, g6⟩, ty2⟩
  · refine z_iload_n C 3 rfl rfl dJx4a65c_add_72be8_0 (rfl : 0 + 1 = 1) ?_
    refine z_aload_n C 2 rfl rfl dJx4a65c_add_72be8_1 (rfl : 1 + 1 = 2) ?_
    refine z_delen C  dJx4a65c_add_72be8_2 (rfl : 2 + 1 = 3) ?_
    refine z_icmp_ne (pt := 11) C dJx4a65c_add_72be8_3 (by decide) (rfl : 3 + 3 = 6) (fun q => q) (fun q => q) (fun c => absurd rfl c) (fun _ => ?_)
    refine z_aload_n C 0 rfl rfl dJx4a65c_add_72be8_6 (rfl : 6 + 1 = 7) ?_
    refine z_callV C 1 200 (c_AL_grow0A h1 h2 h3 h4) gJx4a65c_add_72be8_Jx4a65c_grow_d5877 rfl hd51_Jx4a65c_grow_d5877 ⟨Nat.le_of_ble_eq_true rfl, Nat.le_of_ble_eq_true rfl⟩ (pwm_AL h1 h2) rfl rfl (Nat.le_of_ble_eq_true rfl) dJx4a65c_add_72be8_7 (rfl : 7 + 3 = 10) rfl rfl ⟨Nat.le_of_ble_eq_true rfl, Nat.le_of_ble_eq_true rfl⟩ (fun _ _ h => h.elim) ?_ rfl
    rintro _ _ ⟨q, hq, rfl, rfl⟩
    refine z_v1 ?_
    refine z_astore_n (lv' := [(2, _), (0, _), (1, _), (3, _)]) C rfl dJx4a65c_add_72be8_10 (rfl : 10 + 1 = 11) (by decide) rfl ?_
    have hqq : q ∈ L ++ [q] := by simp
    refine tl_AL_add0 C (kk := kk) (List.mem_append_left _ h1) ((upne h1 hq).trans h2) hqq (va_up_self _ _ _) (by rw [va_up_self]; decide) (by rw [va_up_self]; decide) (List.mem_append_left _ hv) ((upne hv hq).trans hkv) ok (by decide) (by decide) ⟨rfl, _, _, _, _, _, q, rfl, ⟨List.mem_append_left _ h1, (upne h1 hq).trans h2, sz, up2_at _ _ _ _, .inr ⟨hqq, va_up_self _ _ _, by rw [va_up_self]; decide, by rw [va_up_self]; decide, by rw [va_up_self]; decide, fun i hi => ?_⟩⟩, .inr (fun i hi y hy => ?_), fun b hb => ⟨List.mem_append_left _ hb, upne hb hq⟩, fun b hb hbe => ⟨upne hb hq, ?_⟩, fun c b hcb => up2_ne _ _ hcb, .inr hq⟩
    · have : i = 0 := by omega
      subst this
      rw [up2_at, va_up_self]
    · have hy2 : up2 (va_up O q fun _ => none) q 0 (some v) q i = some y := hy
      by_cases e0 : i = 0
      · subst e0
        rw [up2_at] at hy2
        cases hy2
        exact ⟨List.mem_append_left _ hv, (upne hv hq).trans hkv⟩
      · rw [up2_ne _ _ (fun h => e0 h.2), va_up_self] at hy2
        cases hy2
    · have ne : b ≠ q := fun h => hq (h ▸ hb)
      rw [up2_row, va_up_ne _ _ ne, va_up_ne _ _ ne]
  refine z_iload_n C 3 rfl rfl dJx4a65c_add_72be8_0 (rfl : 0 + 1 = 1) ?_
  refine z_aload_n C 2 rfl rfl dJx4a65c_add_72be8_1 (rfl : 1 + 1 = 2) ?_
  refine z_alen C 2 (pwm_O g1 g2) rfl dJx4a65c_add_72be8_2 (rfl : 2 + 1 = 3) ?_
  refine z_icmp_ne (pt := 11) C dJx4a65c_add_72be8_3 (by decide) (rfl : 3 + 3 = 6) (fun q => mt (iI_eq (by omega) (by omega)).2 q) (iI_eq (by omega) (by omega)).1 (fun c => ?_) (fun c => ?_)
  · refine z_sub [2, 0, 1, 3] (lv' := [(2, .ref e), (0, .ref a), (1, .ref v), (3, .int (iI (n : Int)))]) rfl ?_
    refine tl_AL_add0 C (kk := kk) h1 h2 g1 g2 (by omega) g5 hv hkv ok (by decide) (by decide) ⟨rfl, _, _, _, _, _, e, rfl, ⟨h1, h2, sz, h4, .inr ⟨g1, g2, by omega, g4, g5, fun i hi => ?_⟩⟩, .inr (fun i hi y hy => ?_), fun b hb => ⟨hb, rfl⟩, fun b hb hbe => ⟨rfl, ?_⟩, fun c b hcb => rfl, .inl ⟨hz, rfl, g1⟩⟩
    · by_cases e0 : i = n
      · subst e0; rw [up2_at, va_up_self]
      · rw [up2_ne _ _ (fun h => e0 h.2), va_up_ne _ _ e0]; exact g6 i (by omega)
    · by_cases e0 : i = n
      · subst e0
        rw [up2_at] at hy
        cases hy
        exact ⟨hv, hkv⟩
      · rw [up2_ne _ _ (fun h => e0 h.2)] at hy
        exact ty2 i hi y hy
    · rw [up2_row, va_up_ne _ _ (hbe.resolve_right hz)]
  have hNn : N e = n := by omega
  refine z_aload_n C 0 rfl rfl dJx4a65c_add_72be8_6 (rfl : 6 + 1 = 7) ?_
  refine z_callV C 1 200 (c_AL_grow0B (n := n) h1 h2 h3 h4 g1 g2 hNn ⟨by omega, hn⟩ ok ty2) gJx4a65c_add_72be8_Jx4a65c_grow_d5877 rfl hd51_Jx4a65c_grow_d5877 ⟨Nat.le_of_ble_eq_true rfl, Nat.le_of_ble_eq_true rfl⟩ (pwm_AL h1 h2) rfl rfl (Nat.le_of_ble_eq_true rfl) dJx4a65c_add_72be8_7 (rfl : 7 + 3 = 10) rfl rfl ⟨Nat.le_of_ble_eq_true rfl, Nat.le_of_ble_eq_true rfl⟩ (fun _ _ h => h.elim) ?_ rfl
  rintro _ _ ⟨q, f, hq, rfl, hf, rfl⟩
  refine z_v1 ?_
  refine z_astore_n (lv' := [(2, _), (0, _), (1, _), (3, _)]) C rfl dJx4a65c_add_72be8_10 (rfl : 10 + 1 = 11) (by decide) rfl ?_
  have hqq : q ∈ L ++ [q] := by simp
  refine tl_AL_add0 C (kk := kk) (List.mem_append_left _ h1) ((upne h1 hq).trans h2) hqq (va_up_self _ _ _) (by rw [va_up_self]; omega) (by rw [va_up_self]; omega) (List.mem_append_left _ hv) ((upne hv hq).trans hkv) ok (by decide) (by decide) ⟨rfl, _, _, _, _, _, q, rfl, ⟨List.mem_append_left _ h1, (upne h1 hq).trans h2, sz, up2_at _ _ _ _, .inr ⟨hqq, va_up_self _ _ _, by rw [va_up_self]; omega, by rw [va_up_self]; omega, by rw [va_up_self]; omega, fun i hi => ?_⟩⟩, .inr (fun i hi y hy => ?_), fun b hb => ⟨List.mem_append_left _ hb, upne hb hq⟩, fun b hb hbe => ⟨upne hb hq, ?_⟩, fun c b hcb => up2_ne _ _ hcb, .inr hq⟩
  · by_cases e0 : i = n
    · subst e0; rw [up2_at, va_up_self]
    · rw [up2_ne _ _ (fun h => e0 h.2), va_up_self, va_up_ne _ _ e0, hf i, if_pos (by omega)]; exact g6 i (by omega)
  · have hy2 : up2 (va_up O q f) q n (some v) q i = some y := hy
    by_cases e0 : i = n
    · subst e0
      rw [up2_at] at hy2
      cases hy2
      exact ⟨List.mem_append_left _ hv, (upne hv hq).trans hkv⟩
    · rw [up2_ne _ _ (fun h => e0 h.2), va_up_self, hf i] at hy2
      by_cases e1 : i < n
      · rw [if_pos e1] at hy2
        obtain ⟨y1, y2⟩ := ty2 i (by omega) y hy2
        exact ⟨List.mem_append_left _ y1, (upne y1 hq).trans y2⟩
      · rw [if_neg e1] at hy2
        cases hy2
  · have ne : b ≠ q := fun h => hq (h ▸ hb)
    rw [up2_row, va_up_ne _ _ ne, va_up_ne _ _ ne]
abbrev rmJx4a65c_add_9ea2d : Room := { frames := 6, cells := 1, slots := 200, locals := 230 }
theorem c_AL_add {a v e n kk : Nat} {ad : Nat → Nat} (h : LST L K I F N O (gde G) a e n ad) (ty : TYP L K N O (gde G) e n kk) (hn : n ≤ 100) (ok : okK kk) (hv : v ∈ L) (hkv : K v = kk) : MC l yJx4a65c_add_9ea2d wsJx4a65c_add_9ea2d rmJx4a65c_add_9ea2d G base [.ref a, .ref v] (pw G X L K I F R N O) (fun r w => r = some (.int (iI 1)) ∧ ADD G X L K I F R N O a e n ad v kk w) (fun _ _ => False) := by
  refine MC.of (cc := cJx4a65c_add_9ea2d) (by decide) rfl rfl (Nat.le_of_ble_eq_true rfl) ?_
  intro κ C hT hl hi
  refine z_sub [0, 1] (lv' := [(0, .ref a), (1, .ref v)]) rfl ?_
  obtain ⟨h1, h2, h3, h4, h5⟩ := id h
  refine z_aload_n C 0 rfl rfl dJx4a65c_add_9ea2d_0 (rfl : 0 + 1 = 1) ?_
  refine z_dup C rfl dJx4a65c_add_9ea2d_1 (rfl : 1 + 1 = 2) ?_
  refine z_getB C (pwm_AL h1 h2) rfl iJx4a65c_add_9ea2d_Jx4a65c 0 (by decide) lJx4a65c_add_9ea2d_f63 sJx4a65c_add_9ea2d_f63 rfl dJx4a65c_add_9ea2d_2 (rfl : 2 + 3 = 5) ?_
  refine z_iconst C dJx4a65c_add_9ea2d_5 (rfl : 5 + 1 = 6) ?_
  refine z_iadd C dJx4a65c_add_9ea2d_6 (rfl : 6 + 1 = 7) rfl ?_
  refine z_putB C tyJx4a65c tyJx4a65c_ok nmJx4a65c (pwm_AL h1 h2) rfl iJx4a65c_add_9ea2d_Jx4a65c 0 (by decide) lJx4a65c_add_9ea2d_f63 sJx4a65c_add_9ea2d_f63 rfl rfl rfl rfl (Nat.le_of_ble_eq_true rfl) dJx4a65c_add_9ea2d_7 (rfl : 7 + 3 = 10) (pws_AL_modCount h1 h2) ?_
  refine z_aload_n C 0 rfl rfl dJx4a65c_add_9ea2d_10 (rfl : 10 + 1 = 11) ?_
  refine z_aload_n C 1 rfl rfl dJx4a65c_add_9ea2d_11 (rfl : 11 + 1 = 12) ?_
  refine z_aload_n C 0 rfl rfl dJx4a65c_add_9ea2d_12 (rfl : 12 + 1 = 13) ?_
  refine z_get C (pwm_AL h1 h2) rfl iJx4a65c_add_9ea2d_Jx4a65c 1 (by decide) lJx4a65c_add_9ea2d_f9 rfl rfl dJx4a65c_add_9ea2d_13 (rfl : 13 + 3 = 16) ?_
  rw [h4]
  refine z_aload_n C 0 rfl rfl dJx4a65c_add_9ea2d_16 (rfl : 16 + 1 = 17) ?_
  refine z_get C (pwm_AL h1 h2) rfl iJx4a65c_add_9ea2d_Jx4a65c 2 (by decide) lJx4a65c_add_9ea2d_f48 rfl rfl dJx4a65c_add_9ea2d_17 (rfl : 17 + 3 = 20) ?_
  have e16 : up2 I 15 a (I 15 a + 1) 16 a = I 16 a := up2_ne _ _ (by omega)
  rw [e16, h3]
  refine z_callV C 1 200 (c_AL_add0 (kk := kk) (I := up2 I 15 a (I 15 a + 1)) ⟨h1, h2, e16.trans h3, h4, h5⟩ ty hn ok hv hkv) gJx4a65c_add_9ea2d_Jx4a65c_add_72be8 rfl hd51_Jx4a65c_add_72be8 ⟨Nat.le_of_ble_eq_true rfl, Nat.le_of_ble_eq_true rfl⟩ (pwm_AL h1 h2) rfl rfl (Nat.le_of_ble_eq_true rfl) dJx4a65c_add_9ea2d_20 (rfl : 20 + 3 = 23) rfl rfl ⟨Nat.le_of_ble_eq_true rfl, Nat.le_of_ble_eq_true rfl⟩ (fun _ _ h => h.elim) ?_ rfl
  rintro _ _ ⟨rfl, L', K', F', N', O', e', rfl, g1, g2, g3, g4, g5, g6⟩
  refine z_v0 ?_
  refine z_iconst C dJx4a65c_add_9ea2d_23 (rfl : 23 + 1 = 24) ?_
  exact z_zret C rfl (.inr rfl) dJx4a65c_add_9ea2d_24 ⟨rfl, L', K', F', N', O', e', _, rfl, g1, g2, g3, g4, g5, g6⟩ (by decide) (by decide)
end
