theorem iX5_init_X2 : ∀ w ∈ wsX20, w ∈ wsX5_init := by decide +kernel
theorem lX5_init_c40 : Cond.classLink RX5 40 "ModelCopies$House" ∈ wsX5_init := by decide +kernel
theorem nnX5_init_X2 : Cond.instantiable "ModelCopies$House" 4 ∈ wsX5_init := by decide +kernel
theorem niX5_init_X2 : Cond.initialized "ModelCopies$House" ∈ wsX5_init := by decide +kernel
theorem hd60_X2_init : yX2_init.cls ≠ "java/lang/invoke/MethodHandle" ∧ yX2_init.cls ≠ "java/lang/invoke/VarHandle" ∧ (parseMethodDescriptor yX2_init.desc).map (fun d => d.parameters.length) = some 1 := by decide +kernel
theorem lX5_init_m42 : Cond.methodLink RX5 42 yX2_init ∈ wsX5_init := by decide +kernel
theorem nX5_init_X2_init : Cond.initialized yX2_init.cls ∈ wsX5_init := by decide +kernel
theorem vX5_init_X2_init : Cond.instanceMethod yX2_init ∈ wsX5_init := by decide +kernel
theorem hd60_Jx4a65c_add_9ea2d : yJx4a65c_add_9ea2d.cls = RJx4a65c ∧ yJx4a65c_add_9ea2d.cls ≠ "java/lang/invoke/MethodHandle" ∧ yJx4a65c_add_9ea2d.cls ≠ "java/lang/invoke/VarHandle" ∧ (parseMethodDescriptor yJx4a65c_add_9ea2d.desc).map (fun d => d.parameters.length) = some 1 := by decide +kernel
theorem lX5_init_m1 : Cond.methodLink RX5 1 objectInit ∈ wsX5_init := by decide +kernel
theorem vX5_init_oi : Cond.instanceMethod objectInit ∈ wsX5_init := by decide +kernel
theorem cX5_init_oi : Cond.code objectInit ⟨#[0xb1]⟩ 1 none ∈ wsX5_init := by decide +kernel
theorem iX5_init_X0 : ∀ w ∈ wsX00, w ∈ wsX5_init := by decide +kernel
theorem lX5_init_c49 : Cond.classLink RX5 49 "ModelCopies$Copy" ∈ wsX5_init := by decide +kernel
theorem nnX5_init_X0 : Cond.instantiable "ModelCopies$Copy" 7 ∈ wsX5_init := by decide +kernel
theorem niX5_init_X0 : Cond.initialized "ModelCopies$Copy" ∈ wsX5_init := by decide +kernel
theorem hd60_X0_init : yX0_init.cls ≠ "java/lang/invoke/MethodHandle" ∧ yX0_init.cls ≠ "java/lang/invoke/VarHandle" ∧ (parseMethodDescriptor yX0_init.desc).map (fun d => d.parameters.length) = some 3 := by decide +kernel
theorem lX5_init_m51 : Cond.methodLink RX5 51 yX0_init ∈ wsX5_init := by decide +kernel
theorem nX5_init_X0_init : Cond.initialized yX0_init.cls ∈ wsX5_init := by decide +kernel
theorem vX5_init_X0_init : Cond.instanceMethod yX0_init ∈ wsX5_init := by decide +kernel
theorem ADI_2 (I : Nat → Nat → Int) (al : Nat) (z y : Int) : ADI I al z y 2 = I 2 := rfl
theorem HM_house {G : GG} {L : List Nat} {K : Nat → Nat} {I : Nat → Nat → Int} {F : Nat → Nat → Option Nat} {R : Nat → Nat → Int} {N : Nat → Nat} {O : Nat → Nat → Option Nat} {T : Nat → Nat} {g : Nat → Nat → Nat} {V : Nat → Nat → Int} {s n m t q r : Nat} {y : Int} (_h : RP (gde G) L K I F R N O T g V s n m t) (hq : q ∉ L) (hr : r ∉ L ++ [q]) : MON L ((L ++ [q]) ++ [r]) K (va_up (va_up K q 2) r 8) I (up2 (up2 (up2 (up2 (up2 (up2 I 4 q 0) 5 q 0) 6 q 0) 5 q 100) 6 q 0) 4 q y) F (up2 (up2 F 5 q none) 5 q (some r)) R (va_up R r (fun _ => 0)) N (va_up N r 60) O O T (va_up (va_up T q (1000 * 2 + s)) r (1000 * 3 + s)) := fun b hb => by
  have hrL : r ∉ L := fun c => hr (List.mem_append_left _ c)
  have n1 : b ≠ q := fun e => hq (e ▸ hb)
  have n2 : b ≠ r := fun e => hrL (e ▸ hb)
  have n3 : ∀ c c' : Nat, ¬ (c = c' ∧ b = q) := fun _ _ e => n1 e.2
  refine ⟨⟨by simp [hb], ?_, ?_⟩, fun c => ?_, fun c => ?_, va_up_ne _ _ n2, va_up_ne _ _ n2, rfl⟩
  · rw [va_up_ne _ _ n2, va_up_ne _ _ n1]
  · rw [va_up_ne _ _ n2, va_up_ne _ _ n1]
  · rw [up2_ne _ _ (n3 _ _), up2_ne _ _ (n3 _ _), up2_ne _ _ (n3 _ _), up2_ne _ _ (n3 _ _), up2_ne _ _ (n3 _ _), up2_ne _ _ (n3 _ _)]
  · rw [up2_ne _ _ (n3 _ _), up2_ne _ _ (n3 _ _)]
theorem HM_copy0 {G : GG} {L : List Nat} {K : Nat → Nat} {I : Nat → Nat → Int} {F : Nat → Nat → Option Nat} {R : Nat → Nat → Int} {N : Nat → Nat} {O : Nat → Nat → Option Nat} {T : Nat → Nat} {g : Nat → Nat → Nat} {V : Nat → Nat → Int} {s n m t q r : Nat} {y1 y2 : Int} {o1 o2 o3 : Option Nat} {f : Nat → Int} (_h : RP (gde G) L K I F R N O T g V s n m t) (hq : q ∉ L) (hr : r ∉ L ++ [q]) : MON L ((L ++ [q]) ++ [r]) K (va_up (va_up K q 0) r 7) I (up2 (up2 (up2 (up2 (up2 (up2 I 0 q 0) 1 q 0) 2 q 0) 1 q 0) 0 q y1) 2 q y2) F (up2 (up2 (up2 (up2 (up2 (up2 (up2 (up2 F 0 q none) 1 q none) 2 q none) 3 q none) 2 q (some r)) 0 q o1) 1 q o2) 3 q o3) R (va_up R r f) N (va_up N r 24) O O T (va_up (va_up T q (1000 * 0 + n)) r (1000 * 1 + n)) := fun b hb => by
  have hrL : r ∉ L := fun c => hr (List.mem_append_left _ c)
  have n1 : b ≠ q := fun e => hq (e ▸ hb)
  have n2 : b ≠ r := fun e => hrL (e ▸ hb)
  have n3 : ∀ c c' : Nat, ¬ (c = c' ∧ b = q) := fun _ _ e => n1 e.2
  refine ⟨⟨by simp [hb], ?_, ?_⟩, fun c => ?_, fun c => ?_, va_up_ne _ _ n2, va_up_ne _ _ n2, rfl⟩
  · rw [va_up_ne _ _ n2, va_up_ne _ _ n1]
  · rw [va_up_ne _ _ n2, va_up_ne _ _ n1]
  · rw [up2_ne _ _ (n3 _ _), up2_ne _ _ (n3 _ _), up2_ne _ _ (n3 _ _), up2_ne _ _ (n3 _ _), up2_ne _ _ (n3 _ _), up2_ne _ _ (n3 _ _)]
  · rw [up2_ne _ _ (n3 _ _), up2_ne _ _ (n3 _ _), up2_ne _ _ (n3 _ _), up2_ne _ _ (n3 _ _), up2_ne _ _ (n3 _ _), up2_ne _ _ (n3 _ _), up2_ne _ _ (n3 _ _), up2_ne _ _ (n3 _ _)]
theorem RP.newH {G : GG} {X : va_W} {L : List Nat} {K : Nat → Nat} {I : Nat → Nat → Int} {F : Nat → Nat → Option Nat} {R : Nat → Nat → Int} {N : Nat → Nat} {O : Nat → Nat → Option Nat} {T : Nat → Nat} {g : Nat → Nat → Nat} {s q r : Nat} {w : va_W} (h : RP (gde G) L K I F R N O T g V0 s 0 0 0) (hs : s < 5) (hq : q ∉ L) (hr : r ∉ L ++ [q])
    (ha : ADD G X ((L ++ [q]) ++ [r]) (va_up (va_up K q 2) r 8) (up2 (up2 (up2 (up2 (up2 (up2 I 4 q 0) 5 q 0) 6 q 0) 5 q 100) 6 q 0) 4 q (s : Int)) (up2 (up2 F 5 q none) 5 q (some r)) (va_up R r (fun _ => 0)) (va_up N r 60) O (g 6 4) (g 7 0) s (g 2) q 2 w) :
    ∃ (L' : List Nat) (K' : Nat → Nat) (I' : Nat → Nat → Int) (F' : Nat → Nat → Option Nat) (R' : Nat → Nat → Int) (N' : Nat → Nat) (O' : Nat → Nat → Option Nat) (T' : Nat → Nat) (g' : Nat → Nat → Nat), w = pw G X L' K' I' F' R' N' O' ∧ RP (gde G) L' K' I' F' R' N' O' T' g' V0 (s + 1) 0 0 0 ∧ g' 6 0 = g 6 0 ∧ g' 2 s = q ∧ (∀ i, i < s → g' 2 i = g 2 i) := by
  obtain ⟨L', K', F', N', O', e', z, rfl, a1, a2, a3, a4, a5, a6⟩ := ha
  have hrL : r ∉ L := fun c => hr (List.mem_append_left _ c)
  have rq : r ≠ q := fun c => hr (by rw [c]; simp)
  have hm : RP (gde G) ((L ++ [q]) ++ [r]) (va_up (va_up K q 2) r 8) (up2 (up2 (up2 (up2 (up2 (up2 I 4 q 0) 5 q 0) 6 q 0) 5 q 100) 6 q 0) 4 q (s : Int)) (up2 (up2 F 5 q none) 5 q (some r)) (va_up R r (fun _ => 0)) (va_up N r 60) O (va_up (va_up T q (1000 * 2 + s)) r (1000 * 3 + s)) g V0 s 0 0 0 := by
    exact h.mono (HM_house h hq hr)
  have hA := hm.addH (v := q) (r := r) (z := z) (y := (s : Int) + 1) ⟨by simp, by rw [va_up_ne _ _ (Ne.symm rq), va_up_self], by rw [va_up_ne _ _ (Ne.symm rq), va_up_self]⟩ ⟨by simp, va_up_self _ _ _, va_up_self _ _ _⟩
    ⟨up2_at _ _ _ _, va_up_self _ _ _, up2_at _ _ _ _⟩ ⟨⟨?_, ?_⟩, fun l hl => ?_⟩ rfl rfl ⟨a1, a2⟩ ⟨a3, a4, a5, a6⟩
  · refine ⟨_, _, _, _, _, _, _, _, _, rfl, hA, ?_, ?_, fun i hi => ?_⟩
    · rw [up2_ne _ _ (by omega), up2_ne _ _ (by omega), up2_ne _ _ (by omega)]
    · rw [up2_ne _ _ (by omega), up2_ne _ _ (by omega), up2_at]
    · rw [up2_ne _ _ (by omega), up2_ne _ _ (by omega), up2_ne _ _ (by omega)]
  · rw [up2_ne _ _ (by omega), up2_ne _ _ (by omega), up2_at]
    show (100 : Int) = if s < 5 then 100 else 0
    rw [if_pos hs]
  · rw [up2_ne _ _ (by omega), up2_at]; rfl
  · rw [va_up_self]; rfl
theorem RP.copy0 {G : GG} {X : va_W} {L : List Nat} {K : Nat → Nat} {I : Nat → Nat → Int} {F : Nat → Nat → Option Nat} {R : Nat → Nat → Int} {N : Nat → Nat} {O : Nat → Nat → Option Nat} {T : Nat → Nat} {g : Nat → Nat → Nat} {q r : Nat} {w : va_W} (h : RP (gde G) L K I F R N O T g V0 5 0 0 0) (hq : q ∉ L) (hr : r ∉ L ++ [q])
    (ha : ADD G X ((L ++ [q]) ++ [r]) (va_up (va_up K q 0) r 7) (up2 (up2 (up2 (up2 (up2 (up2 I 0 q 0) 1 q 0) 2 q 0) 1 q 0) 0 q ((0 : Nat) : Int)) 2 q ((0 : Nat) : Int)) (up2 (up2 (up2 (up2 (up2 (up2 (up2 (up2 F 0 q none) 1 q none) 2 q none) 3 q none) 2 q (some r)) 0 q none) 1 q (some (g 2 0))) 3 q (some (g 2 0))) (va_up R r (fun _ => 0)) (va_up N r 24) O (g 6 5) (g 7 1) 0 (g 0) q 0 w) :
    ∃ (L' : List Nat) (K' : Nat → Nat) (I' : Nat → Nat → Int) (F' : Nat → Nat → Option Nat) (R' : Nat → Nat → Int) (N' : Nat → Nat) (O' : Nat → Nat → Option Nat) (T' : Nat → Nat) (g' : Nat → Nat → Nat), w = pw G X L' K' I' F' R' N' O' ∧ RX (gde G) L' K' I' F' R' N' O' T' g' V0 1 0 0 ∧ g' 6 0 = g 6 0 := by
  obtain ⟨L', K', F', N', O', e', z, rfl, a1, a2, a3, a4, a5, a6⟩ := ha
  have hrL : r ∉ L := fun c => hr (List.mem_append_left _ c)
  have rq : r ≠ q := fun c => hr (by rw [c]; simp)
  have hm : RP (gde G) ((L ++ [q]) ++ [r]) (va_up (va_up K q 0) r 7) (up2 (up2 (up2 (up2 (up2 (up2 I 0 q 0) 1 q 0) 2 q 0) 1 q 0) 0 q ((0 : Nat) : Int)) 2 q ((0 : Nat) : Int)) (up2 (up2 (up2 (up2 (up2 (up2 (up2 (up2 F 0 q none) 1 q none) 2 q none) 3 q none) 2 q (some r)) 0 q none) 1 q (some (g 2 0))) 3 q (some (g 2 0))) (va_up R r (fun _ => 0)) (va_up N r 24) O (va_up (va_up T q (1000 * 0 + 0)) r (1000 * 1 + 0)) g V0 5 0 0 0 := by
    exact h.mono (HM_copy0 h hq hr)
  have hA := hm.addC (v := q) (r := r) (z := z) (y := ((0 : Nat) : Int) + 1) ⟨by simp, by rw [va_up_ne _ _ (Ne.symm rq), va_up_self], by rw [va_up_ne _ _ (Ne.symm rq), va_up_self]⟩ ⟨by simp, va_up_self _ _ _, va_up_self _ _ _⟩
    ⟨?_, va_up_self _ _ _, ?_, ?_, ?_⟩ ⟨up2_at _ _ _ _, ?_, fun k hk => ?_⟩ (fun i hi => ?_) (fun j hj => absurd hj (Nat.not_lt_zero _)) ⟨a1, a2⟩ ⟨a3, a4, a5, a6⟩
  · refine ⟨_, _, _, _, _, _, _, _, _, rfl, ⟨hA, ?_⟩, ?_⟩
    · intro i hi
      have e0 : i = 0 := by omega
      subst e0
      refine ⟨⟨0, ?_, Nat.le_refl _, rch.rf⟩, fun j hj _ => ?_⟩
      · show ADI _ _ _ _ 2 (up2 (up2 (up2 g 0 0 q) 1 0 r) 7 1 e' 0 0) = _
        rw [up2_ne _ _ (by omega), up2_ne _ _ (by omega), up2_at, ADI_2]
        exact up2_at _ _ _ _
      · have e1 : j = 0 := by omega
        subst e1
        rfl
    · rw [up2_ne _ _ (by omega), up2_ne _ _ (by omega), up2_ne _ _ (by omega)]
  · rw [up2_ne _ _ (by omega), up2_ne _ _ (by omega), up2_ne _ _ (by omega), up2_at]
  · rw [up2_ne _ _ (by omega), up2_at]
  · rw [up2_ne _ _ (by omega), up2_ne _ _ (by omega), up2_at]; rfl
  · rw [up2_ne _ _ (by omega), up2_at]; rfl
  · rw [up2_ne _ _ (by omega), up2_ne _ _ (by omega), up2_at]; rfl
  · rw [va_up_self]; rfl
  · have e0 : i = 0 := by omega
    subst e0
    exact .inl rfl
section
variable {κ : KxT} {G : GG} {base mc ms : Nat} {post : Option Value → va_W → Prop} {exc : String → va_W → Prop} {X : va_W} {L : List Nat} {K : Nat → Nat} {I : Nat → Nat → Int} {F : Nat → Nat → Option Nat} {R : Nat → Nat → Int} {N : Nat → Nat} {O : Nat → Nat → Option Nat} {l : Launch}
theorem tl_X5_h0 (C : Cx κ cX5_init 3 wsX5_init RX5 none rmX5_init G base) {x : Nat} {T : Nat → Nat} {g : Nat → Nat → Nat} (hx : g 6 0 = x) (h : RP (gde G) L K I F R N O T g V0 0 0 0 0)
    (kk : (∀ (L : List Nat) (K : Nat → Nat) (I : Nat → Nat → Int) (F : Nat → Nat → Option Nat) (R : Nat → Nat → Int) (N : Nat → Nat) (O : Nat → Nat → Option Nat) (T : Nat → Nat) (g : Nat → Nat → Nat), g 6 0 = x → RP (gde G) L K I F R N O T g V0 1 0 0 0 → Z κ 3 G base mc ms post exc 10 308 92 [(2, .int (iI ((1 : Nat) : Int))), (1, .ref (g 2 0)), (0, .ref x)] [] (pw G X L K I F R N O))) : Z κ 3 G base mc ms post exc 7 44 72 [(0, .ref x)] [] (pw G X L K I F R N O) := by
  subst hx
  refine z_new (ci := 3) (fs := [.int 0, .null, .int 0, .int 0]) C tyX2 tyX2_ok iX5_init_X2 lX5_init_c40 nnX5_init_X2 niX5_init_X2 rfl (by decide) (Nat.le_of_ble_eq_true rfl) (Nat.le_of_ble_eq_true rfl) dX5_init_72 (rfl : 72 + 3 = 75) (fun q hq => ?_)
  refine z_ws (pwn_House hq) ?_
  have hqL : q ∉ L := pw_fresh hq
  refine z_dup C rfl dX5_init_75 (rfl : 75 + 1 = 76) ?_
  refine z_iconst C dX5_init_76 (rfl : 76 + 1 = 77) ?_
  refine z_callI C 9 108 (c_X2_init (i := 0) (by simp) (va_up_self _ _ _)) gX5_init_X2_init rfl nX5_init_X2_init lX5_init_m42 vX5_init_X2_init rfl hd60_X2_init ⟨Nat.le_of_ble_eq_true rfl, Nat.le_of_ble_eq_true rfl⟩ rfl (Nat.le_of_ble_eq_true rfl) dX5_init_77 (rfl : 77 + 3 = 80) rfl rfl ⟨Nat.le_of_ble_eq_true rfl, Nat.le_of_ble_eq_true rfl⟩ (fun _ _ h => h.elim) ?_ rfl
  rintro _ _ ⟨rfl, r, hrL, rfl⟩
  refine z_v0 ?_
  refine z_astore_n (lv' := [(1, _), (0, _)]) C rfl dX5_init_80 (rfl : 80 + 1 = 81) (by decide) rfl ?_
  refine z_aload_n C 1 rfl rfl dX5_init_81 (rfl : 81 + 1 = 82) ?_
  have nx : g 6 0 ≠ q := fun e => hqL (e ▸ (h.g6 (i := 0) (by decide)).1)
  have mx := List.mem_append_left [r] (List.mem_append_left [q] (h.g6 (i := 0) (by decide)).1)
  have kx : va_up (va_up K q 2) r 8 (g 6 0) = 5 := (upne (List.mem_append_left [q] (h.g6 (i := 0) (by decide)).1) hrL).trans ((upne (h.g6 (i := 0) (by decide)).1 hqL).trans (h.g6 (i := 0) (by decide)).2)
  refine z_get C (pwm_MC mx kx) rfl iX5_init_X5 0 (by decide) lX5_init_f10 rfl rfl dX5_init_82 (rfl : 82 + 3 = 85) ?_
  rw [show up2 (up2 F 5 q none) 5 q (some r) 8 (g 6 0) = some (g 6 4) from h.2.1.1.1]
  refine z_aload_n C 0 rfl rfl dX5_init_85 (rfl : 85 + 1 = 86) ?_
  obtain ⟨hl, hty⟩ := LT.mono (HM_house h hqL hrL) h.2.2.1.1
  refine z_callV C 10 308 (c_AL_add hl hty (by decide) (.inr (.inl rfl)) (by simp) (by rw [va_up_ne _ _ (fun e => hrL (by rw [← e]; simp)), va_up_self])) gX5_init_Jx4a65c_add_9ea2d rfl hd60_Jx4a65c_add_9ea2d ⟨Nat.le_of_ble_eq_true rfl, Nat.le_of_ble_eq_true rfl⟩ (pwm_AL hl.1 hl.2.1) rfl rfl (Nat.le_of_ble_eq_true rfl) dX5_init_86 (rfl : 86 + 3 = 89) rfl rfl ⟨Nat.le_of_ble_eq_true rfl, Nat.le_of_ble_eq_true rfl⟩ (fun _ _ h => h.elim) ?_ rfl
  rintro _ _ ⟨rfl, ha⟩
  refine z_v1 ?_
  obtain ⟨L1, K1, I1, F1, R1, N1, O1, T1, g1, rfl, hR1, e1, e2, e3⟩ := RP.newH h (by decide) hqL hrL ha
  refine z_pop C rfl dX5_init_89 (rfl : 89 + 1 = 90) ?_
  refine z_iconst C dX5_init_90 (rfl : 90 + 1 = 91) ?_
  refine z_istore_n (lv' := [(2, _), (1, _), (0, _)]) C rfl dX5_init_91 (rfl : 91 + 1 = 92) (by decide) rfl ?_
  refine z_sub [0, 1, 2] (lv' := [(2, .int (iI ((1 : Nat) : Int))), (1, .ref (g1 2 0)), (0, .ref (g 6 0))]) (by rw [show g1 2 0 = q from e2]; rfl) ?_
  exact kk _ _ _ _ _ _ _ _ _ e1 hR1
theorem tl_X5_h1 (C : Cx κ cX5_init 3 wsX5_init RX5 none rmX5_init G base) {x : Nat} {T : Nat → Nat} {g : Nat → Nat → Nat} (hx : g 6 0 = x) (h : RP (gde G) L K I F R N O T g V0 1 0 0 0)
    (kk : (∀ (L : List Nat) (K : Nat → Nat) (I : Nat → Nat → Int) (F : Nat → Nat → Option Nat) (R : Nat → Nat → Int) (N : Nat → Nat) (O : Nat → Nat → Option Nat) (T : Nat → Nat) (g : Nat → Nat → Nat), g 6 0 = x → RP (gde G) L K I F R N O T g V0 2 0 0 0 → Z κ 3 G base mc ms post exc 13 572 92 [(2, .int (iI ((2 : Nat) : Int))), (1, .ref (g 2 0)), (0, .ref x)] [] (pw G X L K I F R N O))) : Z κ 3 G base mc ms post exc 10 308 92 [(2, .int (iI ((1 : Nat) : Int))), (1, .ref (g 2 0)), (0, .ref x)] [] (pw G X L K I F R N O) := by
  subst hx
  refine z_iload_n C 0 rfl rfl dX5_init_92 (rfl : 92 + 1 = 93) ?_
  refine z_iconst C dX5_init_93 (rfl : 93 + 1 = 94) ?_
  refine z_icmp_ge (pt := 119) C dX5_init_94 (by decide) (rfl : 94 + 3 = 97) (iI_le (by omega) (by omega)).1 (fun q => mt (iI_le (by omega) (by omega)).2 q) (fun c => ?_) (fun c => ?_)
  · exact absurd c (by decide)
  refine z_aload_n C 2 rfl rfl dX5_init_97 (rfl : 97 + 1 = 98) ?_
  refine z_get C (pwm_MC h.x8.1 h.x8.2.1) rfl iX5_init_X5 0 (by decide) lX5_init_f10 rfl rfl dX5_init_98 (rfl : 98 + 3 = 101) ?_
  rw [h.x8.2.2]
  refine z_new (ci := 3) (fs := [.int 0, .null, .int 0, .int 0]) C tyX2 tyX2_ok iX5_init_X2 lX5_init_c40 nnX5_init_X2 niX5_init_X2 rfl (by decide) (Nat.le_of_ble_eq_true rfl) (Nat.le_of_ble_eq_true rfl) dX5_init_101 (rfl : 101 + 3 = 104) (fun q hq => ?_)
  refine z_ws (pwn_House hq) ?_
  have hqL : q ∉ L := pw_fresh hq
  refine z_dup C rfl dX5_init_104 (rfl : 104 + 1 = 105) ?_
  refine z_iload_n C 0 rfl rfl dX5_init_105 (rfl : 105 + 1 = 106) ?_
  refine z_callI C 12 372 (c_X2_init (i := 1) (by simp) (va_up_self _ _ _)) gX5_init_X2_init rfl nX5_init_X2_init lX5_init_m42 vX5_init_X2_init rfl hd60_X2_init ⟨Nat.le_of_ble_eq_true rfl, Nat.le_of_ble_eq_true rfl⟩ rfl (Nat.le_of_ble_eq_true rfl) dX5_init_106 (rfl : 106 + 3 = 109) rfl rfl ⟨Nat.le_of_ble_eq_true rfl, Nat.le_of_ble_eq_true rfl⟩ (fun _ _ h => h.elim) ?_ rfl
  rintro _ _ ⟨rfl, r, hrL, rfl⟩
  refine z_v0 ?_
  obtain ⟨hl, hty⟩ := LT.mono (HM_house h hqL hrL) h.2.2.1.1
  refine z_callV C 13 572 (c_AL_add hl hty (by decide) (.inr (.inl rfl)) (by simp) (by rw [va_up_ne _ _ (fun e => hrL (by rw [← e]; simp)), va_up_self])) gX5_init_Jx4a65c_add_9ea2d rfl hd60_Jx4a65c_add_9ea2d ⟨Nat.le_of_ble_eq_true rfl, Nat.le_of_ble_eq_true rfl⟩ (pwm_AL hl.1 hl.2.1) rfl rfl (Nat.le_of_ble_eq_true rfl) dX5_init_109 (rfl : 109 + 3 = 112) rfl rfl ⟨Nat.le_of_ble_eq_true rfl, Nat.le_of_ble_eq_true rfl⟩ (fun _ _ h => h.elim) ?_ rfl
  rintro _ _ ⟨rfl, ha⟩
  refine z_v1 ?_
  obtain ⟨L1, K1, I1, F1, R1, N1, O1, T1, g1, rfl, hR1, e1, e2, e3⟩ := RP.newH h (by decide) hqL hrL ha
  refine z_pop C rfl dX5_init_112 (rfl : 112 + 1 = 113) ?_
  refine z_iinc (lv' := [(2, _), (1, _), (0, _)]) C 0 dX5_init_113 (rfl : 113 + 3 = 116) rfl rfl (by decide) rfl ?_
  refine z_goto (pc' := 92) C dX5_init_116 (by decide) ?_
  refine z_sub [0, 1, 2] (lv' := [(2, .int (iI ((2 : Nat) : Int))), (1, .ref (g1 2 0)), (0, .ref (g 6 0))]) (by rw [show g1 2 0 = g 2 0 from e3 0 (by decide)]; rfl) ?_
  exact kk _ _ _ _ _ _ _ _ _ e1 hR1
theorem tl_X5_h2 (C : Cx κ cX5_init 3 wsX5_init RX5 none rmX5_init G base) {x : Nat} {T : Nat → Nat} {g : Nat → Nat → Nat} (hx : g 6 0 = x) (h : RP (gde G) L K I F R N O T g V0 2 0 0 0)
    (kk : (∀ (L : List Nat) (K : Nat → Nat) (I : Nat → Nat → Int) (F : Nat → Nat → Option Nat) (R : Nat → Nat → Int) (N : Nat → Nat) (O : Nat → Nat → Option Nat) (T : Nat → Nat) (g : Nat → Nat → Nat), g 6 0 = x → RP (gde G) L K I F R N O T g V0 3 0 0 0 → Z κ 3 G base mc ms post exc 16 836 92 [(2, .int (iI ((3 : Nat) : Int))), (1, .ref (g 2 0)), (0, .ref x)] [] (pw G X L K I F R N O))) : Z κ 3 G base mc ms post exc 13 572 92 [(2, .int (iI ((2 : Nat) : Int))), (1, .ref (g 2 0)), (0, .ref x)] [] (pw G X L K I F R N O) := by
  subst hx
  refine z_iload_n C 0 rfl rfl dX5_init_92 (rfl : 92 + 1 = 93) ?_
  refine z_iconst C dX5_init_93 (rfl : 93 + 1 = 94) ?_
  refine z_icmp_ge (pt := 119) C dX5_init_94 (by decide) (rfl : 94 + 3 = 97) (iI_le (by omega) (by omega)).1 (fun q => mt (iI_le (by omega) (by omega)).2 q) (fun c => ?_) (fun c => ?_)
  · exact absurd c (by decide)
  refine z_aload_n C 2 rfl rfl dX5_init_97 (rfl : 97 + 1 = 98) ?_
  refine z_get C (pwm_MC h.x8.1 h.x8.2.1) rfl iX5_init_X5 0 (by decide) lX5_init_f10 rfl rfl dX5_init_98 (rfl : 98 + 3 = 101) ?_
  rw [h.x8.2.2]
  refine z_new (ci := 3) (fs := [.int 0, .null, .int 0, .int 0]) C tyX2 tyX2_ok iX5_init_X2 lX5_init_c40 nnX5_init_X2 niX5_init_X2 rfl (by decide) (Nat.le_of_ble_eq_true rfl) (Nat.le_of_ble_eq_true rfl) dX5_init_101 (rfl : 101 + 3 = 104) (fun q hq => ?_)
  refine z_ws (pwn_House hq) ?_
  have hqL : q ∉ L := pw_fresh hq
  refine z_dup C rfl dX5_init_104 (rfl : 104 + 1 = 105) ?_
  refine z_iload_n C 0 rfl rfl dX5_init_105 (rfl : 105 + 1 = 106) ?_
  refine z_callI C 15 636 (c_X2_init (i := 2) (by simp) (va_up_self _ _ _)) gX5_init_X2_init rfl nX5_init_X2_init lX5_init_m42 vX5_init_X2_init rfl hd60_X2_init ⟨Nat.le_of_ble_eq_true rfl, Nat.le_of_ble_eq_true rfl⟩ rfl (Nat.le_of_ble_eq_true rfl) dX5_init_106 (rfl : 106 + 3 = 109) rfl rfl ⟨Nat.le_of_ble_eq_true rfl, Nat.le_of_ble_eq_true rfl⟩ (fun _ _ h => h.elim) ?_ rfl
  rintro _ _ ⟨rfl, r, hrL, rfl⟩
  refine z_v0 ?_
  obtain ⟨hl, hty⟩ := LT.mono (HM_house h hqL hrL) h.2.2.1.1
  refine z_callV C 16 836 (c_AL_add hl hty (by decide) (.inr (.inl rfl)) (by simp) (by rw [va_up_ne _ _ (fun e => hrL (by rw [← e]; simp)), va_up_self])) gX5_init_Jx4a65c_add_9ea2d rfl hd60_Jx4a65c_add_9ea2d ⟨Nat.le_of_ble_eq_true rfl, Nat.le_of_ble_eq_true rfl⟩ (pwm_AL hl.1 hl.2.1) rfl rfl (Nat.le_of_ble_eq_true rfl) dX5_init_109 (rfl : 109 + 3 = 112) rfl rfl ⟨Nat.le_of_ble_eq_true rfl, Nat.le_of_ble_eq_true rfl⟩ (fun _ _ h => h.elim) ?_ rfl
  rintro _ _ ⟨rfl, ha⟩
  refine z_v1 ?_
  obtain ⟨L1, K1, I1, F1, R1, N1, O1, T1, g1, rfl, hR1, e1, e2, e3⟩ := RP.newH h (by decide) hqL hrL ha
  refine z_pop C rfl dX5_init_112 (rfl : 112 + 1 = 113) ?_
  refine z_iinc (lv' := [(2, _), (1, _), (0, _)]) C 0 dX5_init_113 (rfl : 113 + 3 = 116) rfl rfl (by decide) rfl ?_
  refine z_goto (pc' := 92) C dX5_init_116 (by decide) ?_
  refine z_sub [0, 1, 2] (lv' := [(2, .int (iI ((3 : Nat) : Int))), (1, .ref (g1 2 0)), (0, .ref (g 6 0))]) (by rw [show g1 2 0 = g 2 0 from e3 0 (by decide)]; rfl) ?_
  exact kk _ _ _ _ _ _ _ _ _ e1 hR1
theorem tl_X5_h3 (C : Cx κ cX5_init 3 wsX5_init RX5 none rmX5_init G base) {x : Nat} {T : Nat → Nat} {g : Nat → Nat → Nat} (hx : g 6 0 = x) (h : RP (gde G) L K I F R N O T g V0 3 0 0 0)
    (kk : (∀ (L : List Nat) (K : Nat → Nat) (I : Nat → Nat → Int) (F : Nat → Nat → Option Nat) (R : Nat → Nat → Int) (N : Nat → Nat) (O : Nat → Nat → Option Nat) (T : Nat → Nat) (g : Nat → Nat → Nat), g 6 0 = x → RP (gde G) L K I F R N O T g V0 4 0 0 0 → Z κ 3 G base mc ms post exc 19 1100 92 [(2, .int (iI ((4 : Nat) : Int))), (1, .ref (g 2 0)), (0, .ref x)] [] (pw G X L K I F R N O))) : Z κ 3 G base mc ms post exc 16 836 92 [(2, .int (iI ((3 : Nat) : Int))), (1, .ref (g 2 0)), (0, .ref x)] [] (pw G X L K I F R N O) := by
  subst hx
  refine z_iload_n C 0 rfl rfl dX5_init_92 (rfl : 92 + 1 = 93) ?_
  refine z_iconst C dX5_init_93 (rfl : 93 + 1 = 94) ?_
  refine z_icmp_ge (pt := 119) C dX5_init_94 (by decide) (rfl : 94 + 3 = 97) (iI_le (by omega) (by omega)).1 (fun q => mt (iI_le (by omega) (by omega)).2 q) (fun c => ?_) (fun c => ?_)
  · exact absurd c (by decide)
  refine z_aload_n C 2 rfl rfl dX5_init_97 (rfl : 97 + 1 = 98) ?_
  refine z_get C (pwm_MC h.x8.1 h.x8.2.1) rfl iX5_init_X5 0 (by decide) lX5_init_f10 rfl rfl dX5_init_98 (rfl : 98 + 3 = 101) ?_
  rw [h.x8.2.2]
  refine z_new (ci := 3) (fs := [.int 0, .null, .int 0, .int 0]) C tyX2 tyX2_ok iX5_init_X2 lX5_init_c40 nnX5_init_X2 niX5_init_X2 rfl (by decide) (Nat.le_of_ble_eq_true rfl) (Nat.le_of_ble_eq_true rfl) dX5_init_101 (rfl : 101 + 3 = 104) (fun q hq => ?_)
  refine z_ws (pwn_House hq) ?_
  have hqL : q ∉ L := pw_fresh hq
  refine z_dup C rfl dX5_init_104 (rfl : 104 + 1 = 105) ?_
  refine z_iload_n C 0 rfl rfl dX5_init_105 (rfl : 105 + 1 = 106) ?_
  refine z_callI C 18 900 (c_X2_init (i := 3) (by simp) (va_up_self _ _ _)) gX5_init_X2_init rfl nX5_init_X2_init lX5_init_m42 vX5_init_X2_init rfl hd60_X2_init ⟨Nat.le_of_ble_eq_true rfl, Nat.le_of_ble_eq_true rfl⟩ rfl (Nat.le_of_ble_eq_true rfl) dX5_init_106 (rfl : 106 + 3 = 109) rfl rfl ⟨Nat.le_of_ble_eq_true rfl, Nat.le_of_ble_eq_true rfl⟩ (fun _ _ h => h.elim) ?_ rfl
  rintro _ _ ⟨rfl, r, hrL, rfl⟩
  refine z_v0 ?_
  obtain ⟨hl, hty⟩ := LT.mono (HM_house h hqL hrL) h.2.2.1.1
  refine z_callV C 19 1100 (c_AL_add hl hty (by decide) (.inr (.inl rfl)) (by simp) (by rw [va_up_ne _ _ (fun e => hrL (by rw [← e]; simp)), va_up_self])) gX5_init_Jx4a65c_add_9ea2d rfl hd60_Jx4a65c_add_9ea2d ⟨Nat.le_of_ble_eq_true rfl, Nat.le_of_ble_eq_true rfl⟩ (pwm_AL hl.1 hl.2.1) rfl rfl (Nat.le_of_ble_eq_true rfl) dX5_init_109 (rfl : 109 + 3 = 112) rfl rfl ⟨Nat.le_of_ble_eq_true rfl, Nat.le_of_ble_eq_true rfl⟩ (fun _ _ h => h.elim) ?_ rfl
  rintro _ _ ⟨rfl, ha⟩
  refine z_v1 ?_
  obtain ⟨L1, K1, I1, F1, R1, N1, O1, T1, g1, rfl, hR1, e1, e2, e3⟩ := RP.newH h (by decide) hqL hrL ha
  refine z_pop C rfl dX5_init_112 (rfl : 112 + 1 = 113) ?_
  refine z_iinc (lv' := [(2, _), (1, _), (0, _)]) C 0 dX5_init_113 (rfl : 113 + 3 = 116) rfl rfl (by decide) rfl ?_
  refine z_goto (pc' := 92) C dX5_init_116 (by decide) ?_
  refine z_sub [0, 1, 2] (lv' := [(2, .int (iI ((4 : Nat) : Int))), (1, .ref (g1 2 0)), (0, .ref (g 6 0))]) (by rw [show g1 2 0 = g 2 0 from e3 0 (by decide)]; rfl) ?_
  exact kk _ _ _ _ _ _ _ _ _ e1 hR1
theorem tl_X5_h4 (C : Cx κ cX5_init 3 wsX5_init RX5 none rmX5_init G base) {x : Nat} {T : Nat → Nat} {g : Nat → Nat → Nat} (hx : g 6 0 = x) (h : RP (gde G) L K I F R N O T g V0 4 0 0 0)
    (kk : (∀ (L : List Nat) (K : Nat → Nat) (I : Nat → Nat → Int) (F : Nat → Nat → Option Nat) (R : Nat → Nat → Int) (N : Nat → Nat) (O : Nat → Nat → Option Nat) (T : Nat → Nat) (g : Nat → Nat → Nat), g 6 0 = x → RP (gde G) L K I F R N O T g V0 5 0 0 0 → Z κ 3 G base mc ms post exc 22 1364 92 [(2, .int (iI ((5 : Nat) : Int))), (1, .ref (g 2 0)), (0, .ref x)] [] (pw G X L K I F R N O))) : Z κ 3 G base mc ms post exc 19 1100 92 [(2, .int (iI ((4 : Nat) : Int))), (1, .ref (g 2 0)), (0, .ref x)] [] (pw G X L K I F R N O) := by
  subst hx
  refine z_iload_n C 0 rfl rfl dX5_init_92 (rfl : 92 + 1 = 93) ?_
  refine z_iconst C dX5_init_93 (rfl : 93 + 1 = 94) ?_
  refine z_icmp_ge (pt := 119) C dX5_init_94 (by decide) (rfl : 94 + 3 = 97) (iI_le (by omega) (by omega)).1 (fun q => mt (iI_le (by omega) (by omega)).2 q) (fun c => ?_) (fun c => ?_)
  · exact absurd c (by decide)
  refine z_aload_n C 2 rfl rfl dX5_init_97 (rfl : 97 + 1 = 98) ?_
  refine z_get C (pwm_MC h.x8.1 h.x8.2.1) rfl iX5_init_X5 0 (by decide) lX5_init_f10 rfl rfl dX5_init_98 (rfl : 98 + 3 = 101) ?_
  rw [h.x8.2.2]
  refine z_new (ci := 3) (fs := [.int 0, .null, .int 0, .int 0]) C tyX2 tyX2_ok iX5_init_X2 lX5_init_c40 nnX5_init_X2 niX5_init_X2 rfl (by decide) (Nat.le_of_ble_eq_true rfl) (Nat.le_of_ble_eq_true rfl) dX5_init_101 (rfl : 101 + 3 = 104) (fun q hq => ?_)
  refine z_ws (pwn_House hq) ?_
  have hqL : q ∉ L := pw_fresh hq
  refine z_dup C rfl dX5_init_104 (rfl : 104 + 1 = 105) ?_
  refine z_iload_n C 0 rfl rfl dX5_init_105 (rfl : 105 + 1 = 106) ?_
  refine z_callI C 21 1164 (c_X2_init (i := 4) (by simp) (va_up_self _ _ _)) gX5_init_X2_init rfl nX5_init_X2_init lX5_init_m42 vX5_init_X2_init rfl hd60_X2_init ⟨Nat.le_of_ble_eq_true rfl, Nat.le_of_ble_eq_true rfl⟩ rfl (Nat.le_of_ble_eq_true rfl) dX5_init_106 (rfl : 106 + 3 = 109) rfl rfl ⟨Nat.le_of_ble_eq_true rfl, Nat.le_of_ble_eq_true rfl⟩ (fun _ _ h => h.elim) ?_ rfl
  rintro _ _ ⟨rfl, r, hrL, rfl⟩
  refine z_v0 ?_
  obtain ⟨hl, hty⟩ := LT.mono (HM_house h hqL hrL) h.2.2.1.1
  refine z_callV C 22 1364 (c_AL_add hl hty (by decide) (.inr (.inl rfl)) (by simp) (by rw [va_up_ne _ _ (fun e => hrL (by rw [← e]; simp)), va_up_self])) gX5_init_Jx4a65c_add_9ea2d rfl hd60_Jx4a65c_add_9ea2d ⟨Nat.le_of_ble_eq_true rfl, Nat.le_of_ble_eq_true rfl⟩ (pwm_AL hl.1 hl.2.1) rfl rfl (Nat.le_of_ble_eq_true rfl) dX5_init_109 (rfl : 109 + 3 = 112) rfl rfl ⟨Nat.le_of_ble_eq_true rfl, Nat.le_of_ble_eq_true rfl⟩ (fun _ _ h => h.elim) ?_ rfl
  rintro _ _ ⟨rfl, ha⟩
  refine z_v1 ?_
  obtain ⟨L1, K1, I1, F1, R1, N1, O1, T1, g1, rfl, hR1, e1, e2, e3⟩ := RP.newH h (by decide) hqL hrL ha
  refine z_pop C rfl dX5_init_112 (rfl : 112 + 1 = 113) ?_
  refine z_iinc (lv' := [(2, _), (1, _), (0, _)]) C 0 dX5_init_113 (rfl : 113 + 3 = 116) rfl rfl (by decide) rfl ?_
  refine z_goto (pc' := 92) C dX5_init_116 (by decide) ?_
  refine z_sub [0, 1, 2] (lv' := [(2, .int (iI ((5 : Nat) : Int))), (1, .ref (g1 2 0)), (0, .ref (g 6 0))]) (by rw [show g1 2 0 = g 2 0 from e3 0 (by decide)]; rfl) ?_
  exact kk _ _ _ _ _ _ _ _ _ e1 hR1
theorem c_X5_init {x : Nat} (hx : x ∈ L) (hk : K x = 5) : MC l yX5_init wsX5_init rmX5_init G base [.ref x] (pw G X L K I F R N O) (fun v w => v = none ∧ ∃ (L' : List Nat) (K' : Nat → Nat) (I' : Nat → Nat → Int) (F' : Nat → Nat → Option Nat) (R' : Nat → Nat → Int) (N' : Nat → Nat) (O' : Nat → Nat → Option Nat) (T' : Nat → Nat) (g' : Nat → Nat → Nat), w = pw G X L' K' I' F' R' N' O' ∧ RX (gde G) L' K' I' F' R' N' O' T' g' V0 1 0 0 ∧ g' 6 0 = x) (fun _ _ => False) := by
  refine MC.of (cc := cX5_init) (by decide) rfl rfl (Nat.le_of_ble_eq_true rfl) ?_
  intro κ C hT hl0 hi
  refine z_aload_n C 0 rfl rfl dX5_init_0 (rfl : 0 + 1 = 1) ?_
  refine z_objInit C lX5_init_m1 vX5_init_oi cX5_init_oi (by decide) (by decide) dX5_init_1 (rfl : 1 + 3 = 4) ?_
  refine tl_X5_i0 (gl := fun _ => 0) C hi ⟨⟨hx, hk⟩, fun i hi => absurd hi (Nat.not_lt_zero _), fun i k hi => absurd hi (Nat.not_lt_zero _)⟩ (fun L K I F gl h => ?_)
  refine tl_X5_i1 C hi h (fun L K I F gl h => ?_)
  refine tl_X5_i2 C hi h (fun L K I F gl h => ?_)
  refine tl_X5_i3 C hi h (fun L K I F gl h => ?_)
  refine tl_X5_iS C hi h (fun L K I F R N T g hg h => ?_)
  refine tl_X5_h0 C hg h (fun L K I F R N O T g hg h => ?_)
  refine tl_X5_h1 C hg h (fun L K I F R N O T g hg h => ?_)
  refine tl_X5_h2 C hg h (fun L K I F R N O T g hg h => ?_)
  refine tl_X5_h3 C hg h (fun L K I F R N O T g hg h => ?_)
  refine tl_X5_h4 C hg h (fun L K I F R N O T g hg9 h9 => ?_)
  subst hg9
  refine z_iload_n C 0 rfl rfl dX5_init_92 (rfl : 92 + 1 = 93) ?_
  refine z_iconst C dX5_init_93 (rfl : 93 + 1 = 94) ?_
  refine z_icmp_ge (pt := 119) C dX5_init_94 (by decide) (rfl : 94 + 3 = 97) (iI_le (by omega) (by omega)).1 (fun q => mt (iI_le (by omega) (by omega)).2 q) (fun c => ?_) (fun c => ?_)
  rotate_left
  · exact absurd (show (5 : Int) ≤ 5 by decide) (by omega)
  refine z_aload_n C 2 rfl rfl dX5_init_119 (rfl : 119 + 1 = 120) ?_
  refine z_get C (pwm_MC h9.x9.1 h9.x9.2.1) rfl iX5_init_X5 1 (by decide) lX5_init_f16 rfl rfl dX5_init_120 (rfl : 120 + 3 = 123) ?_
  rw [h9.x9.2.2]
  refine z_new (ci := 1) (fs := [.int 0, .null, .null, .null, .null, .int 0, .int 0]) C tyX0 tyX0_ok iX5_init_X0 lX5_init_c49 nnX5_init_X0 niX5_init_X0 rfl (by decide) (Nat.le_of_ble_eq_true rfl) (Nat.le_of_ble_eq_true rfl) dX5_init_123 (rfl : 123 + 3 = 126) (fun q hq => ?_)
  refine z_ws (pwn_Copy hq) ?_
  have hqL : q ∉ L := pw_fresh hq
  refine z_dup C rfl dX5_init_126 (rfl : 126 + 1 = 127) ?_
  refine z_iconst C dX5_init_127 (rfl : 127 + 1 = 128) ?_
  refine z_null C dX5_init_128 (rfl : 128 + 1 = 129) ?_
  refine z_aload_n C 1 rfl rfl dX5_init_129 (rfl : 129 + 1 = 130) ?_
  refine z_callI C 24 1395 (c_X0_initN (i := 0) (by simp) (va_up_self _ _ _)) gX5_init_X0_init rfl nX5_init_X0_init lX5_init_m51 vX5_init_X0_init rfl hd60_X0_init ⟨Nat.le_of_ble_eq_true rfl, Nat.le_of_ble_eq_true rfl⟩ rfl (Nat.le_of_ble_eq_true rfl) dX5_init_130 (rfl : 130 + 3 = 133) rfl rfl ⟨Nat.le_of_ble_eq_true rfl, Nat.le_of_ble_eq_true rfl⟩ (fun _ _ h => h.elim) ?_ rfl
  rintro _ _ ⟨rfl, r, hrL, rfl⟩
  refine z_v0 ?_
  obtain ⟨hl, hty⟩ := LT.mono (HM_copy0 (f := fun _ => 0) h9 hqL hrL) h9.2.2.1.2.1
  refine z_callV C 25 1595 (c_AL_add hl hty (by decide) (.inl rfl) (by simp) (by rw [va_up_ne _ _ (fun e => hrL (by rw [← e]; simp)), va_up_self])) gX5_init_Jx4a65c_add_9ea2d rfl hd60_Jx4a65c_add_9ea2d ⟨Nat.le_of_ble_eq_true rfl, Nat.le_of_ble_eq_true rfl⟩ (pwm_AL hl.1 hl.2.1) rfl rfl (Nat.le_of_ble_eq_true rfl) dX5_init_133 (rfl : 133 + 3 = 136) rfl rfl ⟨Nat.le_of_ble_eq_true rfl, Nat.le_of_ble_eq_true rfl⟩ (fun _ _ h => h.elim) ?_ rfl
  rintro _ _ ⟨rfl, ha⟩
  refine z_v1 ?_
  obtain ⟨L1, K1, I1, F1, R1, N1, O1, T1, g1, rfl, hR1, e1⟩ := RP.copy0 h9 hqL hrL ha
  refine z_pop C rfl dX5_init_136 (rfl : 136 + 1 = 137) ?_
  exact z_vret C rfl dX5_init_137 ⟨rfl, L1, K1, I1, F1, R1, N1, O1, T1, g1, rfl, hR1, e1⟩ (by decide) (by decide)
end
