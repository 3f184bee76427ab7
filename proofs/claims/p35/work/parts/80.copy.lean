theorem lX5_copy_f16 : Cond.fieldLink RX5 16 "ModelCopies" "copies" "Ljava/util/ArrayList;" ∈ wsX5_copy := by decide +kernel
theorem iX5_copy_X5 : ∀ w ∈ wsX50, w ∈ wsX5_copy := by decide +kernel
theorem hd80_Jx4a65c_add_9ea2d : yJx4a65c_add_9ea2d.cls = RJx4a65c ∧ yJx4a65c_add_9ea2d.cls ≠ "java/lang/invoke/MethodHandle" ∧ yJx4a65c_add_9ea2d.cls ≠ "java/lang/invoke/VarHandle" ∧ (parseMethodDescriptor yJx4a65c_add_9ea2d.desc).map (fun d => d.parameters.length) = some 1 := by decide +kernel
theorem hd80_X5_enterFamily : yX5_enterFamily.cls = RX5 ∧ yX5_enterFamily.cls ≠ "java/lang/invoke/MethodHandle" ∧ yX5_enterFamily.cls ≠ "java/lang/invoke/VarHandle" ∧ (parseMethodDescriptor yX5_enterFamily.desc).map (fun d => d.parameters.length) = some 1 := by decide +kernel
theorem lX5_copy_f118 : Cond.fieldLink RX5 118 "ModelCopies$Copy" "number" "I" ∈ wsX5_copy := by decide +kernel
theorem iX5_copy_X0 : ∀ w ∈ wsX00, w ∈ wsX5_copy := by decide +kernel
theorem lX5_copy_c49 : Cond.classLink RX5 49 "ModelCopies$Copy" ∈ wsX5_copy := by decide +kernel
theorem nnX5_copy_X0 : Cond.instantiable "ModelCopies$Copy" 7 ∈ wsX5_copy := by decide +kernel
theorem niX5_copy_X0 : Cond.initialized "ModelCopies$Copy" ∈ wsX5_copy := by decide +kernel
theorem hd80_Jx4a65c_size_8abf5 : yJx4a65c_size_8abf5.cls = RJx4a65c ∧ yJx4a65c_size_8abf5.cls ≠ "java/lang/invoke/MethodHandle" ∧ yJx4a65c_size_8abf5.cls ≠ "java/lang/invoke/VarHandle" ∧ (parseMethodDescriptor yJx4a65c_size_8abf5.desc).map (fun d => d.parameters.length) = some 0 := by decide +kernel
theorem hd80_X0_init : yX0_init.cls ≠ "java/lang/invoke/MethodHandle" ∧ yX0_init.cls ≠ "java/lang/invoke/VarHandle" ∧ (parseMethodDescriptor yX0_init.desc).map (fun d => d.parameters.length) = some 3 := by decide +kernel
theorem lX5_copy_m51 : Cond.methodLink RX5 51 yX0_init ∈ wsX5_copy := by decide +kernel
theorem nX5_copy_X0_init : Cond.initialized yX0_init.cls ∈ wsX5_copy := by decide +kernel
theorem vX5_copy_X0_init : Cond.instanceMethod yX0_init ∈ wsX5_copy := by decide +kernel
theorem lX5_copy_f103 : Cond.fieldLink RX5 103 "ModelCopies$Copy" "isTold" "Z" ∈ wsX5_copy := by decide +kernel
theorem lX5_copy_f25 : Cond.fieldLink RX5 25 "ModelCopies" "slipsByScribe" "[I" ∈ wsX5_copy := by decide +kernel
theorem lX5_copy_f32 : Cond.fieldLink RX5 32 "ModelCopies" "draft" "LModelCopies$Draft;" ∈ wsX5_copy := by decide +kernel
theorem hd80_X1_writeInto : yX1_writeInto.cls = RX1 ∧ yX1_writeInto.cls ≠ "java/lang/invoke/MethodHandle" ∧ yX1_writeInto.cls ≠ "java/lang/invoke/VarHandle" ∧ (parseMethodDescriptor yX1_writeInto.desc).map (fun d => d.parameters.length) = some 1 := by decide +kernel
theorem hd80_X1_clear : yX1_clear.cls = RX1 ∧ yX1_clear.cls ≠ "java/lang/invoke/MethodHandle" ∧ yX1_clear.cls ≠ "java/lang/invoke/VarHandle" ∧ (parseMethodDescriptor yX1_clear.desc).map (fun d => d.parameters.length) = some 0 := by decide +kernel
theorem hd80_X5_findCopy : yX5_findCopy.cls = RX5 ∧ yX5_findCopy.cls ≠ "java/lang/invoke/MethodHandle" ∧ yX5_findCopy.cls ≠ "java/lang/invoke/VarHandle" ∧ (parseMethodDescriptor yX5_findCopy.desc).map (fun d => d.parameters.length) = some 1 := by decide +kernel
theorem hd80_X5_requireScribe : yX5_requireScribe.cls ≠ "java/lang/invoke/MethodHandle" ∧ yX5_requireScribe.cls ≠ "java/lang/invoke/VarHandle" ∧ (parseMethodDescriptor yX5_requireScribe.desc).map (fun d => d.parameters.length) = some 1 := by decide +kernel
theorem hd80_X5_findHouse : yX5_findHouse.cls = RX5 ∧ yX5_findHouse.cls ≠ "java/lang/invoke/MethodHandle" ∧ yX5_findHouse.cls ≠ "java/lang/invoke/VarHandle" ∧ (parseMethodDescriptor yX5_findHouse.desc).map (fun d => d.parameters.length) = some 1 := by decide +kernel
theorem lX5_copy_f91 : Cond.fieldLink RX5 91 "ModelCopies$Copy" "house" "LModelCopies$House;" ∈ wsX5_copy := by decide +kernel
theorem tX5_copy_ISE : ∀ w ∈ (vx_atS RX5 72 "java/lang/IllegalStateException" ["java/lang/RuntimeException", "java/lang/Exception"]).filter goodWord, w ∈ wsX5_copy := by decide +kernel
theorem lX5_copy_c68 : Cond.classLink RX5 68 "java/lang/IllegalStateException" ∈ wsX5_copy := by decide +kernel
theorem nX5_copy_ISE : Cond.initialized "java/lang/IllegalStateException" ∈ wsX5_copy := by decide +kernel
/-- what the new copy's cells must hold for the value V -/
def CNW (g : Nat → Nat → Nat) (I : Nat → Nat → Int) (F : Nat → Nat → Option Nat) (R : Nat → Nat → Int) (V : Nat → Nat → Int) (n t q r : Nat) : Prop :=
  (I 0 q = (n : Int) ∧ F 0 q = (if V 1 n = -1 then none else some (g 0 (V 1 n).toNat)) ∧ F 1 q = some (g 2 (V 3 n).toNat)) ∧ (F 3 q = some (g 2 (V 4 n).toNat) ∧ I 1 q = V 2 n ∧ ∀ k, k < 24 → R r k = V 0 (24 * n + k)) ∧ (∀ i, i ≤ n → V 1 i = -1 ∨ (V 1 i).toNat < n) ∧ ∀ j, j < t → (V 15 j).toNat < n
theorem RP.newC {G : GG} {X : va_W} {L : List Nat} {K : Nat → Nat} {I : Nat → Nat → Int} {F : Nat → Nat → Option Nat} {R : Nat → Nat → Int} {N : Nat → Nat} {O : Nat → Nat → Option Nat} {T : Nat → Nat} {g : Nat → Nat → Nat} {V : Nat → Nat → Int} {n m t q r : Nat} {w : va_W} (hR : RP (gde G) L K I F R N O T g V 5 n m t) (hq : q ∈ L ∧ K q = 0 ∧ T q = 0 + n) (hr : r ∈ L ∧ K r = 7 ∧ T r = 1000 + n) (hf : F 2 q = some r ∧ N r = 24)
    (ha : ADD G X L K I F R N O (g 6 5) (g 7 1) n (g 0) q 0 w) :
    ∃ (L' : List Nat) (K' : Nat → Nat) (I' : Nat → Nat → Int) (F' : Nat → Nat → Option Nat) (N' : Nat → Nat) (O' : Nat → Nat → Option Nat) (T' : Nat → Nat) (g' : Nat → Nat → Nat), w = pw G X L' K' I' F' R N' O' ∧ (∀ V', VEQ V V' 5 n m t → CNW g I F R V' n t q r → RP (gde G) L' K' I' F' R N' O' T' g' V' 5 (n + 1) m t) ∧ (∀ a i, a ≠ 0 → a ≠ 1 → a ≠ 7 → g' a i = g a i) ∧ (∀ i, i < n → g' 0 i = g 0 i) ∧ g' 0 n = q ∧ I' 2 = I 2 := by
  obtain ⟨L', K', F', N', O', e', z, rfl, a1, a2, a3, a4, a5, a6⟩ := ha
  refine ⟨L', K', _, F', N', O', va_up T e' (7000 + 1), up2 (up2 (up2 g 0 n q) 1 n r) 7 1 e', rfl, fun V' hv hc => ?_, fun a i h0 h1 h7 => by rw [up2_ne _ _ (by omega), up2_ne _ _ (by omega), up2_ne _ _ (by omega)], fun i hi => by rw [up2_ne _ _ (by omega), up2_ne _ _ (by omega), up2_ne _ _ (by omega)], by rw [up2_ne _ _ (by omega), up2_ne _ _ (by omega), up2_at], rfl⟩
  obtain ⟨⟨c1, c2, c3⟩, c4, c5, c6⟩ := hc
  exact (hR.congV hv).addC (v := q) (r := r) (z := z) (y := (n : Int) + 1) hq hr ⟨hf.1, hf.2, c1, c2, c3⟩ c4 c5 c6 ⟨a1, a2⟩ ⟨a3, a4, a5, a6⟩
theorem cpR_ex (V : Nat → Nat → Int) (n c s : Nat) : ∃ f0 f6 f8, cpR V n c s 24 f0 f6 f8 := by
  refine ⟨fun i => if 24 * n ≤ i ∧ i < 24 * n + 24 then (if V 6 (i - 24 * n) = -1 then V 0 (24 * c + (i - 24 * n)) else V 6 (i - 24 * n)) else V 0 i, fun k => if k < 24 then -1 else V 6 k, va_up (V 8) s (V 8 s + wrn (rdV V c) (V 6) 24), fun k hk => ?_, fun i hi => ?_, fun k hk => if_pos hk, fun k hk => if_neg (by omega), va_up_self _ _ _, fun k hk => va_up_ne _ _ hk⟩
  · show (if _ then _ else _) = _
    rw [if_pos ⟨by omega, by omega⟩, Nat.add_sub_cancel_left]
  · show (if _ then _ else _) = _
    by_cases c : 24 * n ≤ i ∧ i < 24 * n + 24
    · exact absurd (hi (i - 24 * n) (by omega)) (by omega)
    · rw [if_neg c]
theorem wrn_cong {g f g' f' : Nat → Int} : ∀ k : Nat, (∀ i, i < k → g i = g' i ∧ f i = f' i) → wrn g f k = wrn g' f' k
  | 0, _ => rfl
  | k + 1, h => by
    have e := wrn_cong k (fun i hi => h i (by omega))
    have h1 := h k (by omega)
    simp only [wrn, e, h1.1, h1.2]
section
variable {κ : KxT} {G : GG} {base mc ms : Nat} {post : Option Value → va_W → Prop} {exc : String → va_W → Prop} {X : va_W} {L : List Nat} {K : Nat → Nat} {I : Nat → Nat → Int} {F : Nat → Nat → Option Nat} {R : Nat → Nat → Int} {N : Nat → Nat} {O : Nat → Nat → Option Nat} {l : Launch}
variable {n m t : Nat} {T : Nat → Nat} {g : Nat → Nat → Nat} {V : Nat → Nat → Int}
abbrev rmX5_copy : Room := { frames := 7, cells := 6, slots := 260, locals := 270 }
theorem tl_X5_copyB (C : Cx κ cX5_copy 8 wsX5_copy RX5 (some .int) rmX5_copy G base) {hh cc sc q : Nat} {b : Int} (hh5 : hh < 5) (hc : cc < n) (hn40 : n < 40) (hb : b = 0 ∨ b = 1) (h : RX (gde G) L K I F R N O T g V n m t) (hw : WFV V n m t) (hqL : q ∉ L)
    {r : Nat} {I2 : Nat → Nat → Int} {F2 : Nat → Nat → Option Nat} {R5 : Nat → Nat → Int} {T2 : Nat → Nat} {V5 : Nat → Nat → Int}
    (hR : RP (gde G) ((L ++ [q]) ++ [r]) (va_up (va_up K q 0) r 7) I2 F2 R5 (va_up N r 24) O T2 g V5 5 n m t) (hrL : r ∉ L ++ [q]) (tq : T2 q = 0 + n) (tr : T2 r = 1000 + n)
    (i0 : I2 0 q = (n : Int)) (f2 : F2 2 q = some r) (f0' : F2 0 q = some (g 0 cc)) (f1 : F2 1 q = some (g 2 hh)) (f3 : F2 3 q = some (g 2 hh)) (i1 : I2 1 q = b) (i2 : ∀ x, x ∈ L → I2 2 x = I 2 x) (rr : ∀ k, k < 24 → R5 r k = if V 6 k = -1 then V 0 (24 * cc + k) else V 6 k) (ve : ∀ f0 f6 f8, cpR V n cc sc 24 f0 f6 f8 → VEQ V5 (nsCopy V n cc hh b f0 f6 f8) 5 n m t)
    (fq : 0 ≤ I2 2 q ∧ I2 2 q < 100)
    (kk : ∀ w, MUT G X (g 6 0) (fun V' => ∃ f0 f6 f8, cpR V n cc sc 24 f0 f6 f8 ∧ V' = nsCopy V n cc hh b f0 f6 f8) (n + 1) m t w → post (some (.int (iI (n : Int)))) w) (h1 : 6 ≤ mc) (h2 : 260 ≤ ms) : Z κ 8 G base mc ms post exc 5 49 112 [(7, .ref q), (6, .ref (g 2 hh)), (5, .ref (g 0 cc)), (0, .ref (g 6 0)), (2, .int (iI (sc : Int))), (4, .int (iI b))] [] (pw G X ((L ++ [q]) ++ [r]) (va_up (va_up K q 0) r 7) I2 F2 R5 (va_up N r 24) O) := by
  have hn := hw.2.1
  have rq : r ≠ q := fun c => hrL (by rw [c]; simp)
  have kq : va_up (va_up K q 0) r 7 q = 0 := by rw [va_up_ne _ _ (Ne.symm rq), va_up_self]
  refine z_aload_n C 3 rfl rfl dX5_copy_112 (rfl : 112 + 1 = 113) ?_
  refine z_get C (pwm_MC hR.x9.1 hR.x9.2.1) rfl iX5_copy_X5 1 (by decide) lX5_copy_f16 rfl rfl dX5_copy_113 (rfl : 113 + 3 = 116) ?_
  rw [hR.x9.2.2]
  refine z_aload C 0 rfl dX5_copy_116 (rfl : 116 + 2 = 118) ?_
  obtain ⟨hl, hty⟩ := hR.2.2.1.2.1
  refine z_callV C 6 249 (c_AL_add hl hty (by omega) (.inl rfl) (by simp) kq) gX5_copy_Jx4a65c_add_9ea2d rfl hd80_Jx4a65c_add_9ea2d ⟨Nat.le_of_ble_eq_true rfl, Nat.le_of_ble_eq_true rfl⟩ (pwm_AL hl.1 hl.2.1) rfl rfl (Nat.le_of_ble_eq_true rfl) dX5_copy_118 (rfl : 118 + 3 = 121) rfl rfl ⟨Nat.le_of_ble_eq_true rfl, Nat.le_of_ble_eq_true rfl⟩ (fun _ _ h => h.elim) ?_ rfl
  rintro _ _ ⟨rfl, ha⟩
  refine z_v1 ?_
  obtain ⟨L1, K1, I1, F1, N1, O1, T1, g1, rfl, hR1, eg, eg0, egn, eI⟩ := RP.newC hR ⟨by simp, kq, tq⟩ ⟨by simp, va_up_self _ _ _, tr⟩ ⟨f2, va_up_self _ _ _⟩ ha
  have e6 : g1 6 0 = g 6 0 := eg 6 0 (by decide) (by decide) (by decide)
  have hRV : ∀ f0 f6 f8, cpR V n cc sc 24 f0 f6 f8 → RP (gde G) L1 K1 I1 F1 R5 N1 O1 T1 g1 (nsCopy V n cc hh b f0 f6 f8) 5 (n + 1) m t := fun f0 f6 f8 hcp => by
    refine hR1 _ (ve f0 f6 f8 hcp) ⟨⟨i0, ?_, ?_⟩, ⟨?_, ?_, fun k hk => ?_⟩, fun i hi => ?_, fun j hj => ?_⟩
    · show F2 0 q = if va_up (V 1) n (cc : Int) n = -1 then none else some (g 0 (va_up (V 1) n (cc : Int) n).toNat)
      rw [va_up_self, if_neg (by omega), f0']; rfl
    · show F2 1 q = some (g 2 (va_up (V 3) n (hh : Int) n).toNat)
      rw [va_up_self, f1]; rfl
    · show F2 3 q = some (g 2 (va_up (V 4) n (hh : Int) n).toNat)
      rw [va_up_self, f3]; rfl
    · show I2 1 q = va_up (V 2) n b n
      rw [va_up_self, i1]
    · show R5 r k = f0 (24 * n + k)
      rw [rr k hk, hcp.1 k hk]
    · show va_up (V 1) n (cc : Int) i = -1 ∨ (va_up (V 1) n (cc : Int) i).toNat < n
      by_cases e : i = n
      · subst e; rw [va_up_self]; exact .inr (by omega)
      · rw [va_up_ne _ _ e]
        have := hw.mo (i := i) (by omega)
        omega
    · have := hw.2.2.2.2.2.2.2.2.2.1 j hj
      show (V 15 j).toNat < n
      omega
  obtain ⟨f0, f6, f8, hcp⟩ := cpR_ex V n cc sc
  have hR2 := hRV f0 f6 f8 hcp
  have hw2 : WFV (nsCopy V n cc hh b f0 f6 f8) (n + 1) m t := hw.copy hn40 hc hh5 hb hcp
  have fI : ∀ i, i < n → I1 2 (g1 0 i) = I 2 (g 0 i) := fun i hi => by
    rw [eI, eg0 i hi]; exact i2 _ (h.1.g0 hi).1
  have kc : ∀ f0' f6' f8' i j, i < n → j < n → kinV (nsCopy V n cc hh b f0' f6' f8') i j = kinV V i j ∨ ¬ cpR V n cc sc 24 f0' f6' f8' := fun f0' f6' f8' i j hi hj => by
    by_cases c : cpR V n cc sc 24 f0' f6' f8'
    · refine .inl (kinV_cong (fun i hi => ⟨?_, ?_⟩) (fun i hi k hk => ?_) hi hj)
      · show va_up (V 1) n (cc : Int) i = V 1 i
        exact va_up_ne _ _ (by omega)
      · show va_up (V 2) n b i = V 2 i
        exact va_up_ne _ _ (by omega)
      · exact c.2.1 _ (fun k' hk' => by omega)
    · exact .inr c
  have hF : IsFam (nsCopy V n cc hh b f0 f6 f8) n (fun i => I1 2 (g1 0 i)) := IsFam.cong (f := fun i => I 2 (g 0 i)) (h.2.congV (fun i j hi hj => (kc f0 f6 f8 i j hi hj).resolve_right (fun x => x hcp))) (fun i hi => (fI i hi).symm)
  have rg : rgF (I1 2) (n + 1) (g1 0) := fun i hi => by
    by_cases e : i = n
    · subst e; rw [eI, egn]; exact fq
    · rw [fI i (by omega)]; exact h.rgF hw i (by omega)
  rw [← egn, ← e6]
  refine z_pop C rfl dX5_copy_121 (rfl : 121 + 1 = 122) ?_
  refine z_aload_n C 3 rfl rfl dX5_copy_122 (rfl : 122 + 1 = 123) ?_
  refine z_aload C 0 rfl dX5_copy_123 (rfl : 123 + 2 = 125) ?_
  refine z_callV C 6 249 (c_X5_enterFamily (k := n) (hR2.cps hw2) (hR2.cpv hw2) (hR2.cpk hw2) (by omega) rg hF) gX5_copy_X5_enterFamily rfl hd80_X5_enterFamily ⟨Nat.le_of_ble_eq_true rfl, Nat.le_of_ble_eq_true rfl⟩ (pwm_MC hR2.x8.1 hR2.x8.2.1) rfl rfl (Nat.le_of_ble_eq_true rfl) dX5_copy_125 (rfl : 125 + 3 = 128) rfl rfl ⟨Nat.le_of_ble_eq_true rfl, Nat.le_of_ble_eq_true rfl⟩ (fun _ _ h => h.elim) ?_ rfl
  rintro _ _ ⟨rfl, fm, q1, q2, rfl⟩
  refine z_v0 ?_
  refine z_aload C 0 rfl dX5_copy_128 (rfl : 128 + 2 = 130) ?_
  refine z_get C (pwm_Copy (hR2.g0 (i := n) (by omega)).1 (hR2.g0 (i := n) (by omega)).2) rfl iX5_copy_X0 0 (by decide) lX5_copy_f118 rfl rfl dX5_copy_130 (rfl : 130 + 3 = 133) ?_
  rw [show va_up I1 2 fm 0 (g1 0 n) = (n : Int) from (hR2.2.1.2.2.2.1 n (by omega)).2.2.1]
  refine z_iret C rfl dX5_copy_133 (kk _ ⟨L1, K1, _, F1, _, N1, O1, T1, g1, rfl, e6, fun V' hV' => ?_⟩) (by omega) (by omega)
  obtain ⟨a0, a6, a8, hc2, rfl⟩ := hV'
  refine ⟨(hRV a0 a6 a8 hc2).famI fm, ?_⟩
  have q3 : IsFam (nsCopy V n cc hh b a0 a6 a8) (n + 1) (fun i => fm (g1 0 i)) := q2.congV (fun i j hi hj => kinV_cong (V := nsCopy V n cc hh b f0 f6 f8) (V' := nsCopy V n cc hh b a0 a6 a8) (fun _ _ => ⟨rfl, rfl⟩) (fun i hi k hk => by
    show a0 (24 * i + k) = f0 (24 * i + k)
    by_cases e : i = n
    · subst e; rw [hc2.1 k hk, hcp.1 k hk]
    · rw [hc2.2.1 _ (fun k' hk' => by omega), hcp.2.1 _ (fun k' hk' => by omega)]) hi hj)
  exact q3.cong (fun i hi => by rw [va_up_self])
theorem tl_X5_copyA (C : Cx κ cX5_copy 8 wsX5_copy RX5 (some .int) rmX5_copy G base) {hh cc sc : Nat} {b : Int} (hh5 : hh < 5) (hc : cc < n) (hsc : sc < 6) (hn40 : n < 40) (hb : b = 0 ∨ b = 1) (h : RX (gde G) L K I F R N O T g V n m t) (hw : WFV V n m t)
    (kk : ∀ w, MUT G X (g 6 0) (fun V' => ∃ f0 f6 f8, cpR V n cc sc 24 f0 f6 f8 ∧ V' = nsCopy V n cc hh b f0 f6 f8) (n + 1) m t w → post (some (.int (iI (n : Int)))) w) (h1 : 6 ≤ mc) (h2 : 260 ≤ ms) : Z κ 8 G base mc ms post exc 3 18 60 [(6, .ref (g 2 hh)), (5, .ref (g 0 cc)), (0, .ref (g 6 0)), (2, .int (iI (sc : Int))), (4, .int (iI b))] [] (pw G X L K I F R N O) := by
  have hn := hw.2.1
  have hDd := h.isDr hw
  refine z_new (ci := 1) (fs := [.int 0, .null, .null, .null, .null, .int 0, .int 0]) C tyX0 tyX0_ok iX5_copy_X0 lX5_copy_c49 nnX5_copy_X0 niX5_copy_X0 rfl (by decide) (Nat.le_of_ble_eq_true rfl) (Nat.le_of_ble_eq_true rfl) dX5_copy_60 (rfl : 60 + 3 = 63) (fun q hq => ?_)
  refine z_ws (pwn_Copy hq) ?_
  have hqL : q ∉ L := pw_fresh hq
  have n3 : ∀ {b c c' : Nat}, b ≠ q → ¬ (c = c' ∧ b = q) := fun n e => n e.2
  have cI : ∀ c b, b ≠ q → up2 (up2 (up2 I 0 q 0) 1 q 0) 2 q 0 c b = I c b := fun c b hb => by
    rw [up2_ne _ _ (n3 hb), up2_ne _ _ (n3 hb), up2_ne _ _ (n3 hb)]
  have cF : ∀ c b, b ≠ q → up2 (up2 (up2 (up2 F 0 q none) 1 q none) 2 q none) 3 q none c b = F c b := fun c b hb => by
    rw [up2_ne _ _ (n3 hb), up2_ne _ _ (n3 hb), up2_ne _ _ (n3 hb), up2_ne _ _ (n3 hb)]
  have hA := h.1.mono (HM_one (k1 := 0) (R := R) (N := N) (O := O) (T := T) (y1 := 0) hqL cI cF)
  refine z_dup C rfl dX5_copy_63 (rfl : 63 + 1 = 64) ?_
  refine z_aload_n C 2 rfl rfl dX5_copy_64 (rfl : 64 + 1 = 65) ?_
  refine z_get C (pwm_MC hA.x9.1 hA.x9.2.1) rfl iX5_copy_X5 1 (by decide) lX5_copy_f16 rfl rfl dX5_copy_65 (rfl : 65 + 3 = 68) ?_
  rw [hA.x9.2.2]
  refine z_callV C 4 25 (c_list_size hA.l1) gX5_copy_Jx4a65c_size_8abf5 rfl hd80_Jx4a65c_size_8abf5 ⟨Nat.le_of_ble_eq_true rfl, Nat.le_of_ble_eq_true rfl⟩ (pwm_AL hA.l1.1 hA.l1.2.1) rfl rfl (Nat.le_of_ble_eq_true rfl) dX5_copy_68 (rfl : 68 + 3 = 71) rfl rfl ⟨Nat.le_of_ble_eq_true rfl, Nat.le_of_ble_eq_true rfl⟩ (fun _ _ h => h.elim) ?_ rfl
  rintro _ _ ⟨rfl, rfl⟩
  refine z_v1 ?_
  refine z_aload C 1 rfl dX5_copy_71 (rfl : 71 + 2 = 73) ?_
  refine z_aload C 0 rfl dX5_copy_73 (rfl : 73 + 2 = 75) ?_
  have nq : ∀ {b}, b ∈ L → b ≠ q := fun hb e => hqL (e ▸ hb)
  refine z_callI C 5 49 (c_X0_init (i := n) (by simp) (va_up_self _ _ _) (hA.isC hc) (nq (h.1.g0 hc).1)) gX5_copy_X0_init rfl nX5_copy_X0_init lX5_copy_m51 vX5_copy_X0_init rfl hd80_X0_init ⟨Nat.le_of_ble_eq_true rfl, Nat.le_of_ble_eq_true rfl⟩ rfl (Nat.le_of_ble_eq_true rfl) dX5_copy_75 (rfl : 75 + 3 = 78) rfl rfl ⟨Nat.le_of_ble_eq_true rfl, Nat.le_of_ble_eq_true rfl⟩ (fun _ _ h => h.elim) ?_ rfl
  rintro _ _ ⟨rfl, r, f, hrL, hf, rfl⟩
  refine z_v0 ?_
  have rq : r ≠ q := fun c => hrL (by rw [c]; simp)
  have rL : r ∉ L := fun c => hrL (List.mem_append_left _ c)
  have nr : ∀ {b}, b ∈ L → b ≠ r := fun hb e => rL (e ▸ hb)
  have kq : va_up (va_up K q 0) r 7 q = 0 := by rw [va_up_ne _ _ (Ne.symm rq), va_up_self]
  have mq : q ∈ (L ++ [q]) ++ [r] := by simp
  refine z_astore (lv' := [(7, _), (6, _), (5, _), (0, _), (2, _), (4, _)]) C dX5_copy_78 (rfl : 78 + 2 = 80) (by decide) rfl ?_
  refine z_aload C 0 rfl dX5_copy_80 (rfl : 80 + 2 = 82) ?_
  refine z_iload C 5 rfl dX5_copy_82 (rfl : 82 + 2 = 84) ?_
  refine z_put C tyX0 tyX0_ok nmX0 (pwm_Copy mq kq) rfl iX5_copy_X0 5 (by decide) lX5_copy_f103 rfl rfl rfl (iI_bool hb) (iI_fitb hb) (Nat.le_of_ble_eq_true rfl) dX5_copy_84 (rfl : 84 + 3 = 87) (pws_Copy_isTold mq kq) ?_
  have c2I : ∀ c x, x ≠ q → up2 (up2 (up2 (up2 (up2 (up2 (up2 I 0 q 0) 1 q 0) 2 q 0) 1 q 0) 0 q (n : Int)) 2 q (n : Int)) 1 q b c x = I c x := fun c x hx => by
    rw [up2_ne _ _ (n3 hx), up2_ne _ _ (n3 hx), up2_ne _ _ (n3 hx), up2_ne _ _ (n3 hx)]; exact cI c x hx
  have c2F : ∀ c x, x ≠ q → up2 (up2 (up2 (up2 (up2 (up2 (up2 (up2 F 0 q none) 1 q none) 2 q none) 3 q none) 2 q (some r)) 0 q (some (g 0 cc))) 1 q (some (g 2 hh))) 3 q (some (g 2 hh)) c x = F c x := fun c x hx => by
    rw [up2_ne _ _ (n3 hx), up2_ne _ _ (n3 hx), up2_ne _ _ (n3 hx), up2_ne _ _ (n3 hx)]; exact cF c x hx
  have hB := h.1.mono (HM_two (k1 := 0) (k2 := 7) (O := O) (T := T) (y1 := 0 + n) (y2 := 1000 + n) (R := R) (R' := va_up R r f) (N := N) (N' := va_up N r 24) hqL hrL c2I c2F (fun x hx => va_up_ne _ _ hx) (fun x hx => va_up_ne _ _ hx))
  have rm : ∀ k, k < 24 → f k = V 0 (24 * cc + k) := fun k hk => by rw [hf k hk]; exact h.1.rd hc hk
  have eD : va_up R r f (g 6 3) = R (g 6 3) := va_up_ne _ _ (nr (h.1.g6 (i := 3) (by decide)).1)
  have eS : va_up R r f (g 6 1) = R (g 6 1) := va_up_ne _ _ (nr (h.1.g6 (i := 1) (by decide)).1)
  have eQ : va_up R r f r = f := va_up_self _ _ _
  have d6 : ∀ k, k < 24 → R (g 6 3) k = V 6 k := fun k hk => h.1.2.2.2.2.2.2.1 k hk
  have cQ : isC ((L ++ [q]) ++ [r]) (va_up (va_up K q 0) r 7) (up2 (up2 (up2 (up2 (up2 (up2 (up2 (up2 F 0 q none) 1 q none) 2 q none) 3 q none) 2 q (some r)) 0 q (some (g 0 cc))) 1 q (some (g 2 hh))) 3 q (some (g 2 hh))) (va_up N r 24) q r := ⟨mq, kq, by rw [up2_ne _ _ (by omega), up2_ne _ _ (by omega), up2_ne _ _ (by omega), up2_at], by simp, va_up_self _ _ _, va_up_self _ _ _⟩
  refine z_aload_n C 3 rfl rfl dX5_copy_87 (rfl : 87 + 1 = 88) ?_
  refine z_get C (pwm_MC hB.x12.1 hB.x12.2.1) rfl iX5_copy_X5 4 (by decide) lX5_copy_f25 rfl rfl dX5_copy_88 (rfl : 88 + 3 = 91) ?_
  rw [hB.x12.2.2]
  refine z_iload_n C 4 rfl rfl dX5_copy_91 (rfl : 91 + 1 = 92) ?_
  refine z_dup2 C rfl rfl dX5_copy_92 (rfl : 92 + 1 = 93) ?_
  have mS := pwm_I (G := G) (X := X) (I := up2 (up2 (up2 (up2 (up2 (up2 (up2 I 0 q 0) 1 q 0) 2 q 0) 1 q 0) 0 q (n : Int)) 2 q (n : Int)) 1 q b) (F := up2 (up2 (up2 (up2 (up2 (up2 (up2 (up2 F 0 q none) 1 q none) 2 q none) 3 q none) 2 q (some r)) 0 q (some (g 0 cc))) 1 q (some (g 2 hh))) 3 q (some (g 2 hh))) (R := va_up R r f) (N := va_up N r 24) (O := O) (hB.g6 (i := 1) (by decide)).1 (hB.g6 (i := 1) (by decide)).2
  refine z_iald C (x := iI (V 8 sc)) mS ⟨by omega, by rw [hB.2.1.2.1.1]; omega⟩ (by omega) (by rw [eS]; exact congrArg iI (h.1.2.2.2.2.1 sc hsc)) dX5_copy_93 (rfl : 93 + 1 = 94) ?_
  refine z_aload_n C 3 rfl rfl dX5_copy_94 (rfl : 94 + 1 = 95) ?_
  refine z_get C (pwm_MC hB.x13.1 hB.x13.2.1) rfl iX5_copy_X5 5 (by decide) lX5_copy_f32 rfl rfl dX5_copy_95 (rfl : 95 + 3 = 98) ?_
  rw [hB.x13.2.2]
  refine z_aload C 0 rfl dX5_copy_98 (rfl : 98 + 2 = 100) ?_
  refine z_callV C 5 49 (c_X1_writeInto (R := va_up R r f) hB.isD cQ (by rw [eD]; exact hDd) (by rw [eQ]; exact fun k hk => by rw [rm k hk]; exact hw.2.2.1 _ (by omega)) (nr (h.1.g6 (i := 3) (by decide)).1)) gX5_copy_X1_writeInto rfl hd80_X1_writeInto ⟨Nat.le_of_ble_eq_true rfl, Nat.le_of_ble_eq_true rfl⟩ (pwm_Draft hB.isD.1 hB.isD.2.1) rfl rfl (Nat.le_of_ble_eq_true rfl) dX5_copy_100 (rfl : 100 + 3 = 103) rfl rfl ⟨Nat.le_of_ble_eq_true rfl, Nat.le_of_ble_eq_true rfl⟩ (fun _ _ h => h.elim) ?_ rfl
  rintro _ _ ⟨rfl, fw, hfw, rfl⟩
  refine z_v1 ?_
  rw [eQ, eD] at hfw ⊢
  rw [up_up]
  have ew : wrn f (R (g 6 3)) 24 = wrn (rdV V cc) (V 6) 24 := wrn_cong 24 (fun k hk => ⟨rm k hk, d6 k hk⟩)
  rw [ew]
  refine z_iadd C dX5_copy_103 (rfl : 103 + 1 = 104) rfl ?_
  have hC := h.1.mono (HM_two (k1 := 0) (k2 := 7) (O := O) (T := T) (y1 := 0 + n) (y2 := 1000 + n) (R := R) (R' := va_up R r fw) (N := N) (N' := va_up N r 24) hqL hrL c2I c2F (fun x hx => va_up_ne _ _ hx) (fun x hx => va_up_ne _ _ hx))
  refine z_iast C (pwm_I (hC.g6 (i := 1) (by decide)).1 (hC.g6 (i := 1) (by decide)).2) ⟨by omega, by rw [hC.2.1.2.1.1]; omega⟩ (by omega) dX5_copy_104 (rfl : 104 + 1 = 105) (pwt_I (i := sc) (hC.g6 (i := 1) (by decide)).1 (hC.g6 (i := 1) (by decide)).2) ?_
  have hC2 := hC.rowSl (f := va_up (va_up R r fw (g 6 1)) sc (V 8 sc + wrn (rdV V cc) (V 6) 24)) (f' := va_up (V 8) sc (V 8 sc + wrn (rdV V cc) (V 6) 24)) (by omega) (fun k hk => by
    by_cases e : k = sc
    · subst e; rw [va_up_self, va_up_self]
    · rw [va_up_ne _ _ e, va_up_ne _ _ e]; exact hC.2.2.2.2.1 k hk)
  refine z_aload_n C 3 rfl rfl dX5_copy_105 (rfl : 105 + 1 = 106) ?_
  refine z_get C (pwm_MC hC2.x13.1 hC2.x13.2.1) rfl iX5_copy_X5 5 (by decide) lX5_copy_f32 rfl rfl dX5_copy_106 (rfl : 106 + 3 = 109) ?_
  rw [hC2.x13.2.2]
  refine z_callV C 5 49 (c_X1_clear hC2.isD) gX5_copy_X1_clear rfl hd80_X1_clear ⟨Nat.le_of_ble_eq_true rfl, Nat.le_of_ble_eq_true rfl⟩ (pwm_Draft hC2.isD.1 hC2.isD.2.1) rfl rfl (Nat.le_of_ble_eq_true rfl) dX5_copy_109 (rfl : 109 + 3 = 112) rfl rfl ⟨Nat.le_of_ble_eq_true rfl, Nat.le_of_ble_eq_true rfl⟩ (fun _ _ h => h.elim) ?_ rfl
  rintro _ _ ⟨rfl, fc, hfc, rfl⟩
  refine z_v0 ?_
  have hC3 := (hC2.filled 0).rowD (f := fc) (f' := fun _ => -1) (by omega) (fun k hk => hfc k hk)
  refine tl_X5_copyB (sc := sc) C hh5 hc hn40 hb h hw hqL hC3 hrL (by rw [va_up_ne _ _ (Ne.symm rq), va_up_self]) (va_up_self _ _ _) ?_ cQ.2.2.1 ?_ ?_ ?_ ?_ (fun x hx => c2I 2 x (nq hx)) (fun k hk => ?_) (fun f0 f6 f8 hcp => ?_) ?_ kk h1 h2
  · show up2 (up2 (up2 (up2 (up2 (up2 (up2 I 0 q 0) 1 q 0) 2 q 0) 1 q 0) 0 q (n : Int)) 2 q (n : Int)) 1 q b 0 q = n
    rw [up2_ne _ _ (by omega), up2_ne _ _ (by omega), up2_at]
  · rw [up2_ne _ _ (by omega), up2_ne _ _ (by omega), up2_at]
  · rw [up2_ne _ _ (by omega), up2_at]
  · rw [up2_at]
  · show up2 (up2 (up2 (up2 (up2 (up2 (up2 I 0 q 0) 1 q 0) 2 q 0) 1 q 0) 0 q (n : Int)) 2 q (n : Int)) 1 q b 1 q = b
    rw [up2_at]
  · rw [va_up_ne _ _ (Ne.symm (nr (h.1.g6 (i := 3) (by decide)).1)), up2_row, va_up_ne _ _ (Ne.symm (nr (h.1.g6 (i := 1) (by decide)).1)), va_up_self, hfw k hk, d6 k hk, rm k hk]
  · refine ⟨rfl, fun k hk => ?_, rfl, fun k hk => ?_, fun _ _ => ⟨rfl, rfl⟩, fun _ _ _ _ => rfl, fun i hi => ⟨?_, ?_, ?_, ?_⟩, fun i hi k hk => ?_, fun _ _ => ⟨rfl, rfl, rfl⟩, fun _ _ => ⟨rfl, rfl, rfl, rfl, rfl, rfl⟩⟩
    · show f8 k = va_up (V 8) sc (V 8 sc + wrn (rdV V cc) (V 6) 24) k
      by_cases e : k = sc
      · subst e; rw [va_up_self]; exact hcp.2.2.2.2.1
      · rw [va_up_ne _ _ e]; exact hcp.2.2.2.2.2 k e
    · show f6 k = -1
      exact hcp.2.2.1 k hk
    · show va_up (V 1) n (cc : Int) i = V 1 i
      exact va_up_ne _ _ (by omega)
    · show va_up (V 2) n b i = V 2 i
      exact va_up_ne _ _ (by omega)
    · show va_up (V 3) n (hh : Int) i = V 3 i
      exact va_up_ne _ _ (by omega)
    · show va_up (V 4) n (hh : Int) i = V 4 i
      exact va_up_ne _ _ (by omega)
    · exact hcp.2.1 _ (fun k' hk' => by omega)
  · show 0 ≤ up2 (up2 (up2 (up2 (up2 (up2 (up2 I 0 q 0) 1 q 0) 2 q 0) 1 q 0) 0 q (n : Int)) 2 q (n : Int)) 1 q b 2 q ∧ up2 (up2 (up2 (up2 (up2 (up2 (up2 I 0 q 0) 1 q 0) 2 q 0) 1 q 0) 0 q (n : Int)) 2 q (n : Int)) 1 q b 2 q < 100
    rw [up2_ne _ _ (by omega), up2_at]
    omega
theorem c_X5_copy {cz sz hz b : Int} (rc : -2147483648 ≤ cz ∧ cz < 2147483648) (rs : -2147483648 ≤ sz ∧ sz < 2147483648) (rh : -2147483648 ≤ hz ∧ hz < 2147483648) (hb : b = 0 ∨ b = 1) (h : RX (gde G) L K I F R N O T g V n m t) (hw : WFV V n m t) : MC l yX5_copy wsX5_copy rmX5_copy G base [.ref (g 6 0), .int (iI cz), .int (iI sz), .int (iI hz), .int (iI b)] (pw G X L K I F R N O) (mxP (((0 ≤ cz ∧ cz < n) ∧ (0 ≤ sz ∧ sz < 6) ∧ 0 ≤ hz ∧ hz < 5) ∧ V 4 cz.toNat = hz ∧ n < 40) (n : Int) (MUT G X (g 6 0) (fun V' => ∃ f0 f6 f8, cpR V n cz.toNat sz.toNat 24 f0 f6 f8 ∧ V' = nsCopy V n cz.toNat hz.toNat b f0 f6 f8) (n + 1) m t)) (mxE (pw G X L K I F R N O) sIOB sISE ((0 ≤ cz ∧ cz < n) ∧ (0 ≤ sz ∧ sz < 6) ∧ 0 ≤ hz ∧ hz < 5) (V 4 cz.toNat = hz ∧ n < 40)) := by
  refine MC.of (cc := cX5_copy) (by decide) rfl rfl (Nat.le_of_ble_eq_true rfl) ?_
  intro κ C hT hl hnm
  have hn := hw.2.1
  refine z_sub [0, 1, 2, 3, 4] (lv' := [(0, .ref (g 6 0)), (1, .int (iI cz)), (2, .int (iI sz)), (3, .int (iI hz)), (4, .int (iI b))]) rfl ?_
  refine z_aload_n C 0 rfl rfl dX5_copy_0 (rfl : 0 + 1 = 1) ?_
  refine z_iload_n C 1 rfl rfl dX5_copy_1 (rfl : 1 + 1 = 2) ?_
  refine z_callV C 1 6 (c_X5_findCopy (rA := g 1) rc h.1.x9 h.1.l1 (by omega) (fun i hi => h.1.isC hi)) gX5_copy_X5_findCopy rfl hd80_X5_findCopy ⟨Nat.le_of_ble_eq_true rfl, Nat.le_of_ble_eq_true rfl⟩ (pwm_MC h.1.x8.1 h.1.x8.2.1) rfl rfl (Nat.le_of_ble_eq_true rfl) dX5_copy_2 (rfl : 2 + 3 = 5) rfl rfl ⟨Nat.le_of_ble_eq_true rfl, Nat.le_of_ble_eq_true rfl⟩ (fun E w h => z_out C hT ⟨h.2.1, .inl ⟨h.1, fun q => h.2.2 q.1⟩⟩ (by decide) (by decide)) ?_ rfl
  rintro _ _ ⟨rfl, cc, rfl, hc, rfl⟩
  refine z_v1 ?_
  refine z_astore (lv' := [(5, _), (0, _), (1, _), (2, _), (3, _), (4, _)]) C dX5_copy_5 (rfl : 5 + 2 = 7) (by decide) rfl ?_
  refine z_iload_n C 3 rfl rfl dX5_copy_7 (rfl : 7 + 1 = 8) ?_
  refine z_callS C 2 12 (c_X5_requireScribe rs) gX5_copy_X5_requireScribe rfl hd80_X5_requireScribe ⟨Nat.le_of_ble_eq_true rfl, Nat.le_of_ble_eq_true rfl⟩ rfl (Nat.le_of_ble_eq_true rfl) dX5_copy_8 (rfl : 8 + 3 = 11) rfl rfl ⟨Nat.le_of_ble_eq_true rfl, Nat.le_of_ble_eq_true rfl⟩ (fun E w h => z_out C hT ⟨h.2.1, .inl ⟨h.1, fun q => h.2.2 q.2.1⟩⟩ (by decide) (by decide)) ?_ rfl
  rintro _ _ ⟨rfl, rfl, hs2⟩
  refine z_v0 ?_
  obtain ⟨sc, rfl⟩ : ∃ q : Nat, sz = (q : Int) := ⟨sz.toNat, by omega⟩
  refine z_aload_n C 1 rfl rfl dX5_copy_11 (rfl : 11 + 1 = 12) ?_
  refine z_iload_n C 4 rfl rfl dX5_copy_12 (rfl : 12 + 1 = 13) ?_
  refine z_callV C 3 18 (c_X5_findHouse (heA := g 3) rh h.1.x8 h.1.l0 (fun i hi => h.1.isH hi)) gX5_copy_X5_findHouse rfl hd80_X5_findHouse ⟨Nat.le_of_ble_eq_true rfl, Nat.le_of_ble_eq_true rfl⟩ (pwm_MC h.1.x8.1 h.1.x8.2.1) rfl rfl (Nat.le_of_ble_eq_true rfl) dX5_copy_13 (rfl : 13 + 3 = 16) rfl rfl ⟨Nat.le_of_ble_eq_true rfl, Nat.le_of_ble_eq_true rfl⟩ (fun E w h => z_out C hT ⟨h.2.1, .inl ⟨h.1, fun q => h.2.2 q.2.2⟩⟩ (by decide) (by decide)) ?_ rfl
  rintro _ _ ⟨rfl, hh, rfl, hh5, rfl⟩
  refine z_v1 ?_
  have all : (0 ≤ (cc : Int) ∧ (cc : Int) < n) ∧ (0 ≤ (sc : Int) ∧ (sc : Int) < 6) ∧ 0 ≤ (hh : Int) ∧ (hh : Int) < 5 := by omega
  have hk1 := (hw.2.2.2.2.2.1 cc hc).2
  have q1 := some_acmp (x := V 4 cc) (y := (hh : Int)) h.1 (by decide) (by omega) (by omega)
  refine z_astore (lv' := [(6, _), (5, _), (0, _), (1, _), (2, _), (3, _), (4, _)]) C dX5_copy_16 (rfl : 16 + 2 = 18) (by decide) rfl ?_
  refine z_aload C 1 rfl dX5_copy_18 (rfl : 18 + 2 = 20) ?_
  refine z_get C (pwm_Copy (h.1.g0 hc).1 (h.1.g0 hc).2) rfl iX5_copy_X0 4 (by decide) lX5_copy_f91 rfl rfl dX5_copy_20 (rfl : 20 + 3 = 23) ?_
  rw [h.1.house hc]
  refine z_aload C 0 rfl dX5_copy_23 (rfl : 23 + 2 = 25) ?_
  refine z_acmp_eq (pt := 38) C (some (g 2 (V 4 cc).toNat)) (some (g 2 hh)) dX5_copy_25 (by decide) (rfl : 25 + 3 = 28) (fun c1 => ?_) (fun c1 => ?_)
  rotate_left
  · exact z_throw C hT rfl lX5_copy_c68 nX5_copy_ISE (List.mem_of_getElem? (i := 6) rfl) tX5_copy_ISE thN_ISE thG_ISE dX5_copy_28 dX5_copy_31 dX5_copy_32 dX5_copy_34 dX5_copy_37 (by decide) (Nat.le_of_ble_eq_true rfl) (by decide) (by decide) (by decide) (by decide) ⟨rfl, .inr ⟨rfl, all, fun o => c1 (q1.mpr o.1)⟩⟩
  refine z_aload_n C 2 rfl rfl dX5_copy_38 (rfl : 38 + 1 = 39) ?_
  refine z_get C (pwm_MC h.1.x9.1 h.1.x9.2.1) rfl iX5_copy_X5 1 (by decide) lX5_copy_f16 rfl rfl dX5_copy_39 (rfl : 39 + 3 = 42) ?_
  rw [h.1.x9.2.2]
  refine z_callV C 3 18 (c_list_size h.1.l1) gX5_copy_Jx4a65c_size_8abf5 rfl hd80_Jx4a65c_size_8abf5 ⟨Nat.le_of_ble_eq_true rfl, Nat.le_of_ble_eq_true rfl⟩ (pwm_AL h.1.l1.1 h.1.l1.2.1) rfl rfl (Nat.le_of_ble_eq_true rfl) dX5_copy_42 (rfl : 42 + 3 = 45) rfl rfl ⟨Nat.le_of_ble_eq_true rfl, Nat.le_of_ble_eq_true rfl⟩ (fun _ _ h => h.elim) ?_ rfl
  rintro _ _ ⟨rfl, rfl⟩
  refine z_v1 ?_
  refine z_bipush (c := 40) C (by decide) dX5_copy_45 (rfl : 45 + 2 = 47) ?_
  refine z_icmp_lt (pt := 60) C dX5_copy_47 (by decide) (rfl : 47 + 3 = 50) (iI_lt (by omega) (by omega)).1 (fun q => mt (iI_lt (by omega) (by omega)).2 q) (fun c2 => ?_) (fun c2 => ?_)
  rotate_left
  · exact z_throw C hT rfl lX5_copy_c68 nX5_copy_ISE (List.mem_of_getElem? (i := 7) rfl) tX5_copy_ISE thN_ISE thG_ISE dX5_copy_50 dX5_copy_53 dX5_copy_54 dX5_copy_56 dX5_copy_59 (by decide) (Nat.le_of_ble_eq_true rfl) (by decide) (by decide) (by decide) (by decide) ⟨rfl, .inr ⟨rfl, all, fun o => by have := o.2; omega⟩⟩
  have hn40 : n < 40 := by omega
  refine z_sub [0, 1, 2, 4, 6] (lv' := [(6, .ref (g 2 hh)), (5, .ref (g 0 cc)), (0, .ref (g 6 0)), (2, .int (iI (sc : Int))), (4, .int (iI b))]) rfl ?_
  exact tl_X5_copyA C hh5 hc (by omega) hn40 hb h hw (fun w hm => ⟨⟨all, q1.mp c1, hn40⟩, rfl, hm⟩) (by decide) (by decide)
end
