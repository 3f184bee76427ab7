theorem lX5_correct_f19 : Cond.fieldLink RX5 19 "ModelCopies" "letters" "Ljava/util/ArrayList;" ∈ wsX5_correct := by decide +kernel
theorem iX5_correct_X5 : ∀ w ∈ wsX50, w ∈ wsX5_correct := by decide +kernel
theorem iX5_correct_X3 : ∀ w ∈ wsX30, w ∈ wsX5_correct := by decide +kernel
theorem lX5_correct_c146 : Cond.classLink RX5 146 "ModelCopies$Letter" ∈ wsX5_correct := by decide +kernel
theorem nnX5_correct_X3 : Cond.instantiable "ModelCopies$Letter" 3 ∈ wsX5_correct := by decide +kernel
theorem niX5_correct_X3 : Cond.initialized "ModelCopies$Letter" ∈ wsX5_correct := by decide +kernel
theorem hd76_X3_init : yX3_init.cls ≠ "java/lang/invoke/MethodHandle" ∧ yX3_init.cls ≠ "java/lang/invoke/VarHandle" ∧ (parseMethodDescriptor yX3_init.desc).map (fun d => d.parameters.length) = some 3 := by decide +kernel
theorem lX5_correct_m148 : Cond.methodLink RX5 148 yX3_init ∈ wsX5_correct := by decide +kernel
theorem nX5_correct_X3_init : Cond.initialized yX3_init.cls ∈ wsX5_correct := by decide +kernel
theorem vX5_correct_X3_init : Cond.instanceMethod yX3_init ∈ wsX5_correct := by decide +kernel
theorem hd76_Jx4a65c_add_9ea2d : yJx4a65c_add_9ea2d.cls = RJx4a65c ∧ yJx4a65c_add_9ea2d.cls ≠ "java/lang/invoke/MethodHandle" ∧ yJx4a65c_add_9ea2d.cls ≠ "java/lang/invoke/VarHandle" ∧ (parseMethodDescriptor yJx4a65c_add_9ea2d.desc).map (fun d => d.parameters.length) = some 1 := by decide +kernel
theorem hd76_X2_take : yX2_take.cls = RX2 ∧ yX2_take.cls ≠ "java/lang/invoke/MethodHandle" ∧ yX2_take.cls ≠ "java/lang/invoke/VarHandle" ∧ (parseMethodDescriptor yX2_take.desc).map (fun d => d.parameters.length) = some 1 := by decide +kernel
theorem lX5_correct_f139 : Cond.fieldLink RX5 139 "ModelCopies$Copy" "readings" "[I" ∈ wsX5_correct := by decide +kernel
theorem iX5_correct_X0 : ∀ w ∈ wsX00, w ∈ wsX5_correct := by decide +kernel
theorem hd76_X5_findFamiliesAnew : yX5_findFamiliesAnew.cls = RX5 ∧ yX5_findFamiliesAnew.cls ≠ "java/lang/invoke/MethodHandle" ∧ yX5_findFamiliesAnew.cls ≠ "java/lang/invoke/VarHandle" ∧ (parseMethodDescriptor yX5_findFamiliesAnew.desc).map (fun d => d.parameters.length) = some 0 := by decide +kernel
theorem hd76_X5_findHouse : yX5_findHouse.cls = RX5 ∧ yX5_findHouse.cls ≠ "java/lang/invoke/MethodHandle" ∧ yX5_findHouse.cls ≠ "java/lang/invoke/VarHandle" ∧ (parseMethodDescriptor yX5_findHouse.desc).map (fun d => d.parameters.length) = some 1 := by decide +kernel
theorem hd76_X5_findCopy : yX5_findCopy.cls = RX5 ∧ yX5_findCopy.cls ≠ "java/lang/invoke/MethodHandle" ∧ yX5_findCopy.cls ≠ "java/lang/invoke/VarHandle" ∧ (parseMethodDescriptor yX5_findCopy.desc).map (fun d => d.parameters.length) = some 1 := by decide +kernel
theorem hd76_X5_requirePlace : yX5_requirePlace.cls ≠ "java/lang/invoke/MethodHandle" ∧ yX5_requirePlace.cls ≠ "java/lang/invoke/VarHandle" ∧ (parseMethodDescriptor yX5_requirePlace.desc).map (fun d => d.parameters.length) = some 1 := by decide +kernel
theorem lX5_correct_f91 : Cond.fieldLink RX5 91 "ModelCopies$Copy" "house" "LModelCopies$House;" ∈ wsX5_correct := by decide +kernel
theorem tX5_correct_ISE : ∀ w ∈ (vx_atS RX5 72 "java/lang/IllegalStateException" ["java/lang/RuntimeException", "java/lang/Exception"]).filter goodWord, w ∈ wsX5_correct := by decide +kernel
theorem lX5_correct_c68 : Cond.classLink RX5 68 "java/lang/IllegalStateException" ∈ wsX5_correct := by decide +kernel
theorem nX5_correct_ISE : Cond.initialized "java/lang/IllegalStateException" ∈ wsX5_correct := by decide +kernel
theorem hd76_Jx4a65c_size_8abf5 : yJx4a65c_size_8abf5.cls = RJx4a65c ∧ yJx4a65c_size_8abf5.cls ≠ "java/lang/invoke/MethodHandle" ∧ yJx4a65c_size_8abf5.cls ≠ "java/lang/invoke/VarHandle" ∧ (parseMethodDescriptor yJx4a65c_size_8abf5.desc).map (fun d => d.parameters.length) = some 0 := by decide +kernel
theorem HM_letter {L : List Nat} {K : Nat → Nat} {I : Nat → Nat → Int} {F : Nat → Nat → Option Nat} {R : Nat → Nat → Int} {N : Nat → Nat} {O : Nat → Nat → Option Nat} {T : Nat → Nat} {q y : Nat} {p x z : Int} (hq : q ∉ L) : MON L (L ++ [q]) K (va_up K q 3) I (up2 (up2 (up2 (up2 (up2 (up2 I 7 q 0) 8 q 0) 9 q 0) 7 q p) 8 q x) 9 q z) F F R R N N O O T (va_up T q y) := fun b hb => by
  have n1 : b ≠ q := fun e => hq (e ▸ hb)
  have n3 : ∀ c c' : Nat, ¬ (c = c' ∧ b = q) := fun _ _ e => n1 e.2
  refine ⟨⟨by simp [hb], va_up_ne _ _ n1, va_up_ne _ _ n1⟩, fun c => ?_, fun _ => rfl, rfl, rfl, rfl⟩
  rw [up2_ne _ _ (n3 _ _), up2_ne _ _ (n3 _ _), up2_ne _ _ (n3 _ _), up2_ne _ _ (n3 _ _), up2_ne _ _ (n3 _ _), up2_ne _ _ (n3 _ _)]
theorem RP.newL {G : GG} {X : va_W} {L : List Nat} {K : Nat → Nat} {I : Nat → Nat → Int} {F : Nat → Nat → Option Nat} {R : Nat → Nat → Int} {N : Nat → Nat} {O : Nat → Nat → Option Nat} {T : Nat → Nat} {g : Nat → Nat → Nat} {V : Nat → Nat → Int} {n m t q : Nat} {p x y : Int} {w : va_W} (h : RP (gde G) L K I F R N O T g V 5 n m t) (hq : q ∉ L)
    (ha : ADD G X (L ++ [q]) (va_up K q 3) (up2 (up2 (up2 (up2 (up2 (up2 I 7 q 0) 8 q 0) 9 q 0) 7 q p) 8 q x) 9 q y) F R N O (g 6 6) (g 7 2) m (g 4) q 3 w) :
    ∃ (L' : List Nat) (K' : Nat → Nat) (I' : Nat → Nat → Int) (F' : Nat → Nat → Option Nat) (N' : Nat → Nat) (O' : Nat → Nat → Option Nat) (T' : Nat → Nat) (g' : Nat → Nat → Nat), w = pw G X L' K' I' F' R N' O' ∧ RP (gde G) L' K' I' F' R N' O' T' g' (up2 (up2 (up2 V 10 m p) 11 m x) 12 m y) 5 n (m + 1) t ∧ (∀ a i, a ≠ 4 → a ≠ 7 → g' a i = g a i) ∧ I' 2 = I 2 := by
  obtain ⟨L', K', F', N', O', e', z, rfl, a1, a2, a3, a4, a5, a6⟩ := ha
  have hm : RP (gde G) (L ++ [q]) (va_up K q 3) (up2 (up2 (up2 (up2 (up2 (up2 I 7 q 0) 8 q 0) 9 q 0) 7 q p) 8 q x) 9 q y) F R N O (va_up T q (1000 * 4 + m)) g (up2 (up2 (up2 V 10 m p) 11 m x) 12 m y) 5 n m t := by
    refine (h.mono (HM_letter hq)).congV ⟨rfl, fun _ _ => rfl, rfl, fun _ _ => rfl, fun _ _ => ⟨rfl, rfl⟩, fun _ _ _ _ => rfl, fun _ _ => ⟨rfl, rfl, rfl, rfl⟩, fun _ _ _ _ => rfl, fun j hj => ⟨?_, ?_, ?_⟩, fun _ _ => ⟨rfl, rfl, rfl, rfl, rfl, rfl⟩⟩
    · rw [up2_ne _ _ (by omega), up2_ne _ _ (by omega), up2_ne _ _ (by omega)]
    · rw [up2_ne _ _ (by omega), up2_ne _ _ (by omega), up2_ne _ _ (by omega)]
    · rw [up2_ne _ _ (by omega), up2_ne _ _ (by omega), up2_ne _ _ (by omega)]
  have hA := hm.addL (v := q) (z := z) (y := (m : Int) + 1) ⟨by simp, va_up_self _ _ _, va_up_self _ _ _⟩ ⟨?_, ?_, ?_⟩ ⟨a1, a2⟩ ⟨a3, a4, a5, a6⟩
  · exact ⟨_, _, _, _, _, _, _, _, rfl, hA, fun a i h4 h7 => by rw [up2_ne _ _ (by omega), up2_ne _ _ (by omega)], rfl⟩
  · rw [up2_ne _ _ (by omega), up2_ne _ _ (by omega), up2_at, up2_ne _ _ (by omega), up2_ne _ _ (by omega), up2_at]
  · rw [up2_ne _ _ (by omega), up2_at, up2_ne _ _ (by omega), up2_at]
  · rw [up2_at, up2_at]
section
variable {κ : KxT} {G : GG} {base mc ms : Nat} {post : Option Value → va_W → Prop} {exc : String → va_W → Prop} {X : va_W} {L : List Nat} {K : Nat → Nat} {I : Nat → Nat → Int} {F : Nat → Nat → Option Nat} {R : Nat → Nat → Int} {N : Nat → Nat} {O : Nat → Nat → Option Nat} {l : Launch}
variable {n m t : Nat} {T : Nat → Nat} {g : Nat → Nat → Nat} {V : Nat → Nat → Int}
theorem some_acmp {de s : Nat} {x y : Int} (h : RP de L K I F R N O T g V s n m t) (hs : s ≤ 5) (hx : 0 ≤ x ∧ x < s) (hy : 0 ≤ y ∧ y < s) : some (g 2 x.toNat) = some (g 2 y.toNat) ↔ x = y := by
  constructor
  · intro e
    have := h.inj2 (i := x.toNat) (j := y.toNat) (by omega) (by omega) hs (Option.some.inj e)
    omega
  · intro e
    rw [e]
theorem RP.rgF' {de : Nat} (h : RP de L K I F R N O T g V 5 n m t) (hf : IsFam V n (fun i => I 2 (g 0 i))) (hn : n ≤ 40) : rgF (I 2) n (g 0) := fun i hi => by
  obtain ⟨⟨r, h1, h2, -⟩, -⟩ := hf i hi
  have : I 2 (g 0 i) = (r : Int) := h1
  omega
abbrev rmX5_correct : Room := { frames := 7, cells := 6, slots := 240, locals := 260 }
theorem tl_X5_correct (C : Cx κ cX5_correct 11 wsX5_correct RX5 (some .int) rmX5_correct G base) {hh cc oo p : Nat} (hh5 : hh < 5) (hc : cc < n) (ho : oo < n) (hp : p < 24) (hm : m < 60) (h : RX (gde G) L K I F R N O T g V n m t) (hw : WFV V n m t) (kk : ∀ w, MUT G X (g 6 0) (fun V' => V' = nsCorrect V m hh cc oo p) n (m + 1) t w → post (some (.int (iI (m : Int)))) w) (h1 : 6 ≤ mc) (h2 : 240 ≤ ms) : Z κ 11 G base mc ms post exc 4 24 119 [(10, .int (iI (m : Int))), (9, .int (iI (V 0 (24 * oo + p)))), (8, .int (iI (V 0 (24 * cc + p)))), (7, .ref (g 0 oo)), (6, .ref (g 0 cc)), (5, .ref (g 2 hh)), (0, .ref (g 6 0)), (4, .int (iI (p : Int)))] [] (pw G X L K I F R N O) := by
  have hn := hw.2.1
  refine z_aload_n C 6 rfl rfl dX5_correct_119 (rfl : 119 + 1 = 120) ?_
  refine z_get C (pwm_MC h.1.x10.1 h.1.x10.2.1) rfl iX5_correct_X5 2 (by decide) lX5_correct_f19 rfl rfl dX5_correct_120 (rfl : 120 + 3 = 123) ?_
  rw [h.1.x10.2.2]
  refine z_new (ci := 4) (fs := [.int 0, .int 0, .int 0]) C tyX3 tyX3_ok iX5_correct_X3 lX5_correct_c146 nnX5_correct_X3 niX5_correct_X3 rfl (by decide) (Nat.le_of_ble_eq_true rfl) (Nat.le_of_ble_eq_true rfl) dX5_correct_123 (rfl : 123 + 3 = 126) (fun q hq => ?_)
  refine z_ws (pwn_Letter hq) ?_
  have hqL : q ∉ L := pw_fresh hq
  refine z_dup C rfl dX5_correct_126 (rfl : 126 + 1 = 127) ?_
  refine z_iload C 7 rfl dX5_correct_127 (rfl : 127 + 2 = 129) ?_
  refine z_iload C 2 rfl dX5_correct_129 (rfl : 129 + 2 = 131) ?_
  refine z_iload C 1 rfl dX5_correct_131 (rfl : 131 + 2 = 133) ?_
  refine z_callI C 5 27 (c_X3_init (by simp) (va_up_self _ _ _)) gX5_correct_X3_init rfl nX5_correct_X3_init lX5_correct_m148 vX5_correct_X3_init rfl hd76_X3_init ⟨Nat.le_of_ble_eq_true rfl, Nat.le_of_ble_eq_true rfl⟩ rfl (Nat.le_of_ble_eq_true rfl) dX5_correct_133 (rfl : 133 + 3 = 136) rfl rfl ⟨Nat.le_of_ble_eq_true rfl, Nat.le_of_ble_eq_true rfl⟩ (fun _ _ h => h.elim) ?_ rfl
  rintro _ _ ⟨rfl, rfl⟩
  refine z_v0 ?_
  obtain ⟨hl, hty⟩ := LT.mono (HM_letter (T := T) (R := R) (y := 0) (p := (p : Int)) (x := V 0 (24 * cc + p)) (z := V 0 (24 * oo + p)) hqL) h.1.2.2.1.2.2.1
  refine z_callV C 6 227 (c_AL_add hl hty (by omega) (.inr (.inr (.inl rfl))) (by simp) (va_up_self _ _ _)) gX5_correct_Jx4a65c_add_9ea2d rfl hd76_Jx4a65c_add_9ea2d ⟨Nat.le_of_ble_eq_true rfl, Nat.le_of_ble_eq_true rfl⟩ (pwm_AL hl.1 hl.2.1) rfl rfl (Nat.le_of_ble_eq_true rfl) dX5_correct_136 (rfl : 136 + 3 = 139) rfl rfl ⟨Nat.le_of_ble_eq_true rfl, Nat.le_of_ble_eq_true rfl⟩ (fun _ _ h => h.elim) ?_ rfl
  rintro _ _ ⟨rfl, ha⟩
  refine z_v1 ?_
  obtain ⟨L1, K1, I1, F1, N1, O1, T1, g1, rfl, hR1, eg, eI⟩ := RP.newL h.1 hqL ha
  have hw' : WFV (nsCorrect V m hh cc oo p) n (m + 1) t := hw.correct hm hh5 hc ho hp
  have e2 : g1 2 hh = g 2 hh := eg 2 hh (by decide) (by decide)
  have e0 : g1 0 cc = g 0 cc := eg 0 cc (by decide) (by decide)
  have e6 : g1 6 0 = g 6 0 := eg 6 0 (by decide) (by decide)
  rw [← e2, ← e0, ← e6]
  refine z_pop C rfl dX5_correct_139 (rfl : 139 + 1 = 140) ?_
  refine z_aload C 5 rfl dX5_correct_140 (rfl : 140 + 2 = 142) ?_
  refine z_iload C 0 rfl dX5_correct_142 (rfl : 142 + 2 = 144) ?_
  refine z_callV C 6 227 (c_X2_take (hR1.isH hh5) hm) gX5_correct_X2_take rfl hd76_X2_take ⟨Nat.le_of_ble_eq_true rfl, Nat.le_of_ble_eq_true rfl⟩ (pwm_House (hR1.g2 hh5).1 (hR1.g2 hh5).2) rfl rfl (Nat.le_of_ble_eq_true rfl) dX5_correct_144 (rfl : 144 + 3 = 147) rfl rfl ⟨Nat.le_of_ble_eq_true rfl, Nat.le_of_ble_eq_true rfl⟩ (fun _ _ h => h.elim) ?_ rfl
  rintro _ _ ⟨rfl, rfl⟩
  refine z_v0 ?_
  have hR2 := hR1.rowH (j := hh) (f := va_up (R (g1 3 hh)) m 1) (f' := va_up (V 13) (60 * hh + m) 1) (by omega) hh5 (fun k hk => by
    by_cases e : k = m
    · subst e; rw [va_up_self, va_up_self]
    · rw [va_up_ne _ _ e, va_up_ne _ _ (by omega)]; exact hR1.2.2.2.2.2.2.2.2.1 hh hh5 k hk) (fun i hi hi2 => va_up_ne _ _ (hi2 m hm))
  refine z_aload C 4 rfl dX5_correct_147 (rfl : 147 + 2 = 149) ?_
  refine z_get C (pwm_Copy (hR2.g0 hc).1 (hR2.g0 hc).2) rfl iX5_correct_X0 3 (by decide) lX5_correct_f139 rfl rfl dX5_correct_149 (rfl : 149 + 3 = 152) ?_
  rw [(hR2.isC hc).2.2.1]
  refine z_iload C 7 rfl dX5_correct_152 (rfl : 152 + 2 = 154) ?_
  refine z_iload C 1 rfl dX5_correct_154 (rfl : 154 + 2 = 156) ?_
  refine z_iast C (pwm_I (hR2.g1 hc).1 (hR2.g1 hc).2) ⟨by omega, by rw [(hR2.isC hc).2.2.2.2.2]; omega⟩ (by omega) dX5_correct_156 (rfl : 156 + 1 = 157) (pwt_I (i := p) (hR2.g1 hc).1 (hR2.g1 hc).2) ?_
  have hR3 := hR2.rowC (j := cc) (f := va_up ((va_up R (g1 3 hh) (va_up (R (g1 3 hh)) m 1)) (g1 1 cc)) p (V 0 (24 * oo + p))) (f' := va_up (V 0) (24 * cc + p) (V 0 (24 * oo + p))) (by omega) hc (fun k hk => by
    by_cases e : k = p
    · subst e; rw [va_up_self, va_up_self]
    · exact (va_up_ne _ _ e).trans ((hR2.rd hc hk).trans (va_up_ne (V 0) _ (by omega)).symm)) (fun i hi2 => va_up_ne _ _ (hi2 p hp))
  have hR4 := hR3.congV (V' := nsCorrect V m hh cc oo p) ⟨rfl, fun _ _ => rfl, rfl, fun _ _ => rfl, fun _ _ => ⟨rfl, rfl⟩, fun _ _ _ _ => rfl, fun _ _ => ⟨rfl, rfl, rfl, rfl⟩, fun _ _ _ _ => rfl, fun j hj => ⟨rfl, rfl, rfl⟩, fun _ _ => ⟨rfl, rfl, rfl, rfl, rfl, rfl⟩⟩
  refine z_aload_n C 6 rfl rfl dX5_correct_157 (rfl : 157 + 1 = 158) ?_
  have rg : rgF (I1 2) n (g1 0) := fun i hi => by
    rw [eI, eg 0 i (by decide) (by decide)]
    exact h.rgF hw i hi
  refine z_callV C 6 227 (c_X5_findFamiliesAnew (hR4.cps hw') (hR4.cpv hw') (hR4.cpk hw') rg) gX5_correct_X5_findFamiliesAnew rfl hd76_X5_findFamiliesAnew ⟨Nat.le_of_ble_eq_true rfl, Nat.le_of_ble_eq_true rfl⟩ (pwm_MC hR4.x8.1 hR4.x8.2.1) rfl rfl (Nat.le_of_ble_eq_true rfl) dX5_correct_158 (rfl : 158 + 3 = 161) rfl rfl ⟨Nat.le_of_ble_eq_true rfl, Nat.le_of_ble_eq_true rfl⟩ (fun _ _ h => h.elim) ?_ rfl
  rintro _ _ ⟨rfl, f, f1, f2, rfl⟩
  refine z_v0 ?_
  refine z_iload C 0 rfl dX5_correct_161 (rfl : 161 + 2 = 163) ?_
  exact z_iret C rfl dX5_correct_163 (kk _ ⟨L1, K1, _, F1, _, N1, O1, T1, g1, rfl, e6, fun _ e => e ▸ ⟨hR4.famI f, f2.cong (fun i hi => by rw [va_up_self])⟩⟩) (by omega) (by omega)
theorem c_X5_correct {hz cz oz pz : Int} (rh : -2147483648 ≤ hz ∧ hz < 2147483648) (rc : -2147483648 ≤ cz ∧ cz < 2147483648) (ro : -2147483648 ≤ oz ∧ oz < 2147483648) (rp : -2147483648 ≤ pz ∧ pz < 2147483648) (h : RX (gde G) L K I F R N O T g V n m t) (hw : WFV V n m t) : MC l yX5_correct wsX5_correct rmX5_correct G base [.ref (g 6 0), .int (iI hz), .int (iI cz), .int (iI oz), .int (iI pz)] (pw G X L K I F R N O) (mxP (((0 ≤ hz ∧ hz < 5) ∧ (0 ≤ cz ∧ cz < n) ∧ (0 ≤ oz ∧ oz < n) ∧ 0 ≤ pz ∧ pz < 24) ∧ okCorrect V m hz cz oz pz) (m : Int) (MUT G X (g 6 0) (fun V' => V' = nsCorrect V m hz.toNat cz.toNat oz.toNat pz.toNat) n (m + 1) t)) (mxE (pw G X L K I F R N O) sIOB sISE ((0 ≤ hz ∧ hz < 5) ∧ (0 ≤ cz ∧ cz < n) ∧ (0 ≤ oz ∧ oz < n) ∧ 0 ≤ pz ∧ pz < 24) (okCorrect V m hz cz oz pz)) := by
  refine MC.of (cc := cX5_correct) (by decide) rfl rfl (Nat.le_of_ble_eq_true rfl) ?_
  intro κ C hT hl hnm
  have hn := hw.2.1
  refine z_sub [0, 1, 2, 3, 4] (lv' := [(0, .ref (g 6 0)), (1, .int (iI hz)), (2, .int (iI cz)), (3, .int (iI oz)), (4, .int (iI pz))]) rfl ?_
  refine z_aload_n C 0 rfl rfl dX5_correct_0 (rfl : 0 + 1 = 1) ?_
  refine z_iload_n C 1 rfl rfl dX5_correct_1 (rfl : 1 + 1 = 2) ?_
  refine z_callV C 1 6 (c_X5_findHouse (heA := g 3) rh h.1.x8 h.1.l0 (fun i hi => h.1.isH hi)) gX5_correct_X5_findHouse rfl hd76_X5_findHouse ⟨Nat.le_of_ble_eq_true rfl, Nat.le_of_ble_eq_true rfl⟩ (pwm_MC h.1.x8.1 h.1.x8.2.1) rfl rfl (Nat.le_of_ble_eq_true rfl) dX5_correct_2 (rfl : 2 + 3 = 5) rfl rfl ⟨Nat.le_of_ble_eq_true rfl, Nat.le_of_ble_eq_true rfl⟩ (fun E w h => z_out C hT ⟨h.2.1, .inl ⟨h.1, fun q => h.2.2 q.1⟩⟩ (by decide) (by decide)) ?_ rfl
  rintro _ _ ⟨rfl, hh, rfl, hh5, rfl⟩
  refine z_v1 ?_
  refine z_astore (lv' := [(5, _), (0, _), (1, _), (2, _), (3, _), (4, _)]) C dX5_correct_5 (rfl : 5 + 2 = 7) (by decide) rfl ?_
  refine z_aload_n C 1 rfl rfl dX5_correct_7 (rfl : 7 + 1 = 8) ?_
  refine z_iload_n C 3 rfl rfl dX5_correct_8 (rfl : 8 + 1 = 9) ?_
  refine z_callV C 2 12 (c_X5_findCopy (rA := g 1) rc h.1.x9 h.1.l1 (by omega) (fun i hi => h.1.isC hi)) gX5_correct_X5_findCopy rfl hd76_X5_findCopy ⟨Nat.le_of_ble_eq_true rfl, Nat.le_of_ble_eq_true rfl⟩ (pwm_MC h.1.x8.1 h.1.x8.2.1) rfl rfl (Nat.le_of_ble_eq_true rfl) dX5_correct_9 (rfl : 9 + 3 = 12) rfl rfl ⟨Nat.le_of_ble_eq_true rfl, Nat.le_of_ble_eq_true rfl⟩ (fun E w h => z_out C hT ⟨h.2.1, .inl ⟨h.1, fun q => h.2.2 q.2.1⟩⟩ (by decide) (by decide)) ?_ rfl
  rintro _ _ ⟨rfl, cc, rfl, hc, rfl⟩
  refine z_v1 ?_
  refine z_astore (lv' := [(6, _), (5, _), (0, _), (1, _), (2, _), (3, _), (4, _)]) C dX5_correct_12 (rfl : 12 + 2 = 14) (by decide) rfl ?_
  refine z_aload_n C 2 rfl rfl dX5_correct_14 (rfl : 14 + 1 = 15) ?_
  refine z_iload_n C 5 rfl rfl dX5_correct_15 (rfl : 15 + 1 = 16) ?_
  refine z_callV C 3 18 (c_X5_findCopy (rA := g 1) ro h.1.x9 h.1.l1 (by omega) (fun i hi => h.1.isC hi)) gX5_correct_X5_findCopy rfl hd76_X5_findCopy ⟨Nat.le_of_ble_eq_true rfl, Nat.le_of_ble_eq_true rfl⟩ (pwm_MC h.1.x8.1 h.1.x8.2.1) rfl rfl (Nat.le_of_ble_eq_true rfl) dX5_correct_16 (rfl : 16 + 3 = 19) rfl rfl ⟨Nat.le_of_ble_eq_true rfl, Nat.le_of_ble_eq_true rfl⟩ (fun E w h => z_out C hT ⟨h.2.1, .inl ⟨h.1, fun q => h.2.2 q.2.2.1⟩⟩ (by decide) (by decide)) ?_ rfl
  rintro _ _ ⟨rfl, oo, rfl, ho, rfl⟩
  refine z_v1 ?_
  refine z_astore (lv' := [(7, _), (6, _), (5, _), (0, _), (1, _), (2, _), (3, _), (4, _)]) C dX5_correct_19 (rfl : 19 + 2 = 21) (by decide) rfl ?_
  refine z_iload C 7 rfl dX5_correct_21 (rfl : 21 + 2 = 23) ?_
  refine z_callS C 4 24 (c_X5_requirePlace rp) gX5_correct_X5_requirePlace rfl hd76_X5_requirePlace ⟨Nat.le_of_ble_eq_true rfl, Nat.le_of_ble_eq_true rfl⟩ rfl (Nat.le_of_ble_eq_true rfl) dX5_correct_23 (rfl : 23 + 3 = 26) rfl rfl ⟨Nat.le_of_ble_eq_true rfl, Nat.le_of_ble_eq_true rfl⟩ (fun E w h => z_out C hT ⟨h.2.1, .inl ⟨h.1, fun q => h.2.2 q.2.2.2⟩⟩ (by decide) (by decide)) ?_ rfl
  rintro _ _ ⟨rfl, rfl, hp2⟩
  refine z_v0 ?_
  obtain ⟨p, rfl⟩ : ∃ q : Nat, pz = (q : Int) := ⟨pz.toNat, by omega⟩
  have hp : p < 24 := by omega
  have all : (0 ≤ (hh : Int) ∧ (hh : Int) < 5) ∧ (0 ≤ (cc : Int) ∧ (cc : Int) < n) ∧ (0 ≤ (oo : Int) ∧ (oo : Int) < n) ∧ 0 ≤ (p : Int) ∧ (p : Int) < 24 := by omega
  have hk1 := (hw.2.2.2.2.2.1 cc hc).2
  have hk2 := (hw.2.2.2.2.2.1 oo ho).2
  have mC := pwm_Copy (G := G) (X := X) (I := I) (F := F) (R := R) (N := N) (O := O) (h.1.g0 hc).1 (h.1.g0 hc).2
  have mO := pwm_Copy (G := G) (X := X) (I := I) (F := F) (R := R) (N := N) (O := O) (h.1.g0 ho).1 (h.1.g0 ho).2
  have q1 := some_acmp (x := V 4 cc) (y := (hh : Int)) h.1 (by decide) (by omega) (by omega)
  have q2 := some_acmp (x := V 4 oo) (y := (hh : Int)) h.1 (by decide) (by omega) (by omega)
  refine z_aload C 1 rfl dX5_correct_26 (rfl : 26 + 2 = 28) ?_
  refine z_get C mC rfl iX5_correct_X0 4 (by decide) lX5_correct_f91 rfl rfl dX5_correct_28 (rfl : 28 + 3 = 31) ?_
  rw [h.1.house hc]
  refine z_aload C 2 rfl dX5_correct_31 (rfl : 31 + 2 = 33) ?_
  refine z_acmp_ne (pt := 46) C (some (g 2 (V 4 cc).toNat)) (some (g 2 hh)) dX5_correct_33 (by decide) (rfl : 33 + 3 = 36) (fun c1 => ?_) (fun c1 => ?_)
  · exact z_throw C hT rfl lX5_correct_c68 nX5_correct_ISE (List.mem_of_getElem? (i := 11) rfl) tX5_correct_ISE thN_ISE thG_ISE dX5_correct_46 dX5_correct_49 dX5_correct_50 dX5_correct_52 dX5_correct_55 (by decide) (Nat.le_of_ble_eq_true rfl) (by decide) (by decide) (by decide) (by decide) ⟨rfl, .inr ⟨rfl, all, fun o => c1 (q1.mpr o.1)⟩⟩
  refine z_aload C 0 rfl dX5_correct_36 (rfl : 36 + 2 = 38) ?_
  refine z_get C mO rfl iX5_correct_X0 4 (by decide) lX5_correct_f91 rfl rfl dX5_correct_38 (rfl : 38 + 3 = 41) ?_
  rw [h.1.house ho]
  refine z_aload C 2 rfl dX5_correct_41 (rfl : 41 + 2 = 43) ?_
  refine z_acmp_eq (pt := 56) C (some (g 2 (V 4 oo).toNat)) (some (g 2 hh)) dX5_correct_43 (by decide) (rfl : 43 + 3 = 46) (fun c2 => ?_) (fun c2 => ?_)
  rotate_left
  · exact z_throw C hT rfl lX5_correct_c68 nX5_correct_ISE (List.mem_of_getElem? (i := 11) rfl) tX5_correct_ISE thN_ISE thG_ISE dX5_correct_46 dX5_correct_49 dX5_correct_50 dX5_correct_52 dX5_correct_55 (by decide) (Nat.le_of_ble_eq_true rfl) (by decide) (by decide) (by decide) (by decide) ⟨rfl, .inr ⟨rfl, all, fun o => c2 (q2.mpr o.2.1)⟩⟩
  refine z_aload C 1 rfl dX5_correct_56 (rfl : 56 + 2 = 58) ?_
  refine z_get C mC rfl iX5_correct_X0 3 (by decide) lX5_correct_f139 rfl rfl dX5_correct_58 (rfl : 58 + 3 = 61) ?_
  rw [(h.1.isC hc).2.2.1]
  refine z_iload C 7 rfl dX5_correct_61 (rfl : 61 + 2 = 63) ?_
  refine z_iald C (x := iI (V 0 (24 * cc + p))) (pwm_I (h.1.g1 hc).1 (h.1.g1 hc).2) ⟨by omega, by rw [(h.1.isC hc).2.2.2.2.2]; omega⟩ (by omega) (by rw [← h.1.rd hc hp]; rfl) dX5_correct_63 (rfl : 63 + 1 = 64) ?_
  refine z_istore (lv' := [(8, _), (7, _), (6, _), (5, _), (0, _), (1, _), (2, _), (3, _), (4, _)]) C dX5_correct_64 (rfl : 64 + 2 = 66) (by decide) rfl ?_
  refine z_aload C 1 rfl dX5_correct_66 (rfl : 66 + 2 = 68) ?_
  refine z_get C mO rfl iX5_correct_X0 3 (by decide) lX5_correct_f139 rfl rfl dX5_correct_68 (rfl : 68 + 3 = 71) ?_
  rw [(h.1.isC ho).2.2.1]
  refine z_iload C 8 rfl dX5_correct_71 (rfl : 71 + 2 = 73) ?_
  refine z_iald C (x := iI (V 0 (24 * oo + p))) (pwm_I (h.1.g1 ho).1 (h.1.g1 ho).2) ⟨by omega, by rw [(h.1.isC ho).2.2.2.2.2]; omega⟩ (by omega) (by rw [← h.1.rd ho hp]; rfl) dX5_correct_73 (rfl : 73 + 1 = 74) ?_
  have v1 := hw.2.2.1 (24 * cc + p) (by omega)
  have v2 := hw.2.2.1 (24 * oo + p) (by omega)
  refine z_istore (lv' := [(9, _), (8, _), (7, _), (6, _), (5, _), (0, _), (1, _), (2, _), (3, _), (4, _)]) C dX5_correct_74 (rfl : 74 + 2 = 76) (by decide) rfl ?_
  refine z_iload C 1 rfl dX5_correct_76 (rfl : 76 + 2 = 78) ?_
  refine z_iload C 0 rfl dX5_correct_78 (rfl : 78 + 2 = 80) ?_
  refine z_icmp_ne (pt := 93) C dX5_correct_80 (by decide) (rfl : 80 + 3 = 83) (fun q => mt (iI_eq (by omega) (by omega)).2 q) (iI_eq (by omega) (by omega)).1 (fun c3 => ?_) (fun c3 => ?_)
  rotate_left
  · exact z_throw C hT rfl lX5_correct_c68 nX5_correct_ISE (List.mem_of_getElem? (i := 12) rfl) tX5_correct_ISE thN_ISE thG_ISE dX5_correct_83 dX5_correct_86 dX5_correct_87 dX5_correct_89 dX5_correct_92 (by decide) (Nat.le_of_ble_eq_true rfl) (by decide) (by decide) (by decide) (by decide) ⟨rfl, .inr ⟨rfl, all, fun o => o.2.2.1 c3⟩⟩
  refine z_aload_n C 5 rfl rfl dX5_correct_93 (rfl : 93 + 1 = 94) ?_
  refine z_get C (pwm_MC h.1.x10.1 h.1.x10.2.1) rfl iX5_correct_X5 2 (by decide) lX5_correct_f19 rfl rfl dX5_correct_94 (rfl : 94 + 3 = 97) ?_
  rw [h.1.x10.2.2]
  refine z_callV C 4 24 (c_list_size h.1.l2) gX5_correct_Jx4a65c_size_8abf5 rfl hd76_Jx4a65c_size_8abf5 ⟨Nat.le_of_ble_eq_true rfl, Nat.le_of_ble_eq_true rfl⟩ (pwm_AL h.1.l2.1 h.1.l2.2.1) rfl rfl (Nat.le_of_ble_eq_true rfl) dX5_correct_97 (rfl : 97 + 3 = 100) rfl rfl ⟨Nat.le_of_ble_eq_true rfl, Nat.le_of_ble_eq_true rfl⟩ (fun _ _ h => h.elim) ?_ rfl
  rintro _ _ ⟨rfl, rfl⟩
  refine z_v1 ?_
  refine z_istore (lv' := [(10, _), (9, _), (8, _), (7, _), (6, _), (5, _), (0, _), (1, _), (2, _), (3, _), (4, _)]) C dX5_correct_100 (rfl : 100 + 2 = 102) (by decide) rfl ?_
  refine z_iload C 0 rfl dX5_correct_102 (rfl : 102 + 2 = 104) ?_
  refine z_bipush (c := 60) C (by decide) dX5_correct_104 (rfl : 104 + 2 = 106) ?_
  refine z_icmp_lt (pt := 119) C dX5_correct_106 (by decide) (rfl : 106 + 3 = 109) (iI_lt (by omega) (by omega)).1 (fun q => mt (iI_lt (by omega) (by omega)).2 q) (fun c4 => ?_) (fun c4 => ?_)
  rotate_left
  · exact z_throw C hT rfl lX5_correct_c68 nX5_correct_ISE (List.mem_of_getElem? (i := 13) rfl) tX5_correct_ISE thN_ISE thG_ISE dX5_correct_109 dX5_correct_112 dX5_correct_113 dX5_correct_115 dX5_correct_118 (by decide) (Nat.le_of_ble_eq_true rfl) (by decide) (by decide) (by decide) (by decide) ⟨rfl, .inr ⟨rfl, all, fun o => by have := o.2.2.2; omega⟩⟩
  have hm : m < 60 := by omega
  refine z_sub [0, 1, 2, 3, 4, 5, 6, 10] (lv' := [(10, .int (iI (m : Int))), (9, .int (iI (V 0 (24 * oo + p)))), (8, .int (iI (V 0 (24 * cc + p)))), (7, .ref (g 0 oo)), (6, .ref (g 0 cc)), (5, .ref (g 2 hh)), (0, .ref (g 6 0)), (4, .int (iI (p : Int)))]) rfl ?_
  exact tl_X5_correct C hh5 hc ho hp hm h hw (fun w hm2 => ⟨⟨all, q1.mp c1, q2.mp c2, c3, hm⟩, rfl, hm2⟩) (by decide) (by decide)
end
