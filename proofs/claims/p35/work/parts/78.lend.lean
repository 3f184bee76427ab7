theorem lX5_lend_f22 : Cond.fieldLink RX5 22 "ModelCopies" "loans" "Ljava/util/ArrayList;" ∈ wsX5_lend := by decide +kernel
theorem iX5_lend_X5 : ∀ w ∈ wsX50, w ∈ wsX5_lend := by decide +kernel
theorem hd78_Jx4a65c_size_8abf5 : yJx4a65c_size_8abf5.cls = RJx4a65c ∧ yJx4a65c_size_8abf5.cls ≠ "java/lang/invoke/MethodHandle" ∧ yJx4a65c_size_8abf5.cls ≠ "java/lang/invoke/VarHandle" ∧ (parseMethodDescriptor yJx4a65c_size_8abf5.desc).map (fun d => d.parameters.length) = some 0 := by decide +kernel
theorem iX5_lend_X4 : ∀ w ∈ wsX40, w ∈ wsX5_lend := by decide +kernel
theorem lX5_lend_c186 : Cond.classLink RX5 186 "ModelCopies$Loan" ∈ wsX5_lend := by decide +kernel
theorem nnX5_lend_X4 : Cond.instantiable "ModelCopies$Loan" 6 ∈ wsX5_lend := by decide +kernel
theorem niX5_lend_X4 : Cond.initialized "ModelCopies$Loan" ∈ wsX5_lend := by decide +kernel
theorem lX5_lend_f36 : Cond.fieldLink RX5 36 "ModelCopies" "today" "I" ∈ wsX5_lend := by decide +kernel
theorem hd78_X4_init : yX4_init.cls ≠ "java/lang/invoke/MethodHandle" ∧ yX4_init.cls ≠ "java/lang/invoke/VarHandle" ∧ (parseMethodDescriptor yX4_init.desc).map (fun d => d.parameters.length) = some 4 := by decide +kernel
theorem lX5_lend_m188 : Cond.methodLink RX5 188 yX4_init ∈ wsX5_lend := by decide +kernel
theorem nX5_lend_X4_init : Cond.initialized yX4_init.cls ∈ wsX5_lend := by decide +kernel
theorem vX5_lend_X4_init : Cond.instanceMethod yX4_init ∈ wsX5_lend := by decide +kernel
theorem hd78_Jx4a65c_add_9ea2d : yJx4a65c_add_9ea2d.cls = RJx4a65c ∧ yJx4a65c_add_9ea2d.cls ≠ "java/lang/invoke/MethodHandle" ∧ yJx4a65c_add_9ea2d.cls ≠ "java/lang/invoke/VarHandle" ∧ (parseMethodDescriptor yJx4a65c_add_9ea2d.desc).map (fun d => d.parameters.length) = some 1 := by decide +kernel
theorem lX5_lend_f179 : Cond.fieldLink RX5 179 "ModelCopies$House" "coins" "I" ∈ wsX5_lend := by decide +kernel
theorem iX5_lend_X2 : ∀ w ∈ wsX20, w ∈ wsX5_lend := by decide +kernel
theorem lX5_lend_f191 : Cond.fieldLink RX5 191 "ModelCopies$House" "laidDown" "I" ∈ wsX5_lend := by decide +kernel
theorem lX5_lend_f91 : Cond.fieldLink RX5 91 "ModelCopies$Copy" "house" "LModelCopies$House;" ∈ wsX5_lend := by decide +kernel
theorem iX5_lend_X0 : ∀ w ∈ wsX00, w ∈ wsX5_lend := by decide +kernel
theorem lX5_lend_f174 : Cond.fieldLink RX5 174 "ModelCopies$Copy" "owner" "LModelCopies$House;" ∈ wsX5_lend := by decide +kernel
theorem hd78_X2_takeLettersOf : yX2_takeLettersOf.cls = RX2 ∧ yX2_takeLettersOf.cls ≠ "java/lang/invoke/MethodHandle" ∧ yX2_takeLettersOf.cls ≠ "java/lang/invoke/VarHandle" ∧ (parseMethodDescriptor yX2_takeLettersOf.desc).map (fun d => d.parameters.length) = some 1 := by decide +kernel
theorem hd78_X5_findCopy : yX5_findCopy.cls = RX5 ∧ yX5_findCopy.cls ≠ "java/lang/invoke/MethodHandle" ∧ yX5_findCopy.cls ≠ "java/lang/invoke/VarHandle" ∧ (parseMethodDescriptor yX5_findCopy.desc).map (fun d => d.parameters.length) = some 1 := by decide +kernel
theorem hd78_X5_findHouse : yX5_findHouse.cls = RX5 ∧ yX5_findHouse.cls ≠ "java/lang/invoke/MethodHandle" ∧ yX5_findHouse.cls ≠ "java/lang/invoke/VarHandle" ∧ (parseMethodDescriptor yX5_findHouse.desc).map (fun d => d.parameters.length) = some 1 := by decide +kernel
theorem tX5_lend_IAE : ∀ w ∈ (vx_atS RX5 61 "java/lang/IllegalArgumentException" ["java/lang/RuntimeException", "java/lang/Exception"]).filter goodWord, w ∈ wsX5_lend := by decide +kernel
theorem lX5_lend_c57 : Cond.classLink RX5 57 "java/lang/IllegalArgumentException" ∈ wsX5_lend := by decide +kernel
theorem nX5_lend_IAE : Cond.initialized "java/lang/IllegalArgumentException" ∈ wsX5_lend := by decide +kernel
theorem tX5_lend_ISE : ∀ w ∈ (vx_atS RX5 72 "java/lang/IllegalStateException" ["java/lang/RuntimeException", "java/lang/Exception"]).filter goodWord, w ∈ wsX5_lend := by decide +kernel
theorem lX5_lend_c68 : Cond.classLink RX5 68 "java/lang/IllegalStateException" ∈ wsX5_lend := by decide +kernel
theorem nX5_lend_ISE : Cond.initialized "java/lang/IllegalStateException" ∈ wsX5_lend := by decide +kernel
section
variable {L : List Nat} {K : Nat → Nat} {I I' : Nat → Nat → Int} {F F' : Nat → Nat → Option Nat} {R R' : Nat → Nat → Int} {N N' : Nat → Nat} {O : Nat → Nat → Option Nat} {T : Nat → Nat} {q r k1 k2 y1 y2 : Nat}
theorem HM_one (hq : q ∉ L) (hI : ∀ c b, b ≠ q → I' c b = I c b) (hF : ∀ c b, b ≠ q → F' c b = F c b) : MON L (L ++ [q]) K (va_up K q k1) I I' F F' R R N N O O T (va_up T q y1) := fun b hb => by
  have n1 : b ≠ q := fun e => hq (e ▸ hb)
  exact ⟨⟨by simp [hb], va_up_ne _ _ n1, va_up_ne _ _ n1⟩, fun c => hI c b n1, fun c => hF c b n1, rfl, rfl, rfl⟩
theorem HM_two (hq : q ∉ L) (hr : r ∉ L ++ [q]) (hI : ∀ c b, b ≠ q → I' c b = I c b) (hF : ∀ c b, b ≠ q → F' c b = F c b) (hR : ∀ b, b ≠ r → R' b = R b) (hN : ∀ b, b ≠ r → N' b = N b) : MON L ((L ++ [q]) ++ [r]) K (va_up (va_up K q k1) r k2) I I' F F' R R' N N' O O T (va_up (va_up T q y1) r y2) := fun b hb => by
  have hrL : r ∉ L := fun c => hr (List.mem_append_left _ c)
  have n1 : b ≠ q := fun e => hq (e ▸ hb)
  have n2 : b ≠ r := fun e => hrL (e ▸ hb)
  refine ⟨⟨by simp [hb], ?_, ?_⟩, fun c => hI c b n1, fun c => hF c b n1, hR b n2, hN b n2, rfl⟩
  · rw [va_up_ne _ _ n2, va_up_ne _ _ n1]
  · rw [va_up_ne _ _ n2, va_up_ne _ _ n1]
end
theorem RP.newN {G : GG} {X : va_W} {L : List Nat} {K : Nat → Nat} {I I1 : Nat → Nat → Int} {F F1 : Nat → Nat → Option Nat} {R : Nat → Nat → Int} {N : Nat → Nat} {O : Nat → Nat → Option Nat} {T : Nat → Nat} {g : Nat → Nat → Nat} {V : Nat → Nat → Int} {n m t q c h : Nat} {d pl : Int} {w : va_W} (hR : RP (gde G) L K I F R N O T g V 5 n m t) (hq : q ∉ L) (hb : V 20 t = 0) (hI : ∀ c b, b ≠ q → I1 c b = I c b) (hF : ∀ c b, b ≠ q → F1 c b = F c b)
    (h1 : F1 6 q = some (g 0 c) ∧ F1 7 q = some (g 2 h) ∧ I1 10 q = d ∧ I1 11 q = pl ∧ I1 12 q = 0)
    (ha : ADD G X (L ++ [q]) (va_up K q 4) I1 F1 R N O (g 6 7) (g 7 3) t (g 5) q 4 w) :
    ∃ (L' : List Nat) (K' : Nat → Nat) (I' : Nat → Nat → Int) (F' : Nat → Nat → Option Nat) (N' : Nat → Nat) (O' : Nat → Nat → Option Nat) (T' : Nat → Nat) (g' : Nat → Nat → Nat), w = pw G X L' K' I' F' R N' O' ∧ RP (gde G) L' K' I' F' R N' O' T' g' (up2 (up2 (up2 (up2 V 15 t c) 16 t h) 17 t d) 18 t pl) 5 n m (t + 1) ∧ (∀ a i, a ≠ 5 → a ≠ 7 → g' a i = g a i) ∧ I' 2 = I1 2 := by
  obtain ⟨L', K', F', N', O', e', z, rfl, a1, a2, a3, a4, a5, a6⟩ := ha
  have hm : RP (gde G) (L ++ [q]) (va_up K q 4) I1 F1 R N O (va_up T q (1000 * 5 + t)) g (up2 (up2 (up2 (up2 V 15 t c) 16 t h) 17 t d) 18 t pl) 5 n m t := by
    refine (hR.mono (HM_one hq hI hF)).congV ⟨rfl, fun _ _ => rfl, rfl, fun _ _ => rfl, fun _ _ => ⟨rfl, rfl⟩, fun _ _ _ _ => rfl, fun _ _ => ⟨rfl, rfl, rfl, rfl⟩, fun _ _ _ _ => rfl, fun _ _ => ⟨rfl, rfl, rfl⟩, fun j hj => ⟨?_, ?_, ?_, ?_, rfl, rfl⟩⟩
    · rw [up2_ne _ _ (by omega), up2_ne _ _ (by omega), up2_ne _ _ (by omega), up2_ne _ _ (by omega)]
    · rw [up2_ne _ _ (by omega), up2_ne _ _ (by omega), up2_ne _ _ (by omega), up2_ne _ _ (by omega)]
    · rw [up2_ne _ _ (by omega), up2_ne _ _ (by omega), up2_ne _ _ (by omega), up2_ne _ _ (by omega)]
    · rw [up2_ne _ _ (by omega), up2_ne _ _ (by omega), up2_ne _ _ (by omega), up2_ne _ _ (by omega)]
  obtain ⟨b1, b2, b3, b4, b5⟩ := h1
  have e15 : up2 (up2 (up2 (up2 V 15 t (c : Int)) 16 t h) 17 t d) 18 t pl 15 t = (c : Int) := by rw [up2_ne _ _ (by omega), up2_ne _ _ (by omega), up2_ne _ _ (by omega), up2_at]
  have e16 : up2 (up2 (up2 (up2 V 15 t (c : Int)) 16 t h) 17 t d) 18 t pl 16 t = (h : Int) := by rw [up2_ne _ _ (by omega), up2_ne _ _ (by omega), up2_at]
  have e17 : up2 (up2 (up2 (up2 V 15 t (c : Int)) 16 t h) 17 t d) 18 t pl 17 t = d := by rw [up2_ne _ _ (by omega), up2_at]
  have e18 : up2 (up2 (up2 (up2 V 15 t (c : Int)) 16 t h) 17 t d) 18 t pl 18 t = pl := up2_at _ _ _ _
  have e20 : up2 (up2 (up2 (up2 V 15 t (c : Int)) 16 t h) 17 t d) 18 t pl 20 t = 0 := hb
  have hA := hm.addN (v := q) (z := z) (y := (t : Int) + 1) ⟨by simp, va_up_self _ _ _, va_up_self _ _ _⟩ ⟨by rw [e15]; exact b1, by rw [e16]; exact b2, by rw [e17]; exact b3, by rw [e18]; exact b4⟩ ⟨by rw [e20]; exact b5, fun e => by rw [e20] at e; omega⟩ ⟨a1, a2⟩ ⟨a3, a4, a5, a6⟩
  exact ⟨_, _, _, _, _, _, _, _, rfl, hA, fun a i h4 h7 => by rw [up2_ne _ _ (by omega), up2_ne _ _ (by omega)], rfl⟩
theorem gt_row {V : Nat → Nat → Int} {n m t h o : Nat} {f : Nat → Int} (hw : WFV V n m t) (hh : h < 5) (ho : o < 5) (hg : gtL V m h o f) {k : Nat} (hk : k < 60) : (if V 13 (60 * o + k) = 1 then 1 else V 13 (60 * h + k)) = f (60 * h + k) := by
  obtain ⟨w1, w2⟩ := hw.2.2.2.2.2.2.2.2.1
  have hm := hw.2.1
  by_cases c : k < m
  · rw [hg.1 k c]
    have a := w1 (60 * h + k) (by omega)
    by_cases c1 : V 13 (60 * o + k) = 1
    · rw [if_pos c1, if_pos (.inr c1)]
    · rw [if_neg c1]
      rcases a with a | a
      · rw [if_neg (by omega)]; exact a
      · rw [if_pos (.inl a)]; exact a
  · have a := w2 o ho k (by omega) hk
    rw [if_neg (by omega), hg.2 _ (fun k' hk' e => by omega)]
section
variable {κ : KxT} {G : GG} {base mc ms : Nat} {post : Option Value → va_W → Prop} {exc : String → va_W → Prop} {X : va_W} {L : List Nat} {K : Nat → Nat} {I : Nat → Nat → Int} {F : Nat → Nat → Option Nat} {R : Nat → Nat → Int} {N : Nat → Nat} {O : Nat → Nat → Option Nat} {l : Launch}
variable {n m t : Nat} {T : Nat → Nat} {g : Nat → Nat → Nat} {V : Nat → Nat → Int}
abbrev rmX5_lend : Room := { frames := 7, cells := 4, slots := 240, locals := 260 }
theorem tl_X5_lend (C : Cx κ cX5_lend 8 wsX5_lend RX5 (some .int) rmX5_lend G base) {hh cc oo : Nat} {d pl : Int} (hh5 : hh < 5) (hc : cc < n) (ho5 : oo < 5) (eo : V 3 cc = (oo : Int)) (ht : t < 40) (h : RX (gde G) L K I F R N O T g V n m t) (hw : WFV V n m t) (hb : WB V t) (kk : ∀ w, MUT G X (g 6 0) (fun V' => ∃ f, gtL V m hh oo f ∧ V' = up2 (va_up (nsLend V t cc hh d pl) 13 f) 21 0 (t + 1)) n m (t + 1) w → post (some (.int (iI (t : Int)))) w) (h1 : 4 ≤ mc) (h2 : 240 ≤ ms) : Z κ 8 G base mc ms post exc 2 12 132 [(6, .ref (g 2 hh)), (5, .ref (g 0 cc)), (0, .ref (g 6 0)), (3, .int (iI d)), (4, .int (iI pl))] [] (pw G X L K I F R N O) := by
  have hn := hw.2.1
  refine z_aload_n C 2 rfl rfl dX5_lend_132 (rfl : 132 + 1 = 133) ?_
  refine z_get C (pwm_MC h.1.x11.1 h.1.x11.2.1) rfl iX5_lend_X5 3 (by decide) lX5_lend_f22 rfl rfl dX5_lend_133 (rfl : 133 + 3 = 136) ?_
  rw [h.1.x11.2.2]
  refine z_callV C 2 12 (c_list_size h.1.l3) gX5_lend_Jx4a65c_size_8abf5 rfl hd78_Jx4a65c_size_8abf5 ⟨Nat.le_of_ble_eq_true rfl, Nat.le_of_ble_eq_true rfl⟩ (pwm_AL h.1.l3.1 h.1.l3.2.1) rfl rfl (Nat.le_of_ble_eq_true rfl) dX5_lend_136 (rfl : 136 + 3 = 139) rfl rfl ⟨Nat.le_of_ble_eq_true rfl, Nat.le_of_ble_eq_true rfl⟩ (fun _ _ h => h.elim) ?_ rfl
  rintro _ _ ⟨rfl, rfl⟩
  refine z_v1 ?_
  refine z_istore (lv' := [(7, _), (6, _), (5, _), (0, _), (3, _), (4, _)]) C dX5_lend_139 (rfl : 139 + 2 = 141) (by decide) rfl ?_
  refine z_aload_n C 3 rfl rfl dX5_lend_141 (rfl : 141 + 1 = 142) ?_
  refine z_get C (pwm_MC h.1.x11.1 h.1.x11.2.1) rfl iX5_lend_X5 3 (by decide) lX5_lend_f22 rfl rfl dX5_lend_142 (rfl : 142 + 3 = 145) ?_
  rw [h.1.x11.2.2]
  refine z_new (ci := 5) (fs := [.null, .null, .int 0, .int 0, .int 0, .int 0]) C tyX4 tyX4_ok iX5_lend_X4 lX5_lend_c186 nnX5_lend_X4 niX5_lend_X4 rfl (by decide) (Nat.le_of_ble_eq_true rfl) (Nat.le_of_ble_eq_true rfl) dX5_lend_145 (rfl : 145 + 3 = 148) (fun q hq => ?_)
  refine z_ws (pwn_Loan hq) ?_
  have hqL : q ∉ L := pw_fresh hq
  have nq : ∀ {b}, b ∈ L → b ≠ q := fun hb e => hqL (e ▸ hb)
  refine z_dup C rfl dX5_lend_148 (rfl : 148 + 1 = 149) ?_
  refine z_aload C 2 rfl dX5_lend_149 (rfl : 149 + 2 = 151) ?_
  refine z_aload C 1 rfl dX5_lend_151 (rfl : 151 + 2 = 153) ?_
  refine z_aload_n C 3 rfl rfl dX5_lend_153 (rfl : 153 + 1 = 154) ?_
  refine z_get C (pwm_MC (List.mem_append_left _ h.1.x11.1) ((upne h.1.x11.1 hqL).trans h.1.x11.2.1)) rfl iX5_lend_X5 6 (by decide) lX5_lend_f36 rfl rfl dX5_lend_154 (rfl : 154 + 3 = 157) ?_
  rw [show up2 (up2 (up2 (up2 I 10 q 0) 11 q 0) 12 q 0) 13 q 0 14 (g 6 0) = V 9 0 from h.1.2.2.2.1]
  refine z_iload_n C 4 rfl rfl dX5_lend_157 (rfl : 157 + 1 = 158) ?_
  refine z_iadd C dX5_lend_158 (rfl : 158 + 1 = 159) rfl ?_
  refine z_iload C 5 rfl dX5_lend_159 (rfl : 159 + 2 = 161) ?_
  refine z_callI C 3 18 (c_X4_init (by simp) (va_up_self _ _ _)) gX5_lend_X4_init rfl nX5_lend_X4_init lX5_lend_m188 vX5_lend_X4_init rfl hd78_X4_init ⟨Nat.le_of_ble_eq_true rfl, Nat.le_of_ble_eq_true rfl⟩ rfl (Nat.le_of_ble_eq_true rfl) dX5_lend_161 (rfl : 161 + 3 = 164) rfl rfl ⟨Nat.le_of_ble_eq_true rfl, Nat.le_of_ble_eq_true rfl⟩ (fun _ _ h => h.elim) ?_ rfl
  rintro _ _ ⟨rfl, rfl⟩
  refine z_v0 ?_
  have n3 : ∀ {b c c' : Nat}, b ≠ q → ¬ (c = c' ∧ b = q) := fun n e => n e.2
  have cI : ∀ c b, b ≠ q → up2 (up2 (up2 (up2 (up2 (up2 (up2 (up2 I 10 q 0) 11 q 0) 12 q 0) 13 q 0) 12 q 0) 13 q 0) 10 q (V 9 0 + d)) 11 q pl c b = I c b := fun c b hb => by
    rw [up2_ne _ _ (n3 hb), up2_ne _ _ (n3 hb), up2_ne _ _ (n3 hb), up2_ne _ _ (n3 hb), up2_ne _ _ (n3 hb), up2_ne _ _ (n3 hb), up2_ne _ _ (n3 hb), up2_ne _ _ (n3 hb)]
  have cF : ∀ c b, b ≠ q → up2 (up2 (up2 (up2 F 6 q none) 7 q none) 6 q (some (g 0 cc))) 7 q (some (g 2 hh)) c b = F c b := fun c b hb => by
    rw [up2_ne _ _ (n3 hb), up2_ne _ _ (n3 hb), up2_ne _ _ (n3 hb), up2_ne _ _ (n3 hb)]
  obtain ⟨hl, hty⟩ := LT.mono (HM_one (k1 := 4) (T := T) (R := R) (y1 := 0) hqL cI cF) h.1.2.2.1.2.2.2
  refine z_callV C 4 218 (c_AL_add hl hty (by omega) (.inr (.inr (.inr rfl))) (by simp) (va_up_self _ _ _)) gX5_lend_Jx4a65c_add_9ea2d rfl hd78_Jx4a65c_add_9ea2d ⟨Nat.le_of_ble_eq_true rfl, Nat.le_of_ble_eq_true rfl⟩ (pwm_AL hl.1 hl.2.1) rfl rfl (Nat.le_of_ble_eq_true rfl) dX5_lend_164 (rfl : 164 + 3 = 167) rfl rfl ⟨Nat.le_of_ble_eq_true rfl, Nat.le_of_ble_eq_true rfl⟩ (fun _ _ h => h.elim) ?_ rfl
  rintro _ _ ⟨rfl, ha⟩
  refine z_v1 ?_
  obtain ⟨L1, K1, I1, F1, N1, O1, T1, g1, rfl, hR1, eg, eI⟩ := RP.newN (c := cc) (h := hh) (d := V 9 0 + d) (pl := pl) h.1 hqL (hb t (Nat.le_refl _)) cI cF ⟨by rw [up2_ne _ _ (by omega), up2_at], up2_at _ _ _ _, by rw [up2_ne _ _ (by omega), up2_at], up2_at _ _ _ _, by rw [up2_ne _ _ (by omega), up2_ne _ _ (by omega), up2_ne _ _ (by omega), up2_at]⟩ ha
  have eI2 : I1 2 = I 2 := eI
  have e2 : g1 2 hh = g 2 hh := eg 2 hh (by decide) (by decide)
  have e0 : g1 0 cc = g 0 cc := eg 0 cc (by decide) (by decide)
  have e6 : g1 6 0 = g 6 0 := eg 6 0 (by decide) (by decide)
  rw [← e2, ← e0, ← e6]
  have mH : ∀ {I' : Nat → Nat → Int} {F' : Nat → Nat → Option Nat}, (g1 2 hh, .inr (3, [.int (iI (I' 4 (g1 2 hh))), va_rf (F' 5 (g1 2 hh)), .int (iI (I' 5 (g1 2 hh))), .int (iI (I' 6 (g1 2 hh)))])) ∈ pw G X L1 K1 I' F' R N1 O1 := pwm_House (hR1.g2 hh5).1 (hR1.g2 hh5).2
  refine z_pop C rfl dX5_lend_167 (rfl : 167 + 1 = 168) ?_
  refine z_aload C 1 rfl dX5_lend_168 (rfl : 168 + 2 = 170) ?_
  refine z_dup C rfl dX5_lend_170 (rfl : 170 + 1 = 171) ?_
  refine z_get C mH rfl iX5_lend_X2 2 (by decide) lX5_lend_f179 rfl rfl dX5_lend_171 (rfl : 171 + 3 = 174) ?_
  rw [show I1 5 (g1 2 hh) = V 22 hh from (hR1.2.2.2.2.2.2.2.1 hh hh5).1]
  refine z_iload C 5 rfl dX5_lend_174 (rfl : 174 + 2 = 176) ?_
  refine z_isub C dX5_lend_176 (rfl : 176 + 1 = 177) rfl ?_
  refine z_put C tyX2 tyX2_ok nmX2 mH rfl iX5_lend_X2 2 (by decide) lX5_lend_f179 rfl rfl rfl rfl rfl (Nat.le_of_ble_eq_true rfl) dX5_lend_177 (rfl : 177 + 3 = 180) (pws_House_coins (hR1.g2 hh5).1 (hR1.g2 hh5).2) ?_
  have hR2 := hR1.coins hh5 (by decide) (V 22 hh - pl)
  refine z_aload C 1 rfl dX5_lend_180 (rfl : 180 + 2 = 182) ?_
  refine z_dup C rfl dX5_lend_182 (rfl : 182 + 1 = 183) ?_
  refine z_get C mH rfl iX5_lend_X2 3 (by decide) lX5_lend_f191 rfl rfl dX5_lend_183 (rfl : 183 + 3 = 186) ?_
  rw [show up2 I1 5 (g1 2 hh) (V 22 hh - pl) 6 (g1 2 hh) = V 23 hh from (hR2.2.2.2.2.2.2.2.1 hh hh5).2]
  refine z_iload C 5 rfl dX5_lend_186 (rfl : 186 + 2 = 188) ?_
  refine z_iadd C dX5_lend_188 (rfl : 188 + 1 = 189) rfl ?_
  refine z_put C tyX2 tyX2_ok nmX2 mH rfl iX5_lend_X2 3 (by decide) lX5_lend_f191 rfl rfl rfl rfl rfl (Nat.le_of_ble_eq_true rfl) dX5_lend_189 (rfl : 189 + 3 = 192) (pws_House_laidDown (hR1.g2 hh5).1 (hR1.g2 hh5).2) ?_
  have hR3 := hR2.laid hh5 (by decide) (V 23 hh + pl)
  refine z_aload C 2 rfl dX5_lend_192 (rfl : 192 + 2 = 194) ?_
  refine z_aload C 1 rfl dX5_lend_194 (rfl : 194 + 2 = 196) ?_
  refine z_put C tyX0 tyX0_ok nmX0 (pwm_Copy (hR1.g0 hc).1 (hR1.g0 hc).2) rfl iX5_lend_X0 4 (by decide) lX5_lend_f91 rfl rfl rfl rfl rfl (Nat.le_of_ble_eq_true rfl) dX5_lend_196 (rfl : 196 + 3 = 199) (pws_Copy_house (z := some (g1 2 hh)) (hR1.g0 hc).1 (hR1.g0 hc).2) ?_
  have hR4 := hR3.setHouse (y := hh) (by omega) hc
  refine z_aload C 1 rfl dX5_lend_199 (rfl : 199 + 2 = 201) ?_
  refine z_aload C 2 rfl dX5_lend_201 (rfl : 201 + 2 = 203) ?_
  refine z_get C (pwm_Copy (hR4.g0 hc).1 (hR4.g0 hc).2) rfl iX5_lend_X0 2 (by decide) lX5_lend_f174 rfl rfl dX5_lend_203 (rfl : 203 + 3 = 206) ?_
  rw [((hR4.2.1.2.2.2.1 cc hc).2.2.2.2).trans (show some (g1 2 (V 3 cc).toNat) = some (g1 2 oo) from congrArg (fun z => some (g1 2 z)) (by omega))]
  have v6 : ∀ i, i < 5 → ∀ l, l < 60 → R (g1 3 i) l = V 13 (60 * i + l) := fun i hi l hl => hR4.2.2.2.2.2.2.2.2.1 i hi l hl
  refine z_callV C 4 218 (c_X2_takeLettersOf (hR4.isH hh5) (hR4.isH ho5) (fun k hk => by rw [v6 oo ho5 k hk]; exact hw.2.2.2.2.2.2.2.2.1.1 _ (by omega))) gX5_lend_X2_takeLettersOf rfl hd78_X2_takeLettersOf ⟨Nat.le_of_ble_eq_true rfl, Nat.le_of_ble_eq_true rfl⟩ (pwm_House (hR4.g2 hh5).1 (hR4.g2 hh5).2) rfl rfl (Nat.le_of_ble_eq_true rfl) dX5_lend_206 (rfl : 206 + 3 = 209) rfl rfl ⟨Nat.le_of_ble_eq_true rfl, Nat.le_of_ble_eq_true rfl⟩ (fun _ _ h => h.elim) ?_ rfl
  rintro _ _ ⟨rfl, f, hf, rfl⟩
  refine z_v0 ?_
  refine z_iload C 0 rfl dX5_lend_209 (rfl : 209 + 2 = 211) ?_
  refine z_iret C rfl dX5_lend_211 (kk _ ⟨L1, K1, _, _, _, N1, O1, T1, g1, rfl, e6, fun V' hV' => ?_⟩) (by omega) (by omega)
  obtain ⟨f', hg, rfl⟩ := hV'
  have hR5 := (hR4.rowH (f := f) (f' := f') (j := hh) (by omega) hh5 (fun k hk => by
    rw [hf k hk, v6 oo ho5 k hk, v6 hh hh5 k hk]
    exact gt_row hw hh5 ho5 hg hk) (fun i _ hi2 => hg.2 i (fun k hk => hi2 k (by omega)))).congV (V' := up2 (va_up (nsLend V t cc hh d pl) 13 f') 21 0 (t + 1)) ⟨rfl, fun _ _ => rfl, rfl, fun _ _ => rfl, fun _ _ => ⟨rfl, rfl⟩, fun _ _ _ _ => rfl, fun _ _ => ⟨rfl, rfl, rfl, rfl⟩, fun _ _ _ _ => rfl, fun j hj => ⟨rfl, rfl, rfl⟩, fun _ _ => ⟨rfl, rfl, rfl, rfl, rfl, rfl⟩⟩
  refine ⟨hR5, IsFam.cong (f := fun i => I 2 (g 0 i)) (h.2.congV (V' := up2 (va_up (nsLend V t cc hh d pl) 13 f') 21 0 (t + 1)) (fun i j hi hj => kinV_cong (V := V) (fun _ _ => ⟨rfl, rfl⟩) (fun i hi k hk => rfl) hi hj)) (fun i hi => ?_)⟩
  show I 2 (g 0 i) = I1 2 (g1 0 i)
  rw [eI2, eg 0 i (by decide) (by decide)]
theorem c_X5_lend {cz hz dz pz : Int} (rc : -2147483648 ≤ cz ∧ cz < 2147483648) (rh : -2147483648 ≤ hz ∧ hz < 2147483648) (rd : -2147483648 ≤ dz ∧ dz < 2147483648) (rp : -2147483648 ≤ pz ∧ pz < 2147483648) (h : RX (gde G) L K I F R N O T g V n m t) (hw : WFV V n m t) (hb : WB V t) : MC l yX5_lend wsX5_lend rmX5_lend G base [.ref (g 6 0), .int (iI cz), .int (iI hz), .int (iI dz), .int (iI pz)] (pw G X L K I F R N O) (mxP (((0 ≤ cz ∧ cz < n) ∧ 0 ≤ hz ∧ hz < 5) ∧ ((1 ≤ dz ∧ dz ≤ 100) ∧ 0 ≤ pz ∧ pz ≤ 50) ∧ okLend V t cz hz pz) (t : Int) (MUT G X (g 6 0) (fun V' => ∃ f, gtL V m hz.toNat (V 3 cz.toNat).toNat f ∧ V' = up2 (va_up (nsLend V t cz.toNat hz.toNat dz pz) 13 f) 21 0 (t + 1)) n m (t + 1))) (mxE3 (pw G X L K I F R N O) ((0 ≤ cz ∧ cz < n) ∧ 0 ≤ hz ∧ hz < 5) ((1 ≤ dz ∧ dz ≤ 100) ∧ 0 ≤ pz ∧ pz ≤ 50) (okLend V t cz hz pz)) := by
  refine MC.of (cc := cX5_lend) (by decide) rfl rfl (Nat.le_of_ble_eq_true rfl) ?_
  intro κ C hT hl hnm
  have hn := hw.2.1
  refine z_sub [0, 1, 2, 3, 4] (lv' := [(0, .ref (g 6 0)), (1, .int (iI cz)), (2, .int (iI hz)), (3, .int (iI dz)), (4, .int (iI pz))]) rfl ?_
  refine z_aload_n C 0 rfl rfl dX5_lend_0 (rfl : 0 + 1 = 1) ?_
  refine z_iload_n C 1 rfl rfl dX5_lend_1 (rfl : 1 + 1 = 2) ?_
  refine z_callV C 1 6 (c_X5_findCopy (rA := g 1) rc h.1.x9 h.1.l1 (by omega) (fun i hi => h.1.isC hi)) gX5_lend_X5_findCopy rfl hd78_X5_findCopy ⟨Nat.le_of_ble_eq_true rfl, Nat.le_of_ble_eq_true rfl⟩ (pwm_MC h.1.x8.1 h.1.x8.2.1) rfl rfl (Nat.le_of_ble_eq_true rfl) dX5_lend_2 (rfl : 2 + 3 = 5) rfl rfl ⟨Nat.le_of_ble_eq_true rfl, Nat.le_of_ble_eq_true rfl⟩ (fun E w h => z_out C hT ⟨h.2.1, .inl ⟨h.1, fun q => h.2.2 q.1⟩⟩ (by decide) (by decide)) ?_ rfl
  rintro _ _ ⟨rfl, cc, rfl, hc, rfl⟩
  refine z_v1 ?_
  refine z_astore (lv' := [(5, _), (0, _), (1, _), (2, _), (3, _), (4, _)]) C dX5_lend_5 (rfl : 5 + 2 = 7) (by decide) rfl ?_
  refine z_aload_n C 1 rfl rfl dX5_lend_7 (rfl : 7 + 1 = 8) ?_
  refine z_iload_n C 3 rfl rfl dX5_lend_8 (rfl : 8 + 1 = 9) ?_
  refine z_callV C 2 12 (c_X5_findHouse (heA := g 3) rh h.1.x8 h.1.l0 (fun i hi => h.1.isH hi)) gX5_lend_X5_findHouse rfl hd78_X5_findHouse ⟨Nat.le_of_ble_eq_true rfl, Nat.le_of_ble_eq_true rfl⟩ (pwm_MC h.1.x8.1 h.1.x8.2.1) rfl rfl (Nat.le_of_ble_eq_true rfl) dX5_lend_9 (rfl : 9 + 3 = 12) rfl rfl ⟨Nat.le_of_ble_eq_true rfl, Nat.le_of_ble_eq_true rfl⟩ (fun E w h => z_out C hT ⟨h.2.1, .inl ⟨h.1, fun q => h.2.2 q.2⟩⟩ (by decide) (by decide)) ?_ rfl
  rintro _ _ ⟨rfl, hh, rfl, hh5, rfl⟩
  refine z_v1 ?_
  have all : (0 ≤ (cc : Int) ∧ (cc : Int) < n) ∧ 0 ≤ (hh : Int) ∧ (hh : Int) < 5 := by omega
  refine z_astore (lv' := [(6, _), (5, _), (0, _), (1, _), (2, _), (3, _), (4, _)]) C dX5_lend_12 (rfl : 12 + 2 = 14) (by decide) rfl ?_
  refine z_iload_n C 5 rfl rfl dX5_lend_14 (rfl : 14 + 1 = 15) ?_
  refine z_iconst C dX5_lend_15 (rfl : 15 + 1 = 16) ?_
  refine z_icmp_lt (pt := 25) C dX5_lend_16 (by decide) (rfl : 16 + 3 = 19) (iI_lt (by omega) (by omega)).1 (fun q => mt (iI_lt (by omega) (by omega)).2 q) (fun c1 => ?_) (fun c1 => ?_)
  · exact z_throw C hT rfl lX5_lend_c57 nX5_lend_IAE (List.mem_of_getElem? (i := 15) rfl) tX5_lend_IAE thN_IAE thG_IAE dX5_lend_25 dX5_lend_28 dX5_lend_29 dX5_lend_31 dX5_lend_34 (by decide) (Nat.le_of_ble_eq_true rfl) (by decide) (by decide) (by decide) (by decide) ⟨rfl, .inr (.inl ⟨rfl, all, by omega⟩)⟩
  refine z_iload_n C 5 rfl rfl dX5_lend_19 (rfl : 19 + 1 = 20) ?_
  refine z_bipush (c := 100) C (by decide) dX5_lend_20 (rfl : 20 + 2 = 22) ?_
  refine z_icmp_le (pt := 35) C dX5_lend_22 (by decide) (rfl : 22 + 3 = 25) (iI_le (by omega) (by omega)).1 (fun q => mt (iI_le (by omega) (by omega)).2 q) (fun c2 => ?_) (fun c2 => ?_)
  rotate_left
  · exact z_throw C hT rfl lX5_lend_c57 nX5_lend_IAE (List.mem_of_getElem? (i := 15) rfl) tX5_lend_IAE thN_IAE thG_IAE dX5_lend_25 dX5_lend_28 dX5_lend_29 dX5_lend_31 dX5_lend_34 (by decide) (Nat.le_of_ble_eq_true rfl) (by decide) (by decide) (by decide) (by decide) ⟨rfl, .inr (.inl ⟨rfl, all, by omega⟩)⟩
  refine z_iload C 6 rfl dX5_lend_35 (rfl : 35 + 2 = 37) ?_
  refine z_if_lt (pt := 47) C dX5_lend_37 (by decide) (rfl : 37 + 3 = 40) (iI_lt0 (by omega)).1 (fun q => mt (iI_lt0 (by omega)).2 q) (fun c3 => ?_) (fun c3 => ?_)
  · exact z_throw C hT rfl lX5_lend_c57 nX5_lend_IAE (List.mem_of_getElem? (i := 16) rfl) tX5_lend_IAE thN_IAE thG_IAE dX5_lend_47 dX5_lend_50 dX5_lend_51 dX5_lend_53 dX5_lend_56 (by decide) (Nat.le_of_ble_eq_true rfl) (by decide) (by decide) (by decide) (by decide) ⟨rfl, .inr (.inl ⟨rfl, all, by omega⟩)⟩
  refine z_iload C 6 rfl dX5_lend_40 (rfl : 40 + 2 = 42) ?_
  refine z_bipush (c := 50) C (by decide) dX5_lend_42 (rfl : 42 + 2 = 44) ?_
  refine z_icmp_le (pt := 57) C dX5_lend_44 (by decide) (rfl : 44 + 3 = 47) (iI_le (by omega) (by omega)).1 (fun q => mt (iI_le (by omega) (by omega)).2 q) (fun c4 => ?_) (fun c4 => ?_)
  rotate_left
  · exact z_throw C hT rfl lX5_lend_c57 nX5_lend_IAE (List.mem_of_getElem? (i := 16) rfl) tX5_lend_IAE thN_IAE thG_IAE dX5_lend_47 dX5_lend_50 dX5_lend_51 dX5_lend_53 dX5_lend_56 (by decide) (Nat.le_of_ble_eq_true rfl) (by decide) (by decide) (by decide) (by decide) ⟨rfl, .inr (.inl ⟨rfl, all, by omega⟩)⟩
  have dd : (1 ≤ dz ∧ dz ≤ 100) ∧ 0 ≤ pz ∧ pz ≤ 50 := by omega
  have hk := hw.2.2.2.2.2.1 cc hc
  have mC := pwm_Copy (G := G) (X := X) (I := I) (F := F) (R := R) (N := N) (O := O) (h.1.g0 hc).1 (h.1.g0 hc).2
  have q1 := some_acmp (x := V 3 cc) (y := (hh : Int)) h.1 (by decide) (by omega) (by omega)
  have q2 := some_acmp (x := V 4 cc) (y := V 3 cc) h.1 (by decide) (by omega) (by omega)
  refine z_aload C 1 rfl dX5_lend_57 (rfl : 57 + 2 = 59) ?_
  refine z_get C mC rfl iX5_lend_X0 2 (by decide) lX5_lend_f174 rfl rfl dX5_lend_59 (rfl : 59 + 3 = 62) ?_
  rw [(h.1.2.1.2.2.2.1 cc hc).2.2.2.2]
  refine z_aload C 0 rfl dX5_lend_62 (rfl : 62 + 2 = 64) ?_
  refine z_acmp_eq (pt := 80) C (some (g 2 (V 3 cc).toNat)) (some (g 2 hh)) dX5_lend_64 (by decide) (rfl : 64 + 3 = 67) (fun c5 => ?_) (fun c5 => ?_)
  · exact z_throw C hT rfl lX5_lend_c68 nX5_lend_ISE (List.mem_of_getElem? (i := 17) rfl) tX5_lend_ISE thN_ISE thG_ISE dX5_lend_80 dX5_lend_83 dX5_lend_84 dX5_lend_86 dX5_lend_89 (by decide) (Nat.le_of_ble_eq_true rfl) (by decide) (by decide) (by decide) (by decide) ⟨rfl, .inr (.inr ⟨rfl, all, dd, fun o => o.1 (q1.mp c5)⟩)⟩
  refine z_aload C 1 rfl dX5_lend_67 (rfl : 67 + 2 = 69) ?_
  refine z_get C mC rfl iX5_lend_X0 4 (by decide) lX5_lend_f91 rfl rfl dX5_lend_69 (rfl : 69 + 3 = 72) ?_
  rw [h.1.house hc]
  refine z_aload C 1 rfl dX5_lend_72 (rfl : 72 + 2 = 74) ?_
  refine z_get C mC rfl iX5_lend_X0 2 (by decide) lX5_lend_f174 rfl rfl dX5_lend_74 (rfl : 74 + 3 = 77) ?_
  rw [(h.1.2.1.2.2.2.1 cc hc).2.2.2.2]
  refine z_acmp_eq (pt := 90) C (some (g 2 (V 4 cc).toNat)) (some (g 2 (V 3 cc).toNat)) dX5_lend_77 (by decide) (rfl : 77 + 3 = 80) (fun c6 => ?_) (fun c6 => ?_)
  rotate_left
  · exact z_throw C hT rfl lX5_lend_c68 nX5_lend_ISE (List.mem_of_getElem? (i := 17) rfl) tX5_lend_ISE thN_ISE thG_ISE dX5_lend_80 dX5_lend_83 dX5_lend_84 dX5_lend_86 dX5_lend_89 (by decide) (Nat.le_of_ble_eq_true rfl) (by decide) (by decide) (by decide) (by decide) ⟨rfl, .inr (.inr ⟨rfl, all, dd, fun o => c6 (q2.mpr o.2.1)⟩)⟩
  refine z_aload C 0 rfl dX5_lend_90 (rfl : 90 + 2 = 92) ?_
  refine z_get C (pwm_House (h.1.g2 hh5).1 (h.1.g2 hh5).2) rfl iX5_lend_X2 2 (by decide) lX5_lend_f179 rfl rfl dX5_lend_92 (rfl : 92 + 3 = 95) ?_
  rw [(h.1.2.2.2.2.2.2.2.1 hh hh5).1]
  refine z_iload C 6 rfl dX5_lend_95 (rfl : 95 + 2 = 97) ?_
  refine z_icmp_ge (pt := 110) C dX5_lend_97 (by decide) (rfl : 97 + 3 = 100) (Iff.rfl).1 (fun q => mt (Iff.rfl).2 q) (fun c7 => ?_) (fun c7 => ?_)
  rotate_left
  · exact z_throw C hT rfl lX5_lend_c68 nX5_lend_ISE (List.mem_of_getElem? (i := 18) rfl) tX5_lend_ISE thN_ISE thG_ISE dX5_lend_100 dX5_lend_103 dX5_lend_104 dX5_lend_106 dX5_lend_109 (by decide) (Nat.le_of_ble_eq_true rfl) (by decide) (by decide) (by decide) (by decide) ⟨rfl, .inr (.inr ⟨rfl, all, dd, fun o => c7 (i32_nlt.mp o.2.2.1)⟩)⟩
  refine z_aload_n C 2 rfl rfl dX5_lend_110 (rfl : 110 + 1 = 111) ?_
  refine z_get C (pwm_MC h.1.x11.1 h.1.x11.2.1) rfl iX5_lend_X5 3 (by decide) lX5_lend_f22 rfl rfl dX5_lend_111 (rfl : 111 + 3 = 114) ?_
  rw [h.1.x11.2.2]
  refine z_callV C 2 12 (c_list_size h.1.l3) gX5_lend_Jx4a65c_size_8abf5 rfl hd78_Jx4a65c_size_8abf5 ⟨Nat.le_of_ble_eq_true rfl, Nat.le_of_ble_eq_true rfl⟩ (pwm_AL h.1.l3.1 h.1.l3.2.1) rfl rfl (Nat.le_of_ble_eq_true rfl) dX5_lend_114 (rfl : 114 + 3 = 117) rfl rfl ⟨Nat.le_of_ble_eq_true rfl, Nat.le_of_ble_eq_true rfl⟩ (fun _ _ h => h.elim) ?_ rfl
  rintro _ _ ⟨rfl, rfl⟩
  refine z_v1 ?_
  refine z_bipush (c := 40) C (by decide) dX5_lend_117 (rfl : 117 + 2 = 119) ?_
  refine z_icmp_lt (pt := 132) C dX5_lend_119 (by decide) (rfl : 119 + 3 = 122) (iI_lt (by omega) (by omega)).1 (fun q => mt (iI_lt (by omega) (by omega)).2 q) (fun c8 => ?_) (fun c8 => ?_)
  rotate_left
  · exact z_throw C hT rfl lX5_lend_c68 nX5_lend_ISE (List.mem_of_getElem? (i := 19) rfl) tX5_lend_ISE thN_ISE thG_ISE dX5_lend_122 dX5_lend_125 dX5_lend_126 dX5_lend_128 dX5_lend_131 (by decide) (Nat.le_of_ble_eq_true rfl) (by decide) (by decide) (by decide) (by decide) ⟨rfl, .inr (.inr ⟨rfl, all, dd, fun o => by have := o.2.2.2; omega⟩)⟩
  have ht : t < 40 := by omega
  refine z_sub [0, 1, 2, 5, 6] (lv' := [(6, .ref (g 2 hh)), (5, .ref (g 0 cc)), (0, .ref (g 6 0)), (3, .int (iI dz)), (4, .int (iI pz))]) rfl ?_
  exact tl_X5_lend (oo := (V 3 cc).toNat) C hh5 hc (by omega) (by omega) ht h hw hb (fun w hm => ⟨⟨all, dd, fun e => c5 (q1.mpr e), q2.mp c6, i32_nlt.mpr c7, ht⟩, rfl, hm⟩) (by decide) (by decide)
end
