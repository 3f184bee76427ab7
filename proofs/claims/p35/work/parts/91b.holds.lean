theorem hd91_L_areLoans : yL_areLoans.cls ≠ "java/lang/invoke/MethodHandle" ∧ yL_areLoans.cls ≠ "java/lang/invoke/VarHandle" ∧ (parseMethodDescriptor yL_areLoans.desc).map (fun d => d.parameters.length) = some 8 := by decide +kernel
theorem hd91_L_areCopies : yL_areCopies.cls ≠ "java/lang/invoke/MethodHandle" ∧ yL_areCopies.cls ≠ "java/lang/invoke/VarHandle" ∧ (parseMethodDescriptor yL_areCopies.desc).map (fun d => d.parameters.length) = some 5 := by decide +kernel
theorem lL_holds_k185 : Cond.constant RL 185 10000000 ∈ wsL_holds := by decide +kernel
theorem hd91_L_from : yL_from.cls ≠ "java/lang/invoke/MethodHandle" ∧ yL_from.cls ≠ "java/lang/invoke/VarHandle" ∧ (parseMethodDescriptor yL_from.desc).map (fun d => d.parameters.length) = some 3 := by decide +kernel
theorem hd91_L_acts : yL_acts.cls ≠ "java/lang/invoke/MethodHandle" ∧ yL_acts.cls ≠ "java/lang/invoke/VarHandle" ∧ (parseMethodDescriptor yL_acts.desc).map (fun d => d.parameters.length) = some 12 := by decide +kernel
theorem iL_holds_X5 : ∀ w ∈ wsX50, w ∈ wsL_holds := by decide +kernel
theorem lL_holds_c28 : Cond.classLink RL 28 "ModelCopies" ∈ wsL_holds := by decide +kernel
theorem nnL_holds_X5 : Cond.instantiable "ModelCopies" 7 ∈ wsL_holds := by decide +kernel
theorem niL_holds_X5 : Cond.initialized "ModelCopies" ∈ wsL_holds := by decide +kernel
theorem hd91_X5_init : yX5_init.cls ≠ "java/lang/invoke/MethodHandle" ∧ yX5_init.cls ≠ "java/lang/invoke/VarHandle" ∧ (parseMethodDescriptor yX5_init.desc).map (fun d => d.parameters.length) = some 0 := by decide +kernel
theorem lL_holds_m184 : Cond.methodLink RL 184 yX5_init ∈ wsL_holds := by decide +kernel
theorem nL_holds_X5_init : Cond.initialized yX5_init.cls ∈ wsL_holds := by decide +kernel
theorem vL_holds_X5_init : Cond.instanceMethod yX5_init ∈ wsL_holds := by decide +kernel
theorem hd91_L_holds : yL_holds.cls ≠ "java/lang/invoke/MethodHandle" ∧ yL_holds.cls ≠ "java/lang/invoke/VarHandle" ∧ (parseMethodDescriptor yL_holds.desc).map (fun d => d.parameters.length) = some 1 := by decide +kernel
/-! the law's loop, and its start -/
theorem wfv0 : WFV V0 1 0 0 := by
  refine ⟨⟨rfl, rfl, rfl⟩, ⟨⟨by decide, by decide⟩, by decide, by decide⟩, fun j _ => ?_, ⟨rfl, fun i h1 h2 => by omega⟩, ⟨rfl, fun i _ => .inl rfl⟩, fun i _ => ?_, fun k hk => ?_, fun j hj => absurd hj (Nat.not_lt_zero j), ⟨fun j _ => .inl rfl, fun _ _ _ _ _ => rfl⟩, fun j hj => absurd hj (Nat.not_lt_zero j), fun j _ => .inl rfl, ?_⟩
  · show 0 ≤ (0 : Int) ∧ (0 : Int) ≤ 9
    decide
  · show (0 ≤ (0 : Int) ∧ (0 : Int) < 5) ∧ 0 ≤ (0 : Int) ∧ (0 : Int) < 5
    decide
  · show -1 ≤ (if k < 24 then (-1 : Int) else 0) ∧ (if k < 24 then (-1 : Int) else 0) ≤ 9
    rw [if_pos hk]
    decide
  · show 0 ≤ (0 : Int) ∧ (0 : Int) ≤ 2000
    decide
theorem linv0 : LInv V0 1 0 0 := by
  refine ⟨wfv0, fun j _ => rfl, ⟨by decide, by decide, by decide⟩, fun i _ p _ _ => rfl, fun p hp _ => ?_, fun j hj => absurd hj (Nat.not_lt_zero j)⟩
  show (if p < 24 then (-1 : Int) else 0) = -1
  rw [if_pos hp]
/-- the law's rows at their start -/
def B0 : Nat → Nat → Int64 := fun _ _ => 0
def A0 : Nat → Nat → Int := fun _ _ => 0
def A1s : Nat → Nat → Int := up2 (up2 A0 1 0 (-1)) 8 0 1
def St0 (i : Nat) (a2 a6 : Nat → Int) : Prop := (∀ k, k < i → a2 k = -1) ∧ (∀ h, h < 5 → h < i → a6 h = 100) ∧ ∀ j, 5 ≤ j → a6 j = 0
theorem cq_2 (A : Nat → Nat → Int) (a2 a6 : Nat → Int) (i : Nat) (v : Int) : up2 (va_up (va_up A 2 a2) 6 a6) 2 i v = va_up (va_up A 2 (va_up a2 i v)) 6 a6 := by
  funext c
  by_cases h2 : c = 2
  · subst h2; simp [up2, va_up]
  · by_cases h7 : c = 6
    · subst h7; simp [up2, va_up]
    · simp [up2, va_up, h2, h7]
theorem cq_6 (A : Nat → Nat → Int) (a2 a6 : Nat → Int) (i : Nat) (v : Int) : up2 (va_up (va_up A 2 a2) 6 a6) 6 i v = va_up (va_up A 2 a2) 6 (va_up a6 i v) := by
  rw [up2_row, va_up_self, up_up]
theorem St0.step {i : Nat} {a2 a6 : Nat → Int} (h : St0 i a2 a6) : St0 (i + 1) (va_up a2 i (-1)) (va_up a6 (i % 5) 100) := by
  obtain ⟨h1, h2, h3⟩ := h
  refine ⟨fun k hk => ?_, fun y hy hyi => ?_, fun j hj => ?_⟩
  · by_cases e : k = i
    · subst e; rw [va_up_self]
    · rw [va_up_ne _ _ e]; exact h1 k (by omega)
  · by_cases e : y = i % 5
    · subst e; rw [va_up_self]
    · rw [va_up_ne _ _ e]; exact h2 y hy (by omega)
  · rw [va_up_ne _ _ (by omega)]; exact h3 j hj
theorem lwr0 {a2 a6 : Nat → Int} (h : St0 12 a2 a6) : LWr V0 1 0 0 B0 (va_up (va_up A1s 2 a2) 6 a6) := by
  obtain ⟨h1, h2, h3⟩ := h
  refine ⟨⟨rfl, rfl, rfl, rfl, rfl⟩, fun i hi k hk => ?_, fun i hi => ?_, fun k hk => ?_, fun j hj => absurd hj (Nat.not_lt_zero j), fun y hy j hj => ?_, fun j hj => absurd hj (Nat.not_lt_zero j), fun y hy => ?_, fun s hs => rfl⟩
  · exact nibt_0 k hk
  · have e : i = 0 := by omega
    subst e
    exact ⟨rfl, rfl, rfl, rfl⟩
  · show a2 k = (if plc k < 24 then (-1 : Int) else 0)
    rw [if_pos (plc_lt hk)]
    exact h1 k hk
  · show lbt 0 j = true ↔ (0 : Int) = 1
    rw [lbt_0 j (by omega)]
    simp
  · show a6 y = (if y < 5 then (100 : Int) else 0) ∧ a6 (5 + y) = 0
    rw [if_pos hy]
    exact ⟨h2 y hy (by omega), h3 _ (by omega)⟩
theorem hd91_L_isHeld : yL_isHeld.cls ≠ "java/lang/invoke/MethodHandle" ∧ yL_isHeld.cls ≠ "java/lang/invoke/VarHandle" ∧ (parseMethodDescriptor yL_isHeld.desc).map (fun d => d.parameters.length) = some 1 := by decide +kernel
section
variable {κ : KxT} {G : GG} {base mc ms b Ln : Nat} {xs : Nat → Int32} {post : Option Value → va_W → Prop} {exc : String → va_W → Prop} {l : Launch} {q : Nat → Nat} {x : Nat} {D : Int}
abbrev rmL_holds : Room := { frames := 11, cells := 50000, slots := 330000, locals := 480 }
theorem tl_L_after (C : Cx κ cL_holds 14 wsL_holds RL (some .boolean) rmL_holds G base) {z : Int} {i ce sl : Nat} (hz : 0 ≤ z ∧ z < 20000000) (hi : i < 120) (hce : ce ≤ 49000) (hsl : sl ≤ 320000) {w : va_W} (hw : INV5 G q x D w)
    (kk : Z κ 14 G base mc ms post exc (ce + 370) (sl + 2200) 104 [(12, .int (iI ((i + 1 : Nat) : Int))), (11, .int (iI 1)), (0, .ref b), (1, .ref x), (2, .ref (q 0)), (3, .ref (q 1)), (4, .ref (q 2)), (5, .ref (q 3)), (6, .ref (q 4)), (7, .ref (q 5)), (8, .ref (q 6)), (9, .ref (q 7)), (10, .ref (q 8))] [] w) : Z κ 14 G base mc ms post exc ce sl 182 [(13, .int (iI z)), (12, .int (iI (i : Int))), (11, .int (iI 1)), (0, .ref b), (1, .ref x), (2, .ref (q 0)), (3, .ref (q 1)), (4, .ref (q 2)), (5, .ref (q 3)), (6, .ref (q 4)), (7, .ref (q 5)), (8, .ref (q 6)), (9, .ref (q 7)), (10, .ref (q 8))] [.int (iI 1)] w := by
  obtain ⟨V, n, m, t, B, A, L, K, I, F, R, N, O, T, g, rfl, rfl, h, hI, hW, hD⟩ := hw
  have k237 : Z κ 14 G base mc ms post exc (ce + 370) (sl + 2200) 237 [(13, .int (iI z)), (12, .int (iI (i : Int))), (11, .int (iI 1)), (0, .ref b), (1, .ref (g 6 0)), (2, .ref (q 0)), (3, .ref (q 1)), (4, .ref (q 2)), (5, .ref (q 3)), (6, .ref (q 4)), (7, .ref (q 5)), (8, .ref (q 6)), (9, .ref (q 7)), (10, .ref (q 8))] [] (pw G (lwW G q B A) L K I F R N O) := by
    refine z_iconst C dL_holds_237 (rfl : 237 + 1 = 238) ?_
    refine z_goto (pc' := 242) C dL_holds_238 (by decide) ?_
    refine z_istore (lv' := [(11, _), (13, _), (12, _), (0, _), (1, _), (2, _), (3, _), (4, _), (5, _), (6, _), (7, _), (8, _), (9, _), (10, _)]) C dL_holds_242 (rfl : 242 + 2 = 244) (by decide) rfl ?_
    refine z_iinc (lv' := [(12, _), (11, _), (13, _), (0, _), (1, _), (2, _), (3, _), (4, _), (5, _), (6, _), (7, _), (8, _), (9, _), (10, _)]) C 2 dL_holds_244 (rfl : 244 + 3 = 247) rfl rfl (by decide) rfl ?_
    refine z_goto (pc' := 104) C dL_holds_247 (by decide) ?_
    exact z_sub [0, 1, 3, 4, 5, 6, 7, 8, 9, 10, 11, 12, 13] rfl kk
  have k208 : Z κ 14 G base mc ms post exc (ce + 200) (sl + 1200) 208 [(13, .int (iI z)), (12, .int (iI (i : Int))), (11, .int (iI 1)), (0, .ref b), (1, .ref (g 6 0)), (2, .ref (q 0)), (3, .ref (q 1)), (4, .ref (q 2)), (5, .ref (q 3)), (6, .ref (q 4)), (7, .ref (q 5)), (8, .ref (q 6)), (9, .ref (q 7)), (10, .ref (q 8))] [] (pw G (lwW G q B A) L K I F R N O) := by
    refine z_iload C 1 rfl dL_holds_208 (rfl : 208 + 2 = 210) ?_
    refine z_iconst C dL_holds_210 (rfl : 210 + 1 = 211) ?_
    refine z_irem C ⟨by omega, by omega⟩ ⟨by omega, by omega⟩ rfl dL_holds_211 (rfl : 211 + 1 = 212) ?_
    refine z_iconst C dL_holds_212 (rfl : 212 + 1 = 213) ?_
    refine z_icmp_lt (pt := 237) C dL_holds_213 (by decide) (rfl : 213 + 3 = 216) (iI_lt (by omega) (by omega)).1 (fun q => mt (iI_lt (by omega) (by omega)).2 q) (fun c1 => ?_) (fun c1 => ?_)
    · exact z_widen (by omega) (by omega) k237
    refine z_aload_n C 4 rfl rfl dL_holds_216 (rfl : 216 + 1 = 217) ?_
    refine z_aload C 8 rfl dL_holds_217 (rfl : 217 + 2 = 219) ?_
    refine z_aload C 9 rfl dL_holds_219 (rfl : 219 + 2 = 221) ?_
    refine z_aload C 10 rfl dL_holds_221 (rfl : 221 + 2 = 223) ?_
    refine z_aload C 11 rfl dL_holds_223 (rfl : 223 + 2 = 225) ?_
    refine z_aload C 12 rfl dL_holds_225 (rfl : 225 + 2 = 227) ?_
    refine z_aload C 13 rfl dL_holds_227 (rfl : 227 + 2 = 229) ?_
    refine z_iload C 0 rfl dL_holds_229 (rfl : 229 + 2 = 231) ?_
    refine z_callS C (ce + 200 + 170) (sl + 1200 + 1000) (c_L_areLoans (z := z) hz h hI hW) gL_holds_L_areLoans rfl hd91_L_areLoans ⟨Nat.le_of_ble_eq_true rfl, Nat.le_of_ble_eq_true rfl⟩ rfl (Nat.le_of_ble_eq_true rfl) dL_holds_231 (rfl : 231 + 3 = 234) rfl rfl ⟨by show ce + 200 + 170 ≤ 50000; omega, by show sl + 1200 + 1000 ≤ 330000; omega⟩ (fun _ _ h => h.elim) ?_ rfl
    rintro _ _ ⟨rfl, rfl⟩
    refine z_v1 ?_
    refine z_if_eq (pt := 241) C dL_holds_234 (by decide) (rfl : 234 + 3 = 237) (iI_eq0 (by decide)).1 (fun q => mt (iI_eq0 (by decide)).2 q) (fun c2 => ?_) (fun c2 => ?_)
    · exact absurd c2 (by decide)
    exact k237
  refine z_if_eq (pt := 241) C dL_holds_182 (by decide) (rfl : 182 + 3 = 185) (iI_eq0 (by decide)).1 (fun q => mt (iI_eq0 (by decide)).2 q) (fun c1 => ?_) (fun c1 => ?_)
  · exact absurd c1 (by decide)
  refine z_iload C 1 rfl dL_holds_185 (rfl : 185 + 2 = 187) ?_
  refine z_bipush (c := 8) C (by decide) dL_holds_187 (rfl : 187 + 2 = 189) ?_
  refine z_irem C ⟨by omega, by omega⟩ ⟨by omega, by omega⟩ rfl dL_holds_189 (rfl : 189 + 1 = 190) ?_
  refine z_bipush (c := 7) C (by decide) dL_holds_190 (rfl : 190 + 2 = 192) ?_
  refine z_icmp_lt (pt := 208) C dL_holds_192 (by decide) (rfl : 192 + 3 = 195) (iI_lt (by omega) (by omega)).1 (fun q => mt (iI_lt (by omega) (by omega)).2 q) (fun c2 => ?_) (fun c2 => ?_)
  · exact z_widen (by omega) (by omega) k208
  refine z_aload_n C 4 rfl rfl dL_holds_195 (rfl : 195 + 1 = 196) ?_
  refine z_aload_n C 5 rfl rfl dL_holds_196 (rfl : 196 + 1 = 197) ?_
  refine z_aload_n C 6 rfl rfl dL_holds_197 (rfl : 197 + 1 = 198) ?_
  refine z_aload C 13 rfl dL_holds_198 (rfl : 198 + 2 = 200) ?_
  refine z_iload C 0 rfl dL_holds_200 (rfl : 200 + 2 = 202) ?_
  refine z_callS C (ce + 200) (sl + 1200) (c_L_areCopies (z := z) hz h hI hW) gL_holds_L_areCopies rfl hd91_L_areCopies ⟨Nat.le_of_ble_eq_true rfl, Nat.le_of_ble_eq_true rfl⟩ rfl (Nat.le_of_ble_eq_true rfl) dL_holds_202 (rfl : 202 + 3 = 205) rfl rfl ⟨by show ce + 200 ≤ 50000; omega, by show sl + 1200 ≤ 330000; omega⟩ (fun _ _ h => h.elim) ?_ rfl
  rintro _ _ ⟨rfl, rfl⟩
  refine z_v1 ?_
  refine z_if_eq (pt := 241) C dL_holds_205 (by decide) (rfl : 205 + 3 = 208) (iI_eq0 (by decide)).1 (fun q => mt (iI_eq0 (by decide)).2 q) (fun c3 => ?_) (fun c3 => ?_)
  · exact absurd c3 (by decide)
  exact k208
theorem tl_L_fin (C : Cx κ cL_holds 14 wsL_holds RL (some .boolean) rmL_holds G base) {i : Int} {ce sl : Nat} (hce : ce ≤ 49000) (hsl : sl ≤ 320000) {w : va_W} (hw : INV5 G q x D w) (hq : ∀ w, post (some (.int (iI 1))) w) (hmc : mc = 50000) (hms : ms = 330000) : Z κ 14 G base mc ms post exc ce sl 250 [(12, .int (iI i)), (11, .int (iI 1)), (0, .ref b), (1, .ref x), (2, .ref (q 0)), (3, .ref (q 1)), (4, .ref (q 2)), (5, .ref (q 3)), (6, .ref (q 4)), (7, .ref (q 5)), (8, .ref (q 6)), (9, .ref (q 7)), (10, .ref (q 8))] [] w := by
  obtain ⟨V, n, m, t, B, A, L, K, I, F, R, N, O, T, g, rfl, rfl, h, hI, hW, hD⟩ := hw
  refine z_iload C 1 rfl dL_holds_250 (rfl : 250 + 2 = 252) ?_
  refine z_if_eq (pt := 291) C dL_holds_252 (by decide) (rfl : 252 + 3 = 255) (iI_eq0 (by decide)).1 (fun q => mt (iI_eq0 (by decide)).2 q) (fun c1 => ?_) (fun c1 => ?_)
  · exact absurd c1 (by decide)
  refine z_aload_n C 3 rfl rfl dL_holds_255 (rfl : 255 + 1 = 256) ?_
  refine z_aload_n C 4 rfl rfl dL_holds_256 (rfl : 256 + 1 = 257) ?_
  refine z_aload_n C 5 rfl rfl dL_holds_257 (rfl : 257 + 1 = 258) ?_
  refine z_aload C 12 rfl dL_holds_258 (rfl : 258 + 2 = 260) ?_
  refine z_iconst C dL_holds_260 (rfl : 260 + 1 = 261) ?_
  refine z_callS C (ce + 200) (sl + 1200) (c_L_areCopies (z := 3) (by decide) h hI hW) gL_holds_L_areCopies rfl hd91_L_areCopies ⟨Nat.le_of_ble_eq_true rfl, Nat.le_of_ble_eq_true rfl⟩ rfl (Nat.le_of_ble_eq_true rfl) dL_holds_261 (rfl : 261 + 3 = 264) rfl rfl ⟨by show ce + 200 ≤ 50000; omega, by show sl + 1200 ≤ 330000; omega⟩ (fun _ _ h => h.elim) ?_ rfl
  rintro _ _ ⟨rfl, rfl⟩
  refine z_v1 ?_
  refine z_if_eq (pt := 291) C dL_holds_264 (by decide) (rfl : 264 + 3 = 267) (iI_eq0 (by decide)).1 (fun q => mt (iI_eq0 (by decide)).2 q) (fun c3 => ?_) (fun c3 => ?_)
  · exact absurd c3 (by decide)
  refine z_aload_n C 3 rfl rfl dL_holds_267 (rfl : 267 + 1 = 268) ?_
  refine z_aload C 7 rfl dL_holds_268 (rfl : 268 + 2 = 270) ?_
  refine z_aload C 8 rfl dL_holds_270 (rfl : 270 + 2 = 272) ?_
  refine z_aload C 9 rfl dL_holds_272 (rfl : 272 + 2 = 274) ?_
  refine z_aload C 10 rfl dL_holds_274 (rfl : 274 + 2 = 276) ?_
  refine z_aload C 11 rfl dL_holds_276 (rfl : 276 + 2 = 278) ?_
  refine z_aload C 12 rfl dL_holds_278 (rfl : 278 + 2 = 280) ?_
  refine z_iconst C dL_holds_280 (rfl : 280 + 1 = 281) ?_
  refine z_callS C (ce + 200 + 170) (sl + 1200 + 1000) (c_L_areLoans (z := 2) (by decide) h hI hW) gL_holds_L_areLoans rfl hd91_L_areLoans ⟨Nat.le_of_ble_eq_true rfl, Nat.le_of_ble_eq_true rfl⟩ rfl (Nat.le_of_ble_eq_true rfl) dL_holds_281 (rfl : 281 + 3 = 284) rfl rfl ⟨by show ce + 200 + 170 ≤ 50000; omega, by show sl + 1200 + 1000 ≤ 330000; omega⟩ (fun _ _ h => h.elim) ?_ rfl
  rintro _ _ ⟨rfl, rfl⟩
  refine z_v1 ?_
  refine z_if_eq (pt := 291) C dL_holds_284 (by decide) (rfl : 284 + 3 = 287) (iI_eq0 (by decide)).1 (fun q => mt (iI_eq0 (by decide)).2 q) (fun c2 => ?_) (fun c2 => ?_)
  · exact absurd c2 (by decide)
  refine z_iconst C dL_holds_287 (rfl : 287 + 1 = 288) ?_
  refine z_goto (pc' := 292) C dL_holds_288 (by decide) ?_
  exact z_zret C rfl (.inr rfl) dL_holds_292 (hq _) (by omega) (by omega)
theorem lp_L_holds (C : Cx κ cL_holds 14 wsL_holds RL (some .boolean) rmL_holds G base) (S : SC base b Ln xs (ks κ)) (hL : Ln ≤ 260) (hq : ∀ w, post (some (.int (iI 1))) w) (hmc : mc = 50000) (hms : ms = 330000) :
    ∀ (d i : Nat) (w : va_W), i + d = 120 → INV5 G q x (12 * (i : Int)) w → Z κ 14 G base mc ms post exc (400 * i + 100) (2600 * i + 6300) 104 [(12, .int (iI (i : Int))), (11, .int (iI 1)), (0, .ref b), (1, .ref x), (2, .ref (q 0)), (3, .ref (q 1)), (4, .ref (q 2)), (5, .ref (q 3)), (6, .ref (q 4)), (7, .ref (q 5)), (8, .ref (q 6)), (9, .ref (q 7)), (10, .ref (q 8))] [] w := by
  intro d
  induction d with
  | zero =>
    intro i w hi hw
    have e : i = 120 := by omega
    subst e
    refine z_iload C 0 rfl dL_holds_104 (rfl : 104 + 2 = 106) ?_
    refine z_bipush (c := 120) C (by decide) dL_holds_106 (rfl : 106 + 2 = 108) ?_
    refine z_icmp_ge (pt := 250) C dL_holds_108 (by decide) (rfl : 108 + 3 = 111) (iI_le (by omega) (by omega)).1 (fun q => mt (iI_le (by omega) (by omega)).2 q) (fun c1 => ?_) (fun c1 => ?_)
    · exact tl_L_fin C (by omega) (by omega) hw hq hmc hms
    · exact absurd c1 (by omega)
  | succ d ih =>
    intro i w hi hw
    have ih2 := fun w h => ih (i + 1) w (by omega) h
    obtain ⟨V, n, m, t, B, A, L, K, I, F, R, N, O, T, g, rfl, rfl, h, hI, hW, hD⟩ := hw
    refine z_iload C 0 rfl dL_holds_104 (rfl : 104 + 2 = 106) ?_
    refine z_bipush (c := 120) C (by decide) dL_holds_106 (rfl : 106 + 2 = 108) ?_
    refine z_icmp_ge (pt := 250) C dL_holds_108 (by decide) (rfl : 108 + 3 = 111) (iI_le (by omega) (by omega)).1 (fun q => mt (iI_le (by omega) (by omega)).2 q) (fun c1 => ?_) (fun c1 => ?_)
    · exact absurd c1 (by omega)
    refine z_iload C 1 rfl dL_holds_111 (rfl : 111 + 2 = 113) ?_
    refine z_if_eq (pt := 250) C dL_holds_113 (by decide) (rfl : 113 + 3 = 116) (iI_eq0 (by decide)).1 (fun q => mt (iI_eq0 (by decide)).2 q) (fun c2 => ?_) (fun c2 => ?_)
    · exact absurd c2 (by decide)
    refine z_aload_n C 2 rfl rfl dL_holds_116 (rfl : 116 + 1 = 117) ?_
    refine z_iconst C dL_holds_117 (rfl : 117 + 1 = 118) ?_
    refine z_iload C 0 rfl dL_holds_118 (rfl : 118 + 2 = 120) ?_
    refine z_imul C dL_holds_120 (rfl : 120 + 1 = 121) rfl ?_
    refine z_iconst C dL_holds_121 (rfl : 121 + 1 = 122) ?_
    refine z_iadd C dL_holds_122 (rfl : 122 + 1 = 123) rfl ?_
    refine z_ldc C (C.hts lL_holds_k185) dL_holds_123 (rfl : 123 + 2 = 125) ?_
    refine z_topi (y := iI 10000000) (by decide +kernel) ?_
    refine z_callSS C S (400 * i + 100) (2600 * i + 6300) (c_L_from (k := 2 * (i : Int) + 1) (w := 10000000) hL ⟨by omega, by omega⟩ (by decide)) gL_holds_L_from rfl hd91_L_from ⟨Nat.le_of_ble_eq_true rfl, Nat.le_of_ble_eq_true rfl⟩ rfl (Nat.le_of_ble_eq_true rfl) dL_holds_125 (rfl : 125 + 3 = 128) rfl rfl ⟨by show 400 * i + 100 ≤ 50000; omega, by show 2600 * i + 6300 ≤ 330000; omega⟩ ?_ rfl
    rintro _ _ ⟨rfl, z, hz, rfl⟩
    refine z_v1 ?_
    refine z_istore (lv' := [(13, _), (12, _), (11, _), (0, _), (1, _), (2, _), (3, _), (4, _), (5, _), (6, _), (7, _), (8, _), (9, _), (10, _)]) C dL_holds_128 (rfl : 128 + 2 = 130) (by decide) rfl ?_
    refine z_aload_n C 4 rfl rfl dL_holds_130 (rfl : 130 + 1 = 131) ?_
    refine z_aload_n C 5 rfl rfl dL_holds_131 (rfl : 131 + 1 = 132) ?_
    refine z_aload_n C 6 rfl rfl dL_holds_132 (rfl : 132 + 1 = 133) ?_
    refine z_aload C 7 rfl dL_holds_133 (rfl : 133 + 2 = 135) ?_
    refine z_aload C 8 rfl dL_holds_135 (rfl : 135 + 2 = 137) ?_
    refine z_aload C 9 rfl dL_holds_137 (rfl : 137 + 2 = 139) ?_
    refine z_aload C 10 rfl dL_holds_139 (rfl : 139 + 2 = 141) ?_
    refine z_aload C 11 rfl dL_holds_141 (rfl : 141 + 2 = 143) ?_
    refine z_aload C 12 rfl dL_holds_143 (rfl : 143 + 2 = 145) ?_
    refine z_aload C 13 rfl dL_holds_145 (rfl : 145 + 2 = 147) ?_
    have k177 : ∀ way : Int, 0 ≤ way ∧ way < 20 → Z κ 14 G base mc ms post exc (400 * i + 100) (2600 * i + 6300) 177 [(13, .int (iI z)), (12, .int (iI (i : Int))), (11, .int (iI 1)), (0, .ref b), (1, .ref (g 6 0)), (2, .ref (q 0)), (3, .ref (q 1)), (4, .ref (q 2)), (5, .ref (q 3)), (6, .ref (q 4)), (7, .ref (q 5)), (8, .ref (q 6)), (9, .ref (q 7)), (10, .ref (q 8))] [.int (iI way), .ref (q 8), .ref (q 7), .ref (q 6), .ref (q 5), .ref (q 4), .ref (q 3), .ref (q 2), .ref (q 1), .ref (q 0), .ref (g 6 0)] (pw G (lwW G q B A) L K I F R N O) := by
      intro way0 hway
      obtain ⟨way, rfl⟩ : ∃ way : Nat, way0 = (way : Int) := ⟨way0.toNat, by omega⟩
      refine z_iload C 0 rfl dL_holds_177 (rfl : 177 + 2 = 179) ?_
      refine z_callS C (400 * i + 100 + 10) (2600 * i + 6300 + 400) (c_L_acts (way := way) (z := z) (by omega) ⟨by omega, by omega⟩ h hI hW hD (by omega)) gL_holds_L_acts rfl hd91_L_acts ⟨Nat.le_of_ble_eq_true rfl, Nat.le_of_ble_eq_true rfl⟩ rfl (Nat.le_of_ble_eq_true rfl) dL_holds_179 (rfl : 179 + 3 = 182) rfl rfl ⟨by show 400 * i + 100 + 10 ≤ 50000; omega, by show 2600 * i + 6300 + 400 ≤ 330000; omega⟩ (fun _ _ h => h.elim) ?_ rfl
      rintro _ w2 ⟨rfl, hw2⟩
      refine z_v1 ?_
      refine tl_L_after C ⟨by omega, by omega⟩ (by omega) (by omega) (by omega) hw2 ?_
      exact z_widen (by omega) (by omega) (ih2 w2 (hw2.le (by omega)))
    refine z_iload C 1 rfl dL_holds_147 (rfl : 147 + 2 = 149) ?_
    refine z_iconst C dL_holds_149 (rfl : 149 + 1 = 150) ?_
    refine z_icmp_ge (pt := 157) C dL_holds_150 (by decide) (rfl : 150 + 3 = 153) (iI_le (by omega) (by omega)).1 (fun q => mt (iI_le (by omega) (by omega)).2 q) (fun c3 => ?_) (fun c3 => ?_)
    · refine z_iload C 1 rfl dL_holds_157 (rfl : 157 + 2 = 159) ?_
      refine z_iconst C dL_holds_159 (rfl : 159 + 1 = 160) ?_
      refine z_icmp_ge (pt := 167) C dL_holds_160 (by decide) (rfl : 160 + 3 = 163) (iI_le (by omega) (by omega)).1 (fun q => mt (iI_le (by omega) (by omega)).2 q) (fun c4 => ?_) (fun c4 => ?_)
      · refine z_aload_n C 3 rfl rfl dL_holds_167 (rfl : 167 + 1 = 168) ?_
        refine z_iconst C dL_holds_168 (rfl : 168 + 1 = 169) ?_
        refine z_iload C 1 rfl dL_holds_169 (rfl : 169 + 2 = 171) ?_
        refine z_imul C dL_holds_171 (rfl : 171 + 1 = 172) rfl ?_
        refine z_bipush (c := 20) C (by decide) dL_holds_172 (rfl : 172 + 2 = 174) ?_
        refine z_callSW C S (400 * i + 100) (2600 * i + 6300) (c_L_from (k := 2 * (i : Int)) (w := 20) hL ⟨by omega, by omega⟩ (by decide)) gL_holds_L_from rfl hd91_L_from ⟨Nat.le_of_ble_eq_true rfl, Nat.le_of_ble_eq_true rfl⟩ rfl (Nat.le_of_ble_eq_true rfl) dL_holds_174 (rfl : 174 + 3 = 177) rfl rfl ⟨by show 400 * i + 100 ≤ 50000; omega, by show 2600 * i + 6300 ≤ 330000; omega⟩ ?_ rfl
        rintro _ _ ⟨rfl, y, hy, rfl⟩
        refine z_v1 ?_
        exact k177 y hy
      · refine z_iconst C dL_holds_163 (rfl : 163 + 1 = 164) ?_
        refine z_goto (pc' := 177) C dL_holds_164 (by decide) ?_
        exact k177 5 (by decide)
    · refine z_iconst C dL_holds_153 (rfl : 153 + 1 = 154) ?_
      refine z_goto (pc' := 177) C dL_holds_154 (by decide) ?_
      exact k177 0 (by decide)
theorem lp_L_init (C : Cx κ cL_holds 14 wsL_holds RL (some .boolean) rmL_holds G base) {L : List Nat} {K : Nat → Nat} {I : Nat → Nat → Int} {F : Nat → Nat → Option Nat} {R : Nat → Nat → Int} {N : Nat → Nat} {O : Nat → Nat → Option Nat}
    (kk : ∀ a2 a6, St0 12 a2 a6 → Z κ 14 G base mc ms post exc 100 6300 101 [(12, .int (iI ((12 : Nat) : Int))), (11, .int (iI 1)), (0, .ref b), (1, .ref x), (2, .ref (q 0)), (3, .ref (q 1)), (4, .ref (q 2)), (5, .ref (q 3)), (6, .ref (q 4)), (7, .ref (q 5)), (8, .ref (q 6)), (9, .ref (q 7)), (10, .ref (q 8))] [] (pw G (lwW G q B0 (va_up (va_up A1s 2 a2) 6 a6)) L K I F R N O)) :
    ∀ (d i : Nat) (a2 a6 : Nat → Int), i + d = 12 → St0 i a2 a6 → Z κ 14 G base mc ms post exc 100 6300 73 [(12, .int (iI (i : Int))), (11, .int (iI 1)), (0, .ref b), (1, .ref x), (2, .ref (q 0)), (3, .ref (q 1)), (4, .ref (q 2)), (5, .ref (q 3)), (6, .ref (q 4)), (7, .ref (q 5)), (8, .ref (q 6)), (9, .ref (q 7)), (10, .ref (q 8))] [] (pw G (lwW G q B0 (va_up (va_up A1s 2 a2) 6 a6)) L K I F R N O) := by
  intro d
  induction d with
  | zero =>
    intro i a2 a6 hi hS
    have e : i = 12 := by omega
    subst e
    refine z_iload C 0 rfl dL_holds_73 (rfl : 73 + 2 = 75) ?_
    refine z_bipush (c := 12) C (by decide) dL_holds_75 (rfl : 75 + 2 = 77) ?_
    refine z_icmp_ge (pt := 101) C dL_holds_77 (by decide) (rfl : 77 + 3 = 80) (iI_le (by omega) (by omega)).1 (fun q => mt (iI_le (by omega) (by omega)).2 q) (fun c1 => ?_) (fun c1 => ?_)
    · exact kk a2 a6 hS
    · exact absurd c1 (by omega)
  | succ d ih =>
    intro i a2 a6 hi hS
    refine z_iload C 0 rfl dL_holds_73 (rfl : 73 + 2 = 75) ?_
    refine z_bipush (c := 12) C (by decide) dL_holds_75 (rfl : 75 + 2 = 77) ?_
    refine z_icmp_ge (pt := 101) C dL_holds_77 (by decide) (rfl : 77 + 3 = 80) (iI_le (by omega) (by omega)).1 (fun q => mt (iI_le (by omega) (by omega)).2 q) (fun c1 => ?_) (fun c1 => ?_)
    · exact absurd c1 (by omega)
    refine z_aload C 6 rfl dL_holds_80 (rfl : 80 + 2 = 82) ?_
    refine z_iload C 0 rfl dL_holds_82 (rfl : 82 + 2 = 84) ?_
    refine z_iconst C dL_holds_84 (rfl : 84 + 1 = 85) ?_
    refine z_iastN (i := i) C lwm_2 ⟨by omega, by omega⟩ (by omega) (by omega) dL_holds_85 (rfl : 85 + 1 = 86) lws_2 ?_
    rw [cq_2]
    refine z_aload C 10 rfl dL_holds_86 (rfl : 86 + 2 = 88) ?_
    refine z_iload C 0 rfl dL_holds_88 (rfl : 88 + 2 = 90) ?_
    refine z_iconst C dL_holds_90 (rfl : 90 + 1 = 91) ?_
    refine z_irem C ⟨by omega, by omega⟩ ⟨by omega, by omega⟩ rfl dL_holds_91 (rfl : 91 + 1 = 92) ?_
    refine z_bipush (c := 100) C (by decide) dL_holds_92 (rfl : 92 + 2 = 94) ?_
    refine z_iastN (i := (i % 5)) C lwm_6 ⟨by omega, by omega⟩ (by omega) (by omega) dL_holds_94 (rfl : 94 + 1 = 95) lws_6 ?_
    rw [cq_6]
    refine z_iinc (lv' := [(12, _), (11, _), (0, _), (1, _), (2, _), (3, _), (4, _), (5, _), (6, _), (7, _), (8, _), (9, _), (10, _)]) C 0 dL_holds_95 (rfl : 95 + 3 = 98) rfl rfl (by decide) rfl ?_
    refine z_goto (pc' := 73) C dL_holds_98 (by decide) ?_
    exact ih (i + 1) _ _ (by omega) hS.step
theorem arL_holds_long : Cond.arrayClass (newarray.typeOf .long) ∈ wsL_holds := by decide +kernel
theorem arL_holds_int : Cond.arrayClass (newarray.typeOf .int) ∈ wsL_holds := by decide +kernel
theorem c_L_holds (hL : Ln ≤ 260) : MCS l yL_holds wsL_holds rmL_holds G base b Ln xs [.ref b] [] (fun v _ => v = some (.int (iI 1))) := by
  refine MCS.of (cc := cL_holds) (by decide) rfl rfl (Nat.le_of_ble_eq_true rfl) ?_
  intro κ C S hl
  refine z_sub [0] (lv' := [(0, .ref b)]) rfl ?_
  refine z_ws (ws' := pw G [] [] (fun _ => 0) (fun _ _ => 0) (fun _ _ => none) (fun _ _ => 0) (fun _ => 0) (fun _ _ => none)) rfl ?_
  refine z_new (ci := 6) (fs := [.null, .null, .null, .null, .null, .null, .int 0]) C tyX5 tyX5_ok iL_holds_X5 lL_holds_c28 nnL_holds_X5 niL_holds_X5 rfl (by decide) (Nat.le_of_ble_eq_true rfl) (Nat.le_of_ble_eq_true rfl) dL_holds_0 (rfl : 0 + 3 = 3) (fun x hx => ?_)
  refine z_ws (pwn_MC hx) ?_
  refine z_dup C rfl dL_holds_3 (rfl : 3 + 1 = 4) ?_
  refine z_callI C 81 6007 (c_X5_init (by simp) (va_up_self _ _ _)) gL_holds_X5_init rfl nL_holds_X5_init lL_holds_m184 vL_holds_X5_init rfl hd91_X5_init ⟨Nat.le_of_ble_eq_true rfl, Nat.le_of_ble_eq_true rfl⟩ rfl (Nat.le_of_ble_eq_true rfl) dL_holds_4 (rfl : 4 + 3 = 7) rfl rfl ⟨Nat.le_of_ble_eq_true rfl, Nat.le_of_ble_eq_true rfl⟩ (fun _ _ h => h.elim) ?_ rfl
  rintro _ _ ⟨rfl, L, K, I, F, R, N, O, T, g, rfl, hRX, hg⟩
  refine z_v0 ?_
  refine z_astore_n (lv' := [(1, _), (0, _)]) C rfl dL_holds_7 (rfl : 7 + 1 = 8) (by decide) rfl ?_
  refine z_bipush (c := 16) C (by decide) dL_holds_8 (rfl : 8 + 2 = 10) ?_
  refine z_newa (N' := 16) (a0 := (16, .inr (.inl (fun _ => 0)))) C 3 rfl arL_holds_long rfl (fun _ => rfl) rfl (by decide) (by decide) (Nat.le_of_ble_eq_true rfl) (Nat.le_of_ble_eq_true rfl) dL_holds_10 (rfl : 10 + 2 = 12) (fun q0 hq0 => ?_)
  refine z_astore_n (lv' := [(2, _), (1, _), (0, _)]) C rfl dL_holds_12 (rfl : 12 + 1 = 13) (by decide) rfl ?_
  refine z_bipush (c := 64) C (by decide) dL_holds_13 (rfl : 13 + 2 = 15) ?_
  refine z_newa (N' := 64) (a0 := (64, .inl (fun _ => iI 0))) C 0 rfl arL_holds_int rfl (fun _ => rfl) rfl (by decide) (by decide) (Nat.le_of_ble_eq_true rfl) (Nat.le_of_ble_eq_true rfl) dL_holds_15 (rfl : 15 + 2 = 17) (fun q1 hq1 => ?_)
  refine z_astore_n (lv' := [(3, _), (2, _), (1, _), (0, _)]) C rfl dL_holds_17 (rfl : 17 + 1 = 18) (by decide) rfl ?_
  refine z_bipush (c := 12) C (by decide) dL_holds_18 (rfl : 18 + 2 = 20) ?_
  refine z_newa (N' := 12) (a0 := (12, .inl (fun _ => iI 0))) C 0 rfl arL_holds_int rfl (fun _ => rfl) rfl (by decide) (by decide) (Nat.le_of_ble_eq_true rfl) (Nat.le_of_ble_eq_true rfl) dL_holds_20 (rfl : 20 + 2 = 22) (fun q2 hq2 => ?_)
  refine z_astore (lv' := [(4, _), (3, _), (2, _), (1, _), (0, _)]) C dL_holds_22 (rfl : 22 + 2 = 24) (by decide) rfl ?_
  refine z_bipush (c := 40) C (by decide) dL_holds_24 (rfl : 24 + 2 = 26) ?_
  refine z_newa (N' := 40) (a0 := (40, .inl (fun _ => iI 0))) C 0 rfl arL_holds_int rfl (fun _ => rfl) rfl (by decide) (by decide) (Nat.le_of_ble_eq_true rfl) (Nat.le_of_ble_eq_true rfl) dL_holds_26 (rfl : 26 + 2 = 28) (fun q3 hq3 => ?_)
  refine z_astore (lv' := [(5, _), (4, _), (3, _), (2, _), (1, _), (0, _)]) C dL_holds_28 (rfl : 28 + 2 = 30) (by decide) rfl ?_
  refine z_iconst C dL_holds_30 (rfl : 30 + 1 = 31) ?_
  refine z_newa (N' := 5) (a0 := (5, .inr (.inl (fun _ => 0)))) C 3 rfl arL_holds_long rfl (fun _ => rfl) rfl (by decide) (by decide) (Nat.le_of_ble_eq_true rfl) (Nat.le_of_ble_eq_true rfl) dL_holds_31 (rfl : 31 + 2 = 33) (fun q4 hq4 => ?_)
  refine z_astore (lv' := [(6, _), (5, _), (4, _), (3, _), (2, _), (1, _), (0, _)]) C dL_holds_33 (rfl : 33 + 2 = 35) (by decide) rfl ?_
  refine z_bipush (c := 60) C (by decide) dL_holds_35 (rfl : 35 + 2 = 37) ?_
  refine z_newa (N' := 60) (a0 := (60, .inl (fun _ => iI 0))) C 0 rfl arL_holds_int rfl (fun _ => rfl) rfl (by decide) (by decide) (Nat.le_of_ble_eq_true rfl) (Nat.le_of_ble_eq_true rfl) dL_holds_37 (rfl : 37 + 2 = 39) (fun q5 hq5 => ?_)
  refine z_astore (lv' := [(7, _), (6, _), (5, _), (4, _), (3, _), (2, _), (1, _), (0, _)]) C dL_holds_39 (rfl : 39 + 2 = 41) (by decide) rfl ?_
  refine z_bipush (c := 10) C (by decide) dL_holds_41 (rfl : 41 + 2 = 43) ?_
  refine z_newa (N' := 10) (a0 := (10, .inl (fun _ => iI 0))) C 0 rfl arL_holds_int rfl (fun _ => rfl) rfl (by decide) (by decide) (Nat.le_of_ble_eq_true rfl) (Nat.le_of_ble_eq_true rfl) dL_holds_43 (rfl : 43 + 2 = 45) (fun q6 hq6 => ?_)
  refine z_astore (lv' := [(8, _), (7, _), (6, _), (5, _), (4, _), (3, _), (2, _), (1, _), (0, _)]) C dL_holds_45 (rfl : 45 + 2 = 47) (by decide) rfl ?_
  refine z_bipush (c := 6) C (by decide) dL_holds_47 (rfl : 47 + 2 = 49) ?_
  refine z_newa (N' := 6) (a0 := (6, .inl (fun _ => iI 0))) C 0 rfl arL_holds_int rfl (fun _ => rfl) rfl (by decide) (by decide) (Nat.le_of_ble_eq_true rfl) (Nat.le_of_ble_eq_true rfl) dL_holds_49 (rfl : 49 + 2 = 51) (fun q7 hq7 => ?_)
  refine z_astore (lv' := [(9, _), (8, _), (7, _), (6, _), (5, _), (4, _), (3, _), (2, _), (1, _), (0, _)]) C dL_holds_51 (rfl : 51 + 2 = 53) (by decide) rfl ?_
  refine z_iconst C dL_holds_53 (rfl : 53 + 1 = 54) ?_
  refine z_newa (N' := 5) (a0 := (5, .inl (fun _ => iI 0))) C 0 rfl arL_holds_int rfl (fun _ => rfl) rfl (by decide) (by decide) (Nat.le_of_ble_eq_true rfl) (Nat.le_of_ble_eq_true rfl) dL_holds_54 (rfl : 54 + 2 = 56) (fun q8 hq8 => ?_)
  obtain ⟨q, e0, e1, e2, e3, e4, e5, e6, e7, e8⟩ : ∃ q : Nat → Nat, q 0 = q0 ∧ q 1 = q1 ∧ q 2 = q2 ∧ q 3 = q3 ∧ q 4 = q4 ∧ q 5 = q5 ∧ q 6 = q6 ∧ q 7 = q7 ∧ q 8 = q8 := ⟨(fun k => if k = 0 then q0 else if k = 1 then q1 else if k = 2 then q2 else if k = 3 then q3 else if k = 4 then q4 else if k = 5 then q5 else if k = 6 then q6 else if k = 7 then q7 else q8), rfl, rfl, rfl, rfl, rfl, rfl, rfl, rfl, rfl⟩
  subst e0 e1 e2 e3 e4 e5 e6 e7 e8
  refine z_perm (ws' := lwW G q B0 A0 ++ pw G [] L K I F R N O) ?_ ?_
  · show List.Perm (((((((((pw G [] L K I F R N O ++ [_]) ++ [_]) ++ [_]) ++ [_]) ++ [_]) ++ [_]) ++ [_]) ++ [_]) ++ [_]) _
    rw [List.append_assoc, List.append_assoc, List.append_assoc, List.append_assoc, List.append_assoc, List.append_assoc, List.append_assoc, List.append_assoc]
    exact List.perm_append_comm
  refine z_ws (ws' := pw G (lwW G q B0 A0) L K I F R N O) rfl ?_
  refine z_widen (k := 100) (n := 6300) (by decide) (by decide) ?_
  refine z_astore (lv' := [(10, _), (9, _), (8, _), (7, _), (6, _), (5, _), (4, _), (3, _), (2, _), (1, _), (0, _)]) C dL_holds_56 (rfl : 56 + 2 = 58) (by decide) rfl ?_
  refine z_iconst C dL_holds_58 (rfl : 58 + 1 = 59) ?_
  refine z_istore (lv' := [(11, _), (10, _), (9, _), (8, _), (7, _), (6, _), (5, _), (4, _), (3, _), (2, _), (1, _), (0, _)]) C dL_holds_59 (rfl : 59 + 2 = 61) (by decide) rfl ?_
  refine z_aload_n C 8 rfl rfl dL_holds_61 (rfl : 61 + 1 = 62) ?_
  refine z_iconst C dL_holds_62 (rfl : 62 + 1 = 63) ?_
  refine z_iconst C dL_holds_63 (rfl : 63 + 1 = 64) ?_
  refine z_iastN (i := 0) C lwm_1 ⟨by omega, by omega⟩ (by omega) (by omega) dL_holds_64 (rfl : 64 + 1 = 65) lws_1 ?_
  refine z_aload C 1 rfl dL_holds_65 (rfl : 65 + 2 = 67) ?_
  refine z_iconst C dL_holds_67 (rfl : 67 + 1 = 68) ?_
  refine z_iconst C dL_holds_68 (rfl : 68 + 1 = 69) ?_
  refine z_iastN (i := 0) C lwm_8 ⟨by omega, by omega⟩ (by omega) (by omega) dL_holds_69 (rfl : 69 + 1 = 70) lws_8 ?_
  refine z_iconst C dL_holds_70 (rfl : 70 + 1 = 71) ?_
  refine z_istore (lv' := [(12, _), (11, _), (10, _), (9, _), (8, _), (7, _), (6, _), (5, _), (4, _), (3, _), (2, _), (1, _), (0, _)]) C dL_holds_71 (rfl : 71 + 2 = 73) (by decide) rfl ?_
  refine z_ws (ws' := pw G (lwW G q B0 (va_up (va_up A1s 2 (A1s 2)) 6 (A1s 6))) L K I F R N O) (congrArg (fun A' => pw G (lwW G q B0 A') L K I F R N O) (show A1s = va_up (va_up A1s 2 (A1s 2)) 6 (A1s 6) by rw [up_self, up_self])) ?_
  refine z_sub [0, 1, 12, 11, 10, 9, 8, 7, 6, 5, 4, 3, 2] (lv' := [(12, .int (iI ((0 : Nat) : Int))), (11, .int (iI 1)), (0, .ref b), (1, .ref x), (2, .ref (q 0)), (3, .ref (q 1)), (4, .ref (q 2)), (5, .ref (q 3)), (6, .ref (q 4)), (7, .ref (q 5)), (8, .ref (q 6)), (9, .ref (q 7)), (10, .ref (q 8))]) rfl ?_
  refine lp_L_init C (fun a2 a6 hS => ?_) 12 0 (A1s 2) (A1s 6) rfl ⟨fun k hk => absurd hk (Nat.not_lt_zero k), fun y _ hy => absurd hy (Nat.not_lt_zero y), fun j _ => rfl⟩
  refine z_iconst C dL_holds_101 (rfl : 101 + 1 = 102) ?_
  refine z_istore (lv' := [(12, _), (11, _), (0, _), (1, _), (2, _), (3, _), (4, _), (5, _), (6, _), (7, _), (8, _), (9, _), (10, _)]) C dL_holds_102 (rfl : 102 + 2 = 104) (by decide) rfl ?_
  refine z_sub [0, 1, 2, 3, 4, 5, 6, 7, 8, 9, 10, 11, 12] (lv' := [(12, .int (iI ((0 : Nat) : Int))), (11, .int (iI 1)), (0, .ref b), (1, .ref x), (2, .ref (q 0)), (3, .ref (q 1)), (4, .ref (q 2)), (5, .ref (q 3)), (6, .ref (q 4)), (7, .ref (q 5)), (8, .ref (q 6)), (9, .ref (q 7)), (10, .ref (q 8))]) rfl ?_
  exact lp_L_holds C S hL (fun _ => rfl) rfl rfl 120 0 _ rfl ⟨V0, 1, 0, 0, B0, _, L, K, I, F, R, N, O, T, g, rfl, hg, hRX, linv0, lwr0 hS, by show (0 : Int) ≤ 12 * ((0 : Nat) : Int); decide⟩
abbrev rmL_isHeld : Room := { frames := 12, cells := 50000, slots := 330000, locals := 520 }
theorem c_L_isHeld (hL : Ln ≤ 260) : MCS l yL_isHeld wsL_isHeld rmL_isHeld G base b Ln xs [.ref b] [] (fun v _ => v = some (.int (iI 1))) := by
  refine MCS.ofH (cc := cL_isHeld) (hh := [(0, 4, 5, 206), (0, 4, 8, 208), (0, 4, 11, 122)]) (by decide) rfl rfl (Nat.le_of_ble_eq_true rfl) ?_
  intro κ C S hl
  subst hl
  refine z_sub [0] (lv' := [(0, .ref b)]) rfl ?_
  refine z_aload_n C 0 rfl rfl dL_isHeld_0 (rfl : 0 + 1 = 1) ?_
  refine z_callSS C S (50000) (330000) (c_L_holds hL) gL_isHeld_L_holds rfl hd91_L_holds ⟨Nat.le_of_ble_eq_true rfl, Nat.le_of_ble_eq_true rfl⟩ rfl (Nat.le_of_ble_eq_true rfl) dL_isHeld_1 (rfl : 1 + 3 = 4) rfl rfl ⟨by show 50000 ≤ 50000; omega, by show 330000 ≤ 330000; omega⟩ ?_ rfl
  rintro _ _ rfl
  refine z_v1 ?_
  exact z_zret C rfl (.inr rfl) dL_isHeld_4 rfl (by decide) (by decide)
abbrev rmL_law : Room := room_1
theorem tl_L_law (C : Cx κ cL_law 1 wsL_law RL (some .boolean) rmL_law G base) (S : SC base b Ln xs (ks κ)) (hL : Ln ≤ 260) (hp : ∀ w, post (some (.int (iI 1))) w) (hmc : mc = 600104) (hms : ms = 7301313) : Z κ 1 G base mc ms post exc 0 0 0 [(0, .ref b)] [] [] := by
  refine z_aload_n C 0 rfl rfl dL_law_0 (rfl : 0 + 1 = 1) ?_
  refine z_callSH C S 50000 330000 (c_L_isHeld hL) gL_law_L_isHeld rfl hd91_L_isHeld ⟨Nat.le_of_ble_eq_true rfl, Nat.le_of_ble_eq_true rfl⟩ rfl (Nat.le_of_ble_eq_true rfl) dL_law_1 (rfl : 1 + 3 = 4) rfl rfl ⟨Nat.le_of_ble_eq_true rfl, Nat.le_of_ble_eq_true rfl⟩ ?_ rfl
  rintro _ w rfl
  refine z_v1 ?_
  exact z_zret C rfl (.inr rfl) dL_law_4 (hp w) (by omega) (by omega)
end
