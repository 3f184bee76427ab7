theorem hd90_L_lent : yL_lent.cls ≠ "java/lang/invoke/MethodHandle" ∧ yL_lent.cls ≠ "java/lang/invoke/VarHandle" ∧ (parseMethodDescriptor yL_lent.desc).map (fun d => d.parameters.length) = some 5 := by decide +kernel
theorem hd90_L_given : yL_given.cls ≠ "java/lang/invoke/MethodHandle" ∧ yL_given.cls ≠ "java/lang/invoke/VarHandle" ∧ (parseMethodDescriptor yL_given.desc).map (fun d => d.parameters.length) = some 2 := by decide +kernel
theorem hd90_L_late : yL_late.cls ≠ "java/lang/invoke/MethodHandle" ∧ yL_late.cls ≠ "java/lang/invoke/VarHandle" ∧ (parseMethodDescriptor yL_late.desc).map (fun d => d.parameters.length) = some 3 := by decide +kernel
theorem hd90_X5_pass : yX5_pass.cls = RX5 ∧ yX5_pass.cls ≠ "java/lang/invoke/MethodHandle" ∧ yX5_pass.cls ≠ "java/lang/invoke/VarHandle" ∧ (parseMethodDescriptor yX5_pass.desc).map (fun d => d.parameters.length) = some 1 := by decide +kernel
theorem hd90_L_isCopied : yL_isCopied.cls ≠ "java/lang/invoke/MethodHandle" ∧ yL_isCopied.cls ≠ "java/lang/invoke/VarHandle" ∧ (parseMethodDescriptor yL_isCopied.desc).map (fun d => d.parameters.length) = some 8 := by decide +kernel
theorem hd90_L_isLettered : yL_isLettered.cls ≠ "java/lang/invoke/MethodHandle" ∧ yL_isLettered.cls ≠ "java/lang/invoke/VarHandle" ∧ (parseMethodDescriptor yL_isLettered.desc).map (fun d => d.parameters.length) = some 8 := by decide +kernel
/-! one act of the law: slips, copies, letters, loans, days -/
theorem mxE_no {w0 : va_W} {E1 E2 : String} {P1 P2 Q : Prop} (h1 : P1) (h2 : P2) {E : String} {w : va_W} (h : mxE w0 E1 E2 P1 P2 E w) : Q := by
  rcases h.2 with ⟨-, h⟩ | ⟨-, -, h⟩
  · exact absurd h1 h
  · exact absurd h2 h
section
variable {κ : KxT} {G : GG} {base mc ms : Nat} {post : Option Value → va_W → Prop} {exc : String → va_W → Prop} {L : List Nat} {K : Nat → Nat} {I : Nat → Nat → Int} {F : Nat → Nat → Option Nat} {R : Nat → Nat → Int} {N : Nat → Nat} {O : Nat → Nat → Option Nat} {l : Launch} {q : Nat → Nat} {V : Nat → Nat → Int} {B : Nat → Nat → Int64} {A : Nat → Nat → Int} {n m t : Nat} {T : Nat → Nat} {g : Nat → Nat → Nat}
abbrev rmL_acts : Room := { frames := 10, cells := 10, slots := 400, locals := 400 }
theorem tl_L_lend0 (C : Cx κ cL_acts 19 wsL_acts RL (some .boolean) rmL_acts G base) {D z : Int} {way : Nat} {c y : Nat} {d pl : Int} (hc : c < n) (hy : y < 5) (hd : 1 ≤ d ∧ d ≤ 30) (hpl : 0 ≤ pl ∧ pl ≤ 50) (ht : t < 10) (hno : ¬ (V 3 c ≠ (y : Int) ∧ V 4 c = V 3 c ∧ ¬ iI (V 22 y) < iI pl)) (hz : 0 ≤ z ∧ z < 20000000) (h : RX (gde G) L K I F R N O T g V n m t) (hI : LInv V n m t) (hW : LWr V n m t B A) (hD : V 9 0 ≤ D) (hq : ∀ w, INV5 G q (g 6 0) (D + 12) w → post (some (.int (iI 1))) w) (hmc : mc = 10) (hms : ms = 400) : Z κ 19 G base mc ms post exc 0 0 153 [(15, .int (iI pl)), (14, .int (iI d)), (13, .int (iI (y : Int))), (12, .int (iI (c : Int))), (0, .ref (g 6 0)), (1, .ref (q 0)), (2, .ref (q 1)), (3, .ref (q 2)), (4, .ref (q 3)), (5, .ref (q 4)), (6, .ref (q 5)), (7, .ref (q 6)), (8, .ref (q 7)), (9, .ref (q 8)), (10, .int (iI (way : Int))), (11, .int (iI z))] [] (pw G (lwW G q B A) L K I F R N O) := by
  have hb := hI.2.2.1
  refine z_iconst C dL_acts_153 (rfl : 153 + 1 = 154) ?_
  refine z_istore (lv' := [(16, _), (15, _), (14, _), (13, _), (12, _), (0, _), (1, _), (2, _), (3, _), (4, _), (5, _), (6, _), (7, _), (8, _), (9, _), (10, _), (11, _)]) C dL_acts_154 (rfl : 154 + 2 = 156) (by decide) rfl ?_
  refine z_iload C 0 rfl dL_acts_156 (rfl : 156 + 2 = 158) ?_
  refine z_if_eq (pt := 284) C dL_acts_158 (by decide) (rfl : 158 + 3 = 161) (iI_eq0 (by decide)).1 (fun q => mt (iI_eq0 (by decide)).2 q) (fun c1 => ?_) (fun c1 => ?_)
  rotate_left
  · exact absurd rfl c1
  refine z_aload_n C 5 rfl rfl dL_acts_284 (rfl : 284 + 1 = 285) ?_
  refine z_iload C 4 rfl dL_acts_285 (rfl : 285 + 2 = 287) ?_
  refine z_iload C 3 rfl dL_acts_287 (rfl : 287 + 2 = 289) ?_
  refine z_iload C 2 rfl dL_acts_289 (rfl : 289 + 2 = 291) ?_
  refine z_iload C 1 rfl dL_acts_291 (rfl : 291 + 2 = 293) ?_
  refine z_callH C (4) (240) (c_L_lent ⟨h.1.x8.1, h.1.x8.2.1⟩ (c_X5_lend (cz := (c : Int)) (hz := (y : Int)) (dz := d) (pz := pl) ⟨by omega, by omega⟩ ⟨by omega, by omega⟩ ⟨by omega, by omega⟩ ⟨by omega, by omega⟩ h hI.1 hI.2.1) mxP_ex (mxE3_ise ⟨⟨by omega, by omega⟩, by omega, by omega⟩ ⟨⟨by omega, by omega⟩, by omega, by omega⟩)) gL_acts_L_lent rfl hd90_L_lent ⟨Nat.le_of_ble_eq_true rfl, Nat.le_of_ble_eq_true rfl⟩ rfl (Nat.le_of_ble_eq_true rfl) dL_acts_293 (rfl : 293 + 3 = 296) rfl rfl ⟨by show 4 ≤ 10; omega, by show 240 ≤ 400; omega⟩ ?_ rfl
  rintro v w (⟨hP, -, -⟩ | ⟨-, rfl, rfl⟩)
  · exact (hno ⟨hP.2.2.1, hP.2.2.2.1, hP.2.2.2.2.1⟩).elim
  refine z_v1 ?_
  refine z_iload C 0 rfl dL_acts_296 (rfl : 296 + 2 = 298) ?_
  refine z_if_eq (pt := 310) C dL_acts_298 (by decide) (rfl : 298 + 3 = 301) (iI_eq0 (by decide)).1 (fun q => mt (iI_eq0 (by decide)).2 q) (fun c2 => ?_) (fun c2 => ?_)
  rotate_left
  · exact absurd rfl c2
  refine z_bipush (c := (-7)) C (by decide) dL_acts_310 (rfl : 310 + 2 = 312) ?_
  refine z_same (pt := 319) C rfl dL_acts_312 (by decide) (rfl : 312 + 3 = 315) ?_
  refine z_iconst C dL_acts_315 (rfl : 315 + 1 = 316) ?_
  refine z_goto (pc' := 320) C dL_acts_316 (by decide) ?_
  exact z_zret C rfl (.inr rfl) dL_acts_320 (hq _ ⟨V, n, m, t, B, A, L, K, I, F, R, N, O, T, g, rfl, rfl, h, hI, hW, by omega⟩) (by omega) (by omega)
theorem tl_L_lend1 (C : Cx κ cL_acts 19 wsL_acts RL (some .boolean) rmL_acts G base) {D z : Int} {way : Nat} {c y u : Nat} {d pl : Int} (hc : c < n) (hy : y < 5) (hd : 1 ≤ d ∧ d ≤ 30) (hpl : 0 ≤ pl ∧ pl ≤ 50) (ht : t < 10) (h1 : V 3 c ≠ (y : Int)) (h2 : V 4 c = V 3 c) (h3 : ¬ iI (V 22 y) < iI pl) (hu : V 3 c = (u : Int)) (hz : 0 ≤ z ∧ z < 20000000) (h : RX (gde G) L K I F R N O T g V n m t) (hI : LInv V n m t) (hW : LWr V n m t B A) (hD : V 9 0 ≤ D) (hq : ∀ w, INV5 G q (g 6 0) (D + 12) w → post (some (.int (iI 1))) w) (hmc : mc = 10) (hms : ms = 400) : Z κ 19 G base mc ms post exc 0 0 161 [(16, .int (iI 1)), (15, .int (iI pl)), (14, .int (iI d)), (13, .int (iI (y : Int))), (12, .int (iI (c : Int))), (0, .ref (g 6 0)), (1, .ref (q 0)), (2, .ref (q 1)), (3, .ref (q 2)), (4, .ref (q 3)), (5, .ref (q 4)), (6, .ref (q 5)), (7, .ref (q 6)), (8, .ref (q 7)), (9, .ref (q 8)), (10, .int (iI (way : Int))), (11, .int (iI z))] [] (pw G (lwW G q B A) L K I F R N O) := by
  have hb := hI.2.2.1
  have w6 := hI.1.2.2.2.2.2.1 c hc
  have hu5 : u < 5 := by omega
  have hm := hW.1
  have hcc := (hW.2.2.1 c hc).2.2.1.trans hu
  obtain ⟨hn1, hn2⟩ := hW.2.2.2.2.2.2.2.1 y hy
  obtain ⟨f, hf⟩ := ex_gtL V m y u
  have hf2 : gtL V m (y : Int).toNat (V 3 (c : Int).toNat).toNat f := by
    have e : (V 3 (c : Int).toNat).toNat = u := by
      show (V 3 c).toNat = u
      omega
    rw [e]
    exact hf
  obtain ⟨hI2, hW2⟩ := mu_lend (d := d) (pl := pl) hc hy ht hu ⟨by omega, by omega⟩ hpl hI hW hf
  refine z_bipush (c := 6) C (by decide) dL_acts_161 (rfl : 161 + 2 = 163) ?_
  refine z_aload C 14 rfl dL_acts_163 (rfl : 163 + 2 = 165) ?_
  refine z_iconst C dL_acts_165 (rfl : 165 + 1 = 166) ?_
  refine z_iald C lwm_8 ⟨by omega, by omega⟩ (by omega) (rdA hm.2.2.2.2 (by omega)) dL_acts_166 (rfl : 166 + 1 = 167) ?_
  refine z_imul C dL_acts_167 (rfl : 167 + 1 = 168) rfl ?_
  refine z_istore (lv' := [(17, _), (16, _), (15, _), (14, _), (13, _), (12, _), (0, _), (1, _), (2, _), (3, _), (4, _), (5, _), (6, _), (7, _), (8, _), (9, _), (10, _), (11, _)]) C dL_acts_168 (rfl : 168 + 2 = 170) (by decide) rfl ?_
  refine z_aload C 12 rfl dL_acts_170 (rfl : 170 + 2 = 172) ?_
  refine z_iload C 0 rfl dL_acts_172 (rfl : 172 + 2 = 174) ?_
  refine z_iload C 5 rfl dL_acts_174 (rfl : 174 + 2 = 176) ?_
  refine z_iastN (i := (6 * t)) C lwm_5 ⟨by omega, by omega⟩ (by omega) (by omega) dL_acts_176 (rfl : 176 + 1 = 177) lws_5 ?_
  refine z_aload C 12 rfl dL_acts_177 (rfl : 177 + 2 = 179) ?_
  refine z_iload C 0 rfl dL_acts_179 (rfl : 179 + 2 = 181) ?_
  refine z_iconst C dL_acts_181 (rfl : 181 + 1 = 182) ?_
  refine z_iadd C dL_acts_182 (rfl : 182 + 1 = 183) rfl ?_
  refine z_iload C 4 rfl dL_acts_183 (rfl : 183 + 2 = 185) ?_
  refine z_iastN (i := (6 * t + 1)) C lwm_5 ⟨by omega, by omega⟩ (by omega) (by omega) dL_acts_185 (rfl : 185 + 1 = 186) lws_5 ?_
  refine z_aload C 12 rfl dL_acts_186 (rfl : 186 + 2 = 188) ?_
  refine z_iload C 0 rfl dL_acts_188 (rfl : 188 + 2 = 190) ?_
  refine z_iconst C dL_acts_190 (rfl : 190 + 1 = 191) ?_
  refine z_iadd C dL_acts_191 (rfl : 191 + 1 = 192) rfl ?_
  refine z_aload C 15 rfl dL_acts_192 (rfl : 192 + 2 = 194) ?_
  refine z_iconst C dL_acts_194 (rfl : 194 + 1 = 195) ?_
  refine z_iald C lwm_8 ⟨by omega, by omega⟩ (by omega) (rdA hm.2.2.1 (by omega)) dL_acts_195 (rfl : 195 + 1 = 196) ?_
  refine z_iload C 3 rfl dL_acts_196 (rfl : 196 + 2 = 198) ?_
  refine z_iadd C dL_acts_198 (rfl : 198 + 1 = 199) rfl ?_
  refine z_iastN (i := (6 * t + 2)) C lwm_5 ⟨by omega, by omega⟩ (by omega) (by omega) dL_acts_199 (rfl : 199 + 1 = 200) lws_5 ?_
  refine z_aload C 12 rfl dL_acts_200 (rfl : 200 + 2 = 202) ?_
  refine z_iload C 0 rfl dL_acts_202 (rfl : 202 + 2 = 204) ?_
  refine z_iconst C dL_acts_204 (rfl : 204 + 1 = 205) ?_
  refine z_iadd C dL_acts_205 (rfl : 205 + 1 = 206) rfl ?_
  refine z_iload C 2 rfl dL_acts_206 (rfl : 206 + 2 = 208) ?_
  refine z_iastN (i := (6 * t + 3)) C lwm_5 ⟨by omega, by omega⟩ (by omega) (by omega) dL_acts_208 (rfl : 208 + 1 = 209) lws_5 ?_
  refine z_aload C 12 rfl dL_acts_209 (rfl : 209 + 2 = 211) ?_
  refine z_iload C 0 rfl dL_acts_211 (rfl : 211 + 2 = 213) ?_
  refine z_iconst C dL_acts_213 (rfl : 213 + 1 = 214) ?_
  refine z_iadd C dL_acts_214 (rfl : 214 + 1 = 215) rfl ?_
  refine z_iconst C dL_acts_215 (rfl : 215 + 1 = 216) ?_
  refine z_iastN (i := (6 * t + 4)) C lwm_5 ⟨by omega, by omega⟩ (by omega) (by omega) dL_acts_216 (rfl : 216 + 1 = 217) lws_5 ?_
  refine z_aload C 12 rfl dL_acts_217 (rfl : 217 + 2 = 219) ?_
  refine z_iload C 0 rfl dL_acts_219 (rfl : 219 + 2 = 221) ?_
  refine z_iconst C dL_acts_221 (rfl : 221 + 1 = 222) ?_
  refine z_iadd C dL_acts_222 (rfl : 222 + 1 = 223) rfl ?_
  refine z_iconst C dL_acts_223 (rfl : 223 + 1 = 224) ?_
  refine z_iastN (i := (6 * t + 5)) C lwm_5 ⟨by omega, by omega⟩ (by omega) (by omega) dL_acts_224 (rfl : 224 + 1 = 225) lws_5 ?_
  refine z_aload C 13 rfl dL_acts_225 (rfl : 225 + 2 = 227) ?_
  refine z_iload C 4 rfl dL_acts_227 (rfl : 227 + 2 = 229) ?_
  refine z_dup2 C rfl rfl dL_acts_229 (rfl : 229 + 1 = 230) ?_
  refine z_iald C lwm_6 ⟨by omega, by omega⟩ (by omega) (rdA hn1 (by omega)) dL_acts_230 (rfl : 230 + 1 = 231) ?_
  refine z_iload C 2 rfl dL_acts_231 (rfl : 231 + 2 = 233) ?_
  refine z_isub C dL_acts_233 (rfl : 233 + 1 = 234) rfl ?_
  refine z_iastN (i := y) C lwm_6 ⟨by omega, by omega⟩ (by omega) (by omega) dL_acts_234 (rfl : 234 + 1 = 235) lws_6 ?_
  refine z_aload C 13 rfl dL_acts_235 (rfl : 235 + 2 = 237) ?_
  refine z_iconst C dL_acts_237 (rfl : 237 + 1 = 238) ?_
  refine z_iload C 4 rfl dL_acts_238 (rfl : 238 + 2 = 240) ?_
  refine z_iadd C dL_acts_240 (rfl : 240 + 1 = 241) rfl ?_
  refine z_dup2 C rfl rfl dL_acts_241 (rfl : 241 + 1 = 242) ?_
  refine z_iald C lwm_6 ⟨by omega, by omega⟩ (by omega) (rdA (b := 5 + y) (((va_up_ne (A 6) (V 22 y - pl) (show 5 + y ≠ y by omega)).trans hn2)) (by omega)) dL_acts_242 (rfl : 242 + 1 = 243) ?_
  refine z_iload C 2 rfl dL_acts_243 (rfl : 243 + 2 = 245) ?_
  refine z_iadd C dL_acts_245 (rfl : 245 + 1 = 246) rfl ?_
  refine z_iastN (i := (5 + y)) C lwm_6 ⟨by omega, by omega⟩ (by omega) (by omega) dL_acts_246 (rfl : 246 + 1 = 247) lws_6 ?_
  refine z_aload_n C 8 rfl rfl dL_acts_247 (rfl : 247 + 1 = 248) ?_
  refine z_iconst C dL_acts_248 (rfl : 248 + 1 = 249) ?_
  refine z_iload C 5 rfl dL_acts_249 (rfl : 249 + 2 = 251) ?_
  refine z_imul C dL_acts_251 (rfl : 251 + 1 = 252) rfl ?_
  refine z_iconst C dL_acts_252 (rfl : 252 + 1 = 253) ?_
  refine z_iadd C dL_acts_253 (rfl : 253 + 1 = 254) rfl ?_
  refine z_iload C 4 rfl dL_acts_254 (rfl : 254 + 2 = 256) ?_
  refine z_iastN (i := (4 * c + 3)) C lwm_1 ⟨by omega, by omega⟩ (by omega) (by omega) dL_acts_256 (rfl : 256 + 1 = 257) lws_1 ?_
  refine z_aload C 11 rfl dL_acts_257 (rfl : 257 + 2 = 259) ?_
  refine z_iload C 4 rfl dL_acts_259 (rfl : 259 + 2 = 261) ?_
  refine z_dup2 C rfl rfl dL_acts_261 (rfl : 261 + 1 = 262) ?_
  refine z_lald (x := B 4 (y)) C lwm_4 ⟨by omega, by omega⟩ (by omega) (congrArg (B 4) (by omega)) dL_acts_262 (rfl : 262 + 1 = 263) ?_
  refine z_aload C 11 rfl dL_acts_263 (rfl : 263 + 2 = 265) ?_
  refine z_aload_n C 8 rfl rfl dL_acts_265 (rfl : 265 + 1 = 266) ?_
  refine z_iconst C dL_acts_266 (rfl : 266 + 1 = 267) ?_
  refine z_iload C 5 rfl dL_acts_267 (rfl : 267 + 2 = 269) ?_
  refine z_imul C dL_acts_269 (rfl : 269 + 1 = 270) rfl ?_
  refine z_iconst C dL_acts_270 (rfl : 270 + 1 = 271) ?_
  refine z_iadd C dL_acts_271 (rfl : 271 + 1 = 272) rfl ?_
  refine z_iald C lwm_1 ⟨by omega, by omega⟩ (by omega) (rdA (b := 4 * c + 2) (((va_up_ne (A 1) (y : Int) (show 4 * c + 2 ≠ 4 * c + 3 by omega)).trans hcc)) (by omega)) dL_acts_272 (rfl : 272 + 1 = 273) ?_
  refine z_lald (x := B 4 (u)) C lwm_4 ⟨by omega, by omega⟩ (by omega) (congrArg (B 4) (by omega)) dL_acts_273 (rfl : 273 + 1 = 274) ?_
  refine z_lor C dL_acts_274 (rfl : 274 + 1 = 275) ?_
  refine z_lastN (i := y) C lwm_4 ⟨by omega, by omega⟩ (by omega) (by omega) dL_acts_275 (rfl : 275 + 1 = 276) lws_4 ?_
  refine z_aload C 15 rfl dL_acts_276 (rfl : 276 + 2 = 278) ?_
  refine z_iconst C dL_acts_278 (rfl : 278 + 1 = 279) ?_
  refine z_dup2 C rfl rfl dL_acts_279 (rfl : 279 + 1 = 280) ?_
  refine z_iald C lwm_8 ⟨by omega, by omega⟩ (by omega) (rdA hm.2.2.2.2 (by omega)) dL_acts_280 (rfl : 280 + 1 = 281) ?_
  refine z_iconst C dL_acts_281 (rfl : 281 + 1 = 282) ?_
  refine z_iadd C dL_acts_282 (rfl : 282 + 1 = 283) rfl ?_
  refine z_iastN (i := 4) C lwm_8 ⟨by omega, by omega⟩ (by omega) (by omega) dL_acts_283 (rfl : 283 + 1 = 284) lws_8 ?_
  refine z_aload_n C 6 rfl rfl dL_acts_284 (rfl : 284 + 1 = 285) ?_
  refine z_iload C 5 rfl dL_acts_285 (rfl : 285 + 2 = 287) ?_
  refine z_iload C 4 rfl dL_acts_287 (rfl : 287 + 2 = 289) ?_
  refine z_iload C 3 rfl dL_acts_289 (rfl : 289 + 2 = 291) ?_
  refine z_iload C 2 rfl dL_acts_291 (rfl : 291 + 2 = 293) ?_
  refine z_callH C (4) (240) (c_L_lent ⟨h.1.x8.1, h.1.x8.2.1⟩ (c_X5_lend (cz := (c : Int)) (hz := (y : Int)) (dz := d) (pz := pl) ⟨by omega, by omega⟩ ⟨by omega, by omega⟩ ⟨by omega, by omega⟩ ⟨by omega, by omega⟩ h hI.1 hI.2.1) mxP_ex (mxE3_ise ⟨⟨by omega, by omega⟩, by omega, by omega⟩ ⟨⟨by omega, by omega⟩, by omega, by omega⟩)) gL_acts_L_lent rfl hd90_L_lent ⟨Nat.le_of_ble_eq_true rfl, Nat.le_of_ble_eq_true rfl⟩ rfl (Nat.le_of_ble_eq_true rfl) dL_acts_293 (rfl : 293 + 3 = 296) rfl rfl ⟨by show 4 ≤ 10; omega, by show 240 ≤ 400; omega⟩ ?_ rfl
  rintro v w (⟨hP, rfl, hm⟩ | ⟨hbad, -, -⟩)
  rotate_left
  · exact (hbad ⟨h1, h2, h3, by omega⟩).elim
  obtain ⟨L', K', I', F', R', N', O', T', g', rfl, hg, hR⟩ := hm
  refine z_v1 ?_
  refine z_iload C 1 rfl dL_acts_296 (rfl : 296 + 2 = 298) ?_
  refine z_if_eq (pt := 310) C dL_acts_298 (by decide) (rfl : 298 + 3 = 301) (iI_eq0 (by decide)).1 (fun q => mt (iI_eq0 (by decide)).2 q) (fun c2 => ?_) (fun c2 => ?_)
  · exact absurd c2 (by decide)
  refine z_aload C 15 rfl dL_acts_301 (rfl : 301 + 2 = 303) ?_
  refine z_iconst C dL_acts_303 (rfl : 303 + 1 = 304) ?_
  refine z_iald C lwm_8 ⟨by omega, by omega⟩ (by omega) (rdA hW2.1.2.2.2.2 (by omega)) dL_acts_304 (rfl : 304 + 1 = 305) ?_
  refine z_iconst C dL_acts_305 (rfl : 305 + 1 = 306) ?_
  refine z_isub C dL_acts_306 (rfl : 306 + 1 = 307) rfl ?_
  refine z_goto (pc' := 312) C dL_acts_307 (by decide) ?_
  refine z_same (pt := 319) C (congrArg iI (by omega)) dL_acts_312 (by decide) (rfl : 312 + 3 = 315) ?_
  refine z_iconst C dL_acts_315 (rfl : 315 + 1 = 316) ?_
  refine z_goto (pc' := 320) C dL_acts_316 (by decide) ?_
  exact z_zret C rfl (.inr rfl) dL_acts_320 (hq _ ⟨_, _, _, _, _, _, L', K', I', F', R', N', O', T', g', rfl, hg, hR _ ⟨f, hf2, rfl⟩, hI2, hW2, show V 9 0 ≤ D + 12 by omega⟩) (by omega) (by omega)
theorem tl_L_lend (C : Cx κ cL_acts 19 wsL_acts RL (some .boolean) rmL_acts G base) {D z : Int} {way : Nat} (ht : t < 10) (hz : 0 ≤ z ∧ z < 20000000) (h : RX (gde G) L K I F R N O T g V n m t) (hI : LInv V n m t) (hW : LWr V n m t B A) (hD : V 9 0 ≤ D) (hq : ∀ w, INV5 G q (g 6 0) (D + 12) w → post (some (.int (iI 1))) w) (hmc : mc = 10) (hms : ms = 400) : Z κ 19 G base mc ms post exc 0 0 66 [(0, .ref (g 6 0)), (1, .ref (q 0)), (2, .ref (q 1)), (3, .ref (q 2)), (4, .ref (q 3)), (5, .ref (q 4)), (6, .ref (q 5)), (7, .ref (q 6)), (8, .ref (q 7)), (9, .ref (q 8)), (10, .int (iI (way : Int))), (11, .int (iI z))] [] (pw G (lwW G q B A) L K I F R N O) := by
  have hb := hI.2.2.1
  have hn1 := hI.1.2.1
  have j1 := Int.emod_nonneg z (show (n : Int) ≠ 0 by omega)
  have j2 := Int.emod_lt_of_pos z (show 0 < (n : Int) by omega)
  obtain ⟨c, ec⟩ : ∃ c : Nat, z % (n : Int) = (c : Int) := ⟨(z % (n : Int)).toNat, by omega⟩
  have hc : c < n := by omega
  have w6 := hI.1.2.2.2.2.2.1 c hc
  obtain ⟨y, ey⟩ : ∃ y : Nat, z / 16 % 5 = (y : Int) := ⟨(z / 16 % 5).toNat, by omega⟩
  have hy : y < 5 := by omega
  obtain ⟨u, eu⟩ : ∃ u : Nat, V 3 c = (u : Int) := ⟨(V 3 c).toNat, by omega⟩
  have hd : 1 ≤ 1 + z / 80 % 30 ∧ 1 + z / 80 % 30 ≤ 30 := by omega
  have hpl : 0 ≤ z / 2400 % 51 ∧ z / 2400 % 51 ≤ 50 := by omega
  obtain ⟨hn1, hn2⟩ := hW.2.2.2.2.2.2.2.1 y hy
  refine z_iload C 11 rfl dL_acts_66 (rfl : 66 + 2 = 68) ?_
  refine z_aload C 9 rfl dL_acts_68 (rfl : 68 + 2 = 70) ?_
  refine z_iconst C dL_acts_70 (rfl : 70 + 1 = 71) ?_
  refine z_iald C lwm_8 ⟨by omega, by omega⟩ (by omega) (rdA hW.1.1 (by omega)) dL_acts_71 (rfl : 71 + 1 = 72) ?_
  refine z_irem C ⟨by omega, by omega⟩ ⟨by omega, by omega⟩ rfl dL_acts_72 (rfl : 72 + 1 = 73) ?_
  refine z_topi (y := iI (c : Int)) (congrArg iI ec) ?_
  refine z_istore (lv' := [(12, _), (0, _), (1, _), (2, _), (3, _), (4, _), (5, _), (6, _), (7, _), (8, _), (9, _), (10, _), (11, _)]) C dL_acts_73 (rfl : 73 + 2 = 75) (by decide) rfl ?_
  refine z_iload C 12 rfl dL_acts_75 (rfl : 75 + 2 = 77) ?_
  refine z_bipush (c := 16) C (by decide) dL_acts_77 (rfl : 77 + 2 = 79) ?_
  refine z_iquo C ⟨by omega, by omega⟩ ⟨by omega, by omega⟩ rfl dL_acts_79 (rfl : 79 + 1 = 80) ?_
  refine z_iconst C dL_acts_80 (rfl : 80 + 1 = 81) ?_
  refine z_irem C ⟨by omega, by omega⟩ ⟨by omega, by omega⟩ rfl dL_acts_81 (rfl : 81 + 1 = 82) ?_
  refine z_topi (y := iI (y : Int)) (congrArg iI ey) ?_
  refine z_istore (lv' := [(13, _), (12, _), (0, _), (1, _), (2, _), (3, _), (4, _), (5, _), (6, _), (7, _), (8, _), (9, _), (10, _), (11, _)]) C dL_acts_82 (rfl : 82 + 2 = 84) (by decide) rfl ?_
  refine z_iconst C dL_acts_84 (rfl : 84 + 1 = 85) ?_
  refine z_iload C 13 rfl dL_acts_85 (rfl : 85 + 2 = 87) ?_
  refine z_bipush (c := 80) C (by decide) dL_acts_87 (rfl : 87 + 2 = 89) ?_
  refine z_iquo C ⟨by omega, by omega⟩ ⟨by omega, by omega⟩ rfl dL_acts_89 (rfl : 89 + 1 = 90) ?_
  refine z_bipush (c := 30) C (by decide) dL_acts_90 (rfl : 90 + 2 = 92) ?_
  refine z_irem C ⟨by omega, by omega⟩ ⟨by omega, by omega⟩ rfl dL_acts_92 (rfl : 92 + 1 = 93) ?_
  refine z_iadd C dL_acts_93 (rfl : 93 + 1 = 94) rfl ?_
  refine z_istore (lv' := [(14, _), (13, _), (12, _), (0, _), (1, _), (2, _), (3, _), (4, _), (5, _), (6, _), (7, _), (8, _), (9, _), (10, _), (11, _)]) C dL_acts_94 (rfl : 94 + 2 = 96) (by decide) rfl ?_
  refine z_iload C 14 rfl dL_acts_96 (rfl : 96 + 2 = 98) ?_
  refine z_sipush (c := 2400) C (by decide) dL_acts_98 (rfl : 98 + 3 = 101) ?_
  refine z_iquo C ⟨by omega, by omega⟩ ⟨by omega, by omega⟩ rfl dL_acts_101 (rfl : 101 + 1 = 102) ?_
  refine z_bipush (c := 51) C (by decide) dL_acts_102 (rfl : 102 + 2 = 104) ?_
  refine z_irem C ⟨by omega, by omega⟩ ⟨by omega, by omega⟩ rfl dL_acts_104 (rfl : 104 + 1 = 105) ?_
  refine z_istore (lv' := [(15, _), (14, _), (13, _), (12, _), (0, _), (1, _), (2, _), (3, _), (4, _), (5, _), (6, _), (7, _), (8, _), (9, _), (10, _), (11, _)]) C dL_acts_105 (rfl : 105 + 2 = 107) (by decide) rfl ?_
  refine z_aload_n C 6 rfl rfl dL_acts_107 (rfl : 107 + 1 = 108) ?_
  refine z_iconst C dL_acts_108 (rfl : 108 + 1 = 109) ?_
  refine z_iload C 3 rfl dL_acts_109 (rfl : 109 + 2 = 111) ?_
  refine z_imul C dL_acts_111 (rfl : 111 + 1 = 112) rfl ?_
  refine z_iconst C dL_acts_112 (rfl : 112 + 1 = 113) ?_
  refine z_iadd C dL_acts_113 (rfl : 113 + 1 = 114) rfl ?_
  refine z_iald C lwm_1 ⟨by omega, by omega⟩ (by omega) (rdA (hW.2.2.1 c hc).2.2.1 (by omega)) dL_acts_114 (rfl : 114 + 1 = 115) ?_
  refine z_iload C 2 rfl dL_acts_115 (rfl : 115 + 2 = 117) ?_
  refine z_icmp_eq (pt := 153) C dL_acts_117 (by decide) (rfl : 117 + 3 = 120) (iI_eq (by omega) (by omega)).1 (fun q => mt (iI_eq (by omega) (by omega)).2 q) (fun c1 => ?_) (fun c1 => ?_)
  · exact tl_L_lend0 C hc hy hd hpl ht (fun hh => hh.1 c1) hz h hI hW hD hq hmc hms
  refine z_aload_n C 6 rfl rfl dL_acts_120 (rfl : 120 + 1 = 121) ?_
  refine z_iconst C dL_acts_121 (rfl : 121 + 1 = 122) ?_
  refine z_iload C 3 rfl dL_acts_122 (rfl : 122 + 2 = 124) ?_
  refine z_imul C dL_acts_124 (rfl : 124 + 1 = 125) rfl ?_
  refine z_iconst C dL_acts_125 (rfl : 125 + 1 = 126) ?_
  refine z_iadd C dL_acts_126 (rfl : 126 + 1 = 127) rfl ?_
  refine z_iald C lwm_1 ⟨by omega, by omega⟩ (by omega) (rdA (hW.2.2.1 c hc).2.2.2 (by omega)) dL_acts_127 (rfl : 127 + 1 = 128) ?_
  refine z_aload_n C 6 rfl rfl dL_acts_128 (rfl : 128 + 1 = 129) ?_
  refine z_iconst C dL_acts_129 (rfl : 129 + 1 = 130) ?_
  refine z_iload C 3 rfl dL_acts_130 (rfl : 130 + 2 = 132) ?_
  refine z_imul C dL_acts_132 (rfl : 132 + 1 = 133) rfl ?_
  refine z_iconst C dL_acts_133 (rfl : 133 + 1 = 134) ?_
  refine z_iadd C dL_acts_134 (rfl : 134 + 1 = 135) rfl ?_
  refine z_iald C lwm_1 ⟨by omega, by omega⟩ (by omega) (rdA (hW.2.2.1 c hc).2.2.1 (by omega)) dL_acts_135 (rfl : 135 + 1 = 136) ?_
  refine z_icmp_ne (pt := 153) C dL_acts_136 (by decide) (rfl : 136 + 3 = 139) (fun q => mt (iI_eq (by omega) (by omega)).2 q) (iI_eq (by omega) (by omega)).1 (fun c2 => ?_) (fun c2 => ?_)
  · exact tl_L_lend0 C hc hy hd hpl ht (fun hh => c2 hh.2.1) hz h hI hW hD hq hmc hms
  refine z_aload C 11 rfl dL_acts_139 (rfl : 139 + 2 = 141) ?_
  refine z_iload C 2 rfl dL_acts_141 (rfl : 141 + 2 = 143) ?_
  refine z_iald C lwm_6 ⟨by omega, by omega⟩ (by omega) (rdA hn1 (by omega)) dL_acts_143 (rfl : 143 + 1 = 144) ?_
  refine z_iload C 0 rfl dL_acts_144 (rfl : 144 + 2 = 146) ?_
  refine z_icmp_lt (pt := 153) C dL_acts_146 (by decide) (rfl : 146 + 3 = 149) (Iff.rfl).1 (fun q => mt (Iff.rfl).2 q) (fun c3 => ?_) (fun c3 => ?_)
  · exact tl_L_lend0 C hc hy hd hpl ht (fun hh => hh.2.2 c3) hz h hI hW hD hq hmc hms
  refine z_iconst C dL_acts_149 (rfl : 149 + 1 = 150) ?_
  refine z_goto (pc' := 154) C dL_acts_150 (by decide) ?_
  refine z_istore (lv' := [(16, _), (15, _), (14, _), (13, _), (12, _), (0, _), (1, _), (2, _), (3, _), (4, _), (5, _), (6, _), (7, _), (8, _), (9, _), (10, _), (11, _)]) C dL_acts_154 (rfl : 154 + 2 = 156) (by decide) rfl ?_
  refine z_iload C 0 rfl dL_acts_156 (rfl : 156 + 2 = 158) ?_
  refine z_if_eq (pt := 284) C dL_acts_158 (by decide) (rfl : 158 + 3 = 161) (iI_eq0 (by decide)).1 (fun q => mt (iI_eq0 (by decide)).2 q) (fun c4 => ?_) (fun c4 => ?_)
  · exact absurd c4 (by decide)
  exact tl_L_lend1 C hc hy hd hpl ht c1 c2 c3 eu hz h hI hW hD hq hmc hms
theorem tl_L_back0 (C : Cx κ cL_acts 19 wsL_acts RL (some .boolean) rmL_acts G base) {D z : Int} {way : Nat} {y b u : Nat} {v17 v16 : Int32} (hy : y < t) (h20 : V 20 y = 1) (hz : 0 ≤ z ∧ z < 20000000) (h : RX (gde G) L K I F R N O T g V n m t) (hI : LInv V n m t) (hW : LWr V n m t B A) (hD : V 9 0 ≤ D) (hq : ∀ w, INV5 G q (g 6 0) (D + 12) w → post (some (.int (iI 1))) w) (hmc : mc = 10) (hms : ms = 400) : Z κ 19 G base mc ms post exc 0 0 431 [(17, .int v17), (16, .int v16), (15, .int (iI (u : Int))), (14, .int (iI (b : Int))), (13, .int (iI (6 * (y : Int)))), (12, .int (iI (y : Int))), (0, .ref (g 6 0)), (1, .ref (q 0)), (2, .ref (q 1)), (3, .ref (q 2)), (4, .ref (q 3)), (5, .ref (q 4)), (6, .ref (q 5)), (7, .ref (q 6)), (8, .ref (q 7)), (9, .ref (q 8)), (10, .int (iI (way : Int))), (11, .int (iI z))] [] (pw G (lwW G q B A) L K I F R N O) := by
  have hbn := hI.2.2.1
  have ho := hW.2.2.2.2.2.2.1 y hy
  refine z_aload C 12 rfl dL_acts_431 (rfl : 431 + 2 = 433) ?_
  refine z_iload C 4 rfl dL_acts_433 (rfl : 433 + 2 = 435) ?_
  refine z_iconst C dL_acts_435 (rfl : 435 + 1 = 436) ?_
  refine z_iadd C dL_acts_436 (rfl : 436 + 1 = 437) rfl ?_
  refine z_iald C lwm_5 ⟨by omega, by omega⟩ (by omega) (rdA ho.2.2.2.2.2 (by omega)) dL_acts_437 (rfl : 437 + 1 = 438) ?_
  refine z_if_ne (pt := 445) C dL_acts_438 (by decide) (rfl : 438 + 3 = 441) (fun q => mt (iI_eq0 (by omega)).2 q) (iI_eq0 (by omega)).1 (fun c1 => ?_) (fun c1 => ?_)
  rotate_left
  · exact absurd c1 (by omega)
  refine z_iconst C dL_acts_445 (rfl : 445 + 1 = 446) ?_
  refine z_istore (lv' := [(18, _), (17, _), (16, _), (15, _), (14, _), (13, _), (12, _), (0, _), (1, _), (2, _), (3, _), (4, _), (5, _), (6, _), (7, _), (8, _), (9, _), (10, _), (11, _)]) C dL_acts_446 (rfl : 446 + 2 = 448) (by decide) rfl ?_
  refine z_iload C 0 rfl dL_acts_448 (rfl : 448 + 2 = 450) ?_
  refine z_if_eq (pt := 541) C dL_acts_450 (by decide) (rfl : 450 + 3 = 453) (iI_eq0 (by decide)).1 (fun q => mt (iI_eq0 (by decide)).2 q) (fun c2 => ?_) (fun c2 => ?_)
  rotate_left
  · exact absurd rfl c2
  refine z_aload_n C 7 rfl rfl dL_acts_541 (rfl : 541 + 1 = 542) ?_
  refine z_iload C 6 rfl dL_acts_542 (rfl : 542 + 2 = 544) ?_
  refine z_callH C (2) (12) (c_L_given ⟨h.1.x8.1, h.1.x8.2.1⟩ (c_X5_giveBack (z := (y : Int)) ⟨by omega, by omega⟩ h hI.1) mxP_ex (mxE_ise ⟨by omega, by omega⟩)) gL_acts_L_given rfl hd90_L_given ⟨Nat.le_of_ble_eq_true rfl, Nat.le_of_ble_eq_true rfl⟩ rfl (Nat.le_of_ble_eq_true rfl) dL_acts_544 (rfl : 544 + 3 = 547) rfl rfl ⟨by show 2 ≤ 10; omega, by show 12 ≤ 400; omega⟩ ?_ rfl
  rintro v w (⟨hP, -, -⟩ | ⟨-, rfl, rfl⟩)
  · have e : V 20 y = 0 := hP.2
    omega
  refine z_v1 ?_
  refine z_iload C 0 rfl dL_acts_547 (rfl : 547 + 2 = 549) ?_
  refine z_if_eq (pt := 557) C dL_acts_549 (by decide) (rfl : 549 + 3 = 552) (iI_eq0 (by decide)).1 (fun q => mt (iI_eq0 (by decide)).2 q) (fun c3 => ?_) (fun c3 => ?_)
  rotate_left
  · exact absurd rfl c3
  refine z_bipush (c := (-7)) C (by decide) dL_acts_557 (rfl : 557 + 2 = 559) ?_
  refine z_same (pt := 566) C rfl dL_acts_559 (by decide) (rfl : 559 + 3 = 562) ?_
  refine z_iconst C dL_acts_562 (rfl : 562 + 1 = 563) ?_
  refine z_goto (pc' := 567) C dL_acts_563 (by decide) ?_
  exact z_zret C rfl (.inr rfl) dL_acts_567 (hq _ ⟨V, n, m, t, B, A, L, K, I, F, R, N, O, T, g, rfl, rfl, h, hI, hW, by omega⟩) (by omega) (by omega)
theorem tl_L_back1 (C : Cx κ cL_acts 19 wsL_acts RL (some .boolean) rmL_acts G base) {D z : Int} {way : Nat} {y b c u : Nat} {late lost : Int} (hy : y < t) (hb : V 16 y = (b : Int)) (hc : V 15 y = (c : Int)) (hu : V 3 c = (u : Int)) (h20 : V 20 y = 0) (h1 : late = lateOf (V 9 0) (V 17 y)) (h2 : lost = lostOf late (V 18 y)) (hz : 0 ≤ z ∧ z < 20000000) (h : RX (gde G) L K I F R N O T g V n m t) (hI : LInv V n m t) (hW : LWr V n m t B A) (hD : V 9 0 ≤ D) (hq : ∀ w, INV5 G q (g 6 0) (D + 12) w → post (some (.int (iI 1))) w) (hmc : mc = 10) (hms : ms = 400) : Z κ 19 G base mc ms post exc 0 0 431 [(17, .int (iI lost)), (16, .int (iI late)), (15, .int (iI (u : Int))), (14, .int (iI (b : Int))), (13, .int (iI (6 * (y : Int)))), (12, .int (iI (y : Int))), (0, .ref (g 6 0)), (1, .ref (q 0)), (2, .ref (q 1)), (3, .ref (q 2)), (4, .ref (q 3)), (5, .ref (q 4)), (6, .ref (q 5)), (7, .ref (q 6)), (8, .ref (q 7)), (9, .ref (q 8)), (10, .int (iI (way : Int))), (11, .int (iI z))] [] (pw G (lwW G q B A) L K I F R N O) := by
  have hbn := hI.2.2.1
  have ho := hW.2.2.2.2.2.2.1 y hy
  have hl := hI.1.2.2.2.2.2.2.2.2.2.1 y hy
  have hcn : c < n := by omega
  have hb5 : b < 5 := by omega
  have w6 := hI.1.2.2.2.2.2.1 c hcn
  have hu5 : u < 5 := by omega
  have hnb := hW.2.2.2.2.2.2.2.1 b hb5
  have hnu := hW.2.2.2.2.2.2.2.1 u hu5
  obtain ⟨f, hf⟩ := ex_gtL V m u b
  have hf2 : gtL V m (V 3 (V 15 ((y : Int).toNat)).toNat).toNat (V 16 ((y : Int).toNat)).toNat f := by
    have e1 : (V 15 ((y : Int).toNat)).toNat = c := by
      show (V 15 y).toNat = c
      omega
    have e2 : (V 16 ((y : Int).toNat)).toNat = b := by
      show (V 16 y).toNat = b
      omega
    have e3 : (V 3 c).toNat = u := by omega
    rw [e1, e2, e3]
    exact hf
  obtain ⟨hI2, hW2⟩ := mu_back hy hb hc hu hI hW hf h1 h2
  refine z_aload C 12 rfl dL_acts_431 (rfl : 431 + 2 = 433) ?_
  refine z_iload C 4 rfl dL_acts_433 (rfl : 433 + 2 = 435) ?_
  refine z_iconst C dL_acts_435 (rfl : 435 + 1 = 436) ?_
  refine z_iadd C dL_acts_436 (rfl : 436 + 1 = 437) rfl ?_
  refine z_iald C lwm_5 ⟨by omega, by omega⟩ (by omega) (rdA ho.2.2.2.2.2 (by omega)) dL_acts_437 (rfl : 437 + 1 = 438) ?_
  refine z_if_ne (pt := 445) C dL_acts_438 (by decide) (rfl : 438 + 3 = 441) (fun q => mt (iI_eq0 (by omega)).2 q) (iI_eq0 (by omega)).1 (fun c1 => ?_) (fun c1 => ?_)
  · exact absurd h20 c1
  refine z_iconst C dL_acts_441 (rfl : 441 + 1 = 442) ?_
  refine z_goto (pc' := 446) C dL_acts_442 (by decide) ?_
  refine z_istore (lv' := [(18, _), (17, _), (16, _), (15, _), (14, _), (13, _), (12, _), (0, _), (1, _), (2, _), (3, _), (4, _), (5, _), (6, _), (7, _), (8, _), (9, _), (10, _), (11, _)]) C dL_acts_446 (rfl : 446 + 2 = 448) (by decide) rfl ?_
  refine z_iload C 0 rfl dL_acts_448 (rfl : 448 + 2 = 450) ?_
  refine z_if_eq (pt := 541) C dL_acts_450 (by decide) (rfl : 450 + 3 = 453) (iI_eq0 (by decide)).1 (fun q => mt (iI_eq0 (by decide)).2 q) (fun c2 => ?_) (fun c2 => ?_)
  · exact absurd c2 (by decide)
  refine z_aload C 13 rfl dL_acts_453 (rfl : 453 + 2 = 455) ?_
  refine z_iload C 5 rfl dL_acts_455 (rfl : 455 + 2 = 457) ?_
  refine z_iconst C dL_acts_457 (rfl : 457 + 1 = 458) ?_
  refine z_iadd C dL_acts_458 (rfl : 458 + 1 = 459) rfl ?_
  refine z_iload C 2 rfl dL_acts_459 (rfl : 459 + 2 = 461) ?_
  refine z_iastN (i := (6 * y + 4)) C lwm_5 ⟨by omega, by omega⟩ (by omega) (by omega) dL_acts_461 (rfl : 461 + 1 = 462) lws_5 ?_
  refine z_aload C 13 rfl dL_acts_462 (rfl : 462 + 2 = 464) ?_
  refine z_iload C 5 rfl dL_acts_464 (rfl : 464 + 2 = 466) ?_
  refine z_iconst C dL_acts_466 (rfl : 466 + 1 = 467) ?_
  refine z_iadd C dL_acts_467 (rfl : 467 + 1 = 468) rfl ?_
  refine z_iconst C dL_acts_468 (rfl : 468 + 1 = 469) ?_
  refine z_iastN (i := (6 * y + 5)) C lwm_5 ⟨by omega, by omega⟩ (by omega) (by omega) dL_acts_469 (rfl : 469 + 1 = 470) lws_5 ?_
  refine z_aload C 14 rfl dL_acts_470 (rfl : 470 + 2 = 472) ?_
  refine z_iconst C dL_acts_472 (rfl : 472 + 1 = 473) ?_
  refine z_iload C 4 rfl dL_acts_473 (rfl : 473 + 2 = 475) ?_
  refine z_iadd C dL_acts_475 (rfl : 475 + 1 = 476) rfl ?_
  refine z_dup2 C rfl rfl dL_acts_476 (rfl : 476 + 1 = 477) ?_
  refine z_iald C lwm_6 ⟨by omega, by omega⟩ (by omega) (rdA hnb.2 (by omega)) dL_acts_477 (rfl : 477 + 1 = 478) ?_
  refine z_aload C 13 rfl dL_acts_478 (rfl : 478 + 2 = 480) ?_
  refine z_iload C 5 rfl dL_acts_480 (rfl : 480 + 2 = 482) ?_
  refine z_iconst C dL_acts_482 (rfl : 482 + 1 = 483) ?_
  refine z_iadd C dL_acts_483 (rfl : 483 + 1 = 484) rfl ?_
  refine z_iald C lwm_5 ⟨by omega, by omega⟩ (by omega) (rdA (b := 6 * y + 3) ((((va_up_ne (va_up (A 5) (6 * y + 4) late) (1 : Int) (show 6 * y + 3 ≠ 6 * y + 5 by omega)).trans (va_up_ne (A 5) late (show 6 * y + 3 ≠ 6 * y + 4 by omega))).trans ho.2.2.2.1)) (by omega)) dL_acts_484 (rfl : 484 + 1 = 485) ?_
  refine z_isub C dL_acts_485 (rfl : 485 + 1 = 486) rfl ?_
  refine z_iastN (i := (5 + b)) C lwm_6 ⟨by omega, by omega⟩ (by omega) (by omega) dL_acts_486 (rfl : 486 + 1 = 487) lws_6 ?_
  refine z_aload C 14 rfl dL_acts_487 (rfl : 487 + 2 = 489) ?_
  refine z_iload C 4 rfl dL_acts_489 (rfl : 489 + 2 = 491) ?_
  refine z_dup2 C rfl rfl dL_acts_491 (rfl : 491 + 1 = 492) ?_
  refine z_iald C lwm_6 ⟨by omega, by omega⟩ (by omega) (rdA (b := b) (((va_up_ne (A 6) (V 23 b - V 18 y) (show b ≠ 5 + b by omega)).trans hnb.1)) (by omega)) dL_acts_492 (rfl : 492 + 1 = 493) ?_
  refine z_aload C 13 rfl dL_acts_493 (rfl : 493 + 2 = 495) ?_
  refine z_iload C 5 rfl dL_acts_495 (rfl : 495 + 2 = 497) ?_
  refine z_iconst C dL_acts_497 (rfl : 497 + 1 = 498) ?_
  refine z_iadd C dL_acts_498 (rfl : 498 + 1 = 499) rfl ?_
  refine z_iald C lwm_5 ⟨by omega, by omega⟩ (by omega) (rdA (b := 6 * y + 3) ((((va_up_ne (va_up (A 5) (6 * y + 4) late) (1 : Int) (show 6 * y + 3 ≠ 6 * y + 5 by omega)).trans (va_up_ne (A 5) late (show 6 * y + 3 ≠ 6 * y + 4 by omega))).trans ho.2.2.2.1)) (by omega)) dL_acts_499 (rfl : 499 + 1 = 500) ?_
  refine z_iload C 1 rfl dL_acts_500 (rfl : 500 + 2 = 502) ?_
  refine z_isub C dL_acts_502 (rfl : 502 + 1 = 503) rfl ?_
  refine z_iadd C dL_acts_503 (rfl : 503 + 1 = 504) rfl ?_
  refine z_iastN (i := b) C lwm_6 ⟨by omega, by omega⟩ (by omega) (by omega) dL_acts_504 (rfl : 504 + 1 = 505) lws_6 ?_
  refine z_aload C 14 rfl dL_acts_505 (rfl : 505 + 2 = 507) ?_
  refine z_iload C 3 rfl dL_acts_507 (rfl : 507 + 2 = 509) ?_
  refine z_dup2 C rfl rfl dL_acts_509 (rfl : 509 + 1 = 510) ?_
  have e22 : va_up (va_up (A 6) (5 + b) (V 23 b - V 18 y)) b (V 22 b + (V 18 y - lost)) u = va_up (V 22) b (V 22 b + (V 18 y - lost)) u := by
    by_cases e : u = b
    · subst e; rw [va_up_self, va_up_self]
    · rw [va_up_ne _ _ e, va_up_ne _ _ e, va_up_ne _ _ (show u ≠ 5 + b by omega)]
      exact hnu.1
  refine z_iald C lwm_6 ⟨by omega, by omega⟩ (by omega) (rdA (b := u) (e22) (by omega)) dL_acts_510 (rfl : 510 + 1 = 511) ?_
  refine z_iload C 1 rfl dL_acts_511 (rfl : 511 + 2 = 513) ?_
  refine z_iadd C dL_acts_513 (rfl : 513 + 1 = 514) rfl ?_
  refine z_iastN (i := u) C lwm_6 ⟨by omega, by omega⟩ (by omega) (by omega) dL_acts_514 (rfl : 514 + 1 = 515) lws_6 ?_
  refine z_aload_n C 9 rfl rfl dL_acts_515 (rfl : 515 + 1 = 516) ?_
  refine z_iconst C dL_acts_516 (rfl : 516 + 1 = 517) ?_
  refine z_aload C 13 rfl dL_acts_517 (rfl : 517 + 2 = 519) ?_
  refine z_iload C 5 rfl dL_acts_519 (rfl : 519 + 2 = 521) ?_
  refine z_iald C lwm_5 ⟨by omega, by omega⟩ (by omega) (rdA (b := 6 * y) ((((va_up_ne (va_up (A 5) (6 * y + 4) late) (1 : Int) (show 6 * y ≠ 6 * y + 5 by omega)).trans (va_up_ne (A 5) late (show 6 * y ≠ 6 * y + 4 by omega))).trans (ho.1.trans hc))) (by omega)) dL_acts_521 (rfl : 521 + 1 = 522) ?_
  refine z_imul C dL_acts_522 (rfl : 522 + 1 = 523) rfl ?_
  refine z_iconst C dL_acts_523 (rfl : 523 + 1 = 524) ?_
  refine z_iadd C dL_acts_524 (rfl : 524 + 1 = 525) rfl ?_
  refine z_iload C 3 rfl dL_acts_525 (rfl : 525 + 2 = 527) ?_
  refine z_iastN (i := (4 * c + 3)) C lwm_1 ⟨by omega, by omega⟩ (by omega) (by omega) dL_acts_527 (rfl : 527 + 1 = 528) lws_1 ?_
  refine z_aload C 12 rfl dL_acts_528 (rfl : 528 + 2 = 530) ?_
  refine z_iload C 3 rfl dL_acts_530 (rfl : 530 + 2 = 532) ?_
  refine z_dup2 C rfl rfl dL_acts_532 (rfl : 532 + 1 = 533) ?_
  refine z_lald (x := B 4 (u)) C lwm_4 ⟨by omega, by omega⟩ (by omega) (congrArg (B 4) (by omega)) dL_acts_533 (rfl : 533 + 1 = 534) ?_
  refine z_aload C 12 rfl dL_acts_534 (rfl : 534 + 2 = 536) ?_
  refine z_iload C 4 rfl dL_acts_536 (rfl : 536 + 2 = 538) ?_
  refine z_lald (x := B 4 (b)) C lwm_4 ⟨by omega, by omega⟩ (by omega) (congrArg (B 4) (by omega)) dL_acts_538 (rfl : 538 + 1 = 539) ?_
  refine z_lor C dL_acts_539 (rfl : 539 + 1 = 540) ?_
  refine z_lastN (i := u) C lwm_4 ⟨by omega, by omega⟩ (by omega) (by omega) dL_acts_540 (rfl : 540 + 1 = 541) lws_4 ?_
  refine z_aload_n C 7 rfl rfl dL_acts_541 (rfl : 541 + 1 = 542) ?_
  refine z_iload C 6 rfl dL_acts_542 (rfl : 542 + 2 = 544) ?_
  refine z_callH C (2) (12) (c_L_given ⟨h.1.x8.1, h.1.x8.2.1⟩ (c_X5_giveBack (z := (y : Int)) ⟨by omega, by omega⟩ h hI.1) mxP_ex (mxE_ise ⟨by omega, by omega⟩)) gL_acts_L_given rfl hd90_L_given ⟨Nat.le_of_ble_eq_true rfl, Nat.le_of_ble_eq_true rfl⟩ rfl (Nat.le_of_ble_eq_true rfl) dL_acts_544 (rfl : 544 + 3 = 547) rfl rfl ⟨by show 2 ≤ 10; omega, by show 12 ≤ 400; omega⟩ ?_ rfl
  rintro v w (⟨hP, rfl, hm⟩ | ⟨hbad, -, -⟩)
  rotate_left
  · exact (hbad h20).elim
  obtain ⟨L', K', I', F', R', N', O', T', g', rfl, hg, hR⟩ := hm
  refine z_v1 ?_
  refine z_iload C 0 rfl dL_acts_547 (rfl : 547 + 2 = 549) ?_
  refine z_if_eq (pt := 557) C dL_acts_549 (by decide) (rfl : 549 + 3 = 552) (iI_eq0 (by decide)).1 (fun q => mt (iI_eq0 (by decide)).2 q) (fun c3 => ?_) (fun c3 => ?_)
  · exact absurd c3 (by decide)
  refine z_iload C 1 rfl dL_acts_552 (rfl : 552 + 2 = 554) ?_
  refine z_goto (pc' := 559) C dL_acts_554 (by decide) ?_
  refine z_same (pt := 566) C (congrArg iI (show lostOf (lateOf (V 9 0) (V 17 y)) (V 18 y) = lost by rw [h2, h1])) dL_acts_559 (by decide) (rfl : 559 + 3 = 562) ?_
  refine z_iconst C dL_acts_562 (rfl : 562 + 1 = 563) ?_
  refine z_goto (pc' := 567) C dL_acts_563 (by decide) ?_
  exact z_zret C rfl (.inr rfl) dL_acts_567 (hq _ ⟨_, _, _, _, _, _, L', K', I', F', R', N', O', T', g', rfl, hg, hR _ ⟨f, hf2, rfl⟩, hI2, hW2, show V 9 0 ≤ D + 12 by omega⟩) (by omega) (by omega)
theorem tl_L_back (C : Cx κ cL_acts 19 wsL_acts RL (some .boolean) rmL_acts G base) {D z : Int} {way : Nat} (ht : 0 < t) (hz : 0 ≤ z ∧ z < 20000000) (h : RX (gde G) L K I F R N O T g V n m t) (hI : LInv V n m t) (hW : LWr V n m t B A) (hD : V 9 0 ≤ D) (hq : ∀ w, INV5 G q (g 6 0) (D + 12) w → post (some (.int (iI 1))) w) (hmc : mc = 10) (hms : ms = 400) : Z κ 19 G base mc ms post exc 0 0 335 [(0, .ref (g 6 0)), (1, .ref (q 0)), (2, .ref (q 1)), (3, .ref (q 2)), (4, .ref (q 3)), (5, .ref (q 4)), (6, .ref (q 5)), (7, .ref (q 6)), (8, .ref (q 7)), (9, .ref (q 8)), (10, .int (iI (way : Int))), (11, .int (iI z))] [] (pw G (lwW G q B A) L K I F R N O) := by
  have hbn := hI.2.2.1
  have hn1 := hI.1.2.1
  have j1 := Int.emod_nonneg (z / 3) (show (t : Int) ≠ 0 by omega)
  have j2 := Int.emod_lt_of_pos (z / 3) (show 0 < (t : Int) by omega)
  obtain ⟨y, ey⟩ : ∃ y : Nat, z / 3 % (t : Int) = (y : Int) := ⟨(z / 3 % (t : Int)).toNat, by omega⟩
  have hy : y < t := by omega
  have ho := hW.2.2.2.2.2.2.1 y hy
  have hl := hI.1.2.2.2.2.2.2.2.2.2.1 y hy
  have h20 := hI.1.2.2.2.2.2.2.2.2.2.2.1 y (by omega)
  have h9 := hI.1.2.2.2.2.2.2.2.2.2.2.2
  obtain ⟨b, eb⟩ : ∃ b : Nat, V 16 y = (b : Int) := ⟨(V 16 y).toNat, by omega⟩
  obtain ⟨c, ec⟩ : ∃ c : Nat, V 15 y = (c : Int) := ⟨(V 15 y).toNat, by omega⟩
  have hcn : c < n := by omega
  have w6 := hI.1.2.2.2.2.2.1 c hcn
  obtain ⟨u, eu⟩ : ∃ u : Nat, V 3 c = (u : Int) := ⟨(V 3 c).toNat, by omega⟩
  refine z_iload C 11 rfl dL_acts_335 (rfl : 335 + 2 = 337) ?_
  refine z_iconst C dL_acts_337 (rfl : 337 + 1 = 338) ?_
  refine z_iquo C ⟨by omega, by omega⟩ ⟨by omega, by omega⟩ rfl dL_acts_338 (rfl : 338 + 1 = 339) ?_
  refine z_aload C 9 rfl dL_acts_339 (rfl : 339 + 2 = 341) ?_
  refine z_iconst C dL_acts_341 (rfl : 341 + 1 = 342) ?_
  refine z_iald C lwm_8 ⟨by omega, by omega⟩ (by omega) (rdA hW.1.2.2.2.2 (by omega)) dL_acts_342 (rfl : 342 + 1 = 343) ?_
  refine z_irem C ⟨by omega, by omega⟩ ⟨by omega, by omega⟩ rfl dL_acts_343 (rfl : 343 + 1 = 344) ?_
  refine z_topi (y := iI (y : Int)) (congrArg iI ey) ?_
  refine z_istore (lv' := [(12, _), (0, _), (1, _), (2, _), (3, _), (4, _), (5, _), (6, _), (7, _), (8, _), (9, _), (10, _), (11, _)]) C dL_acts_344 (rfl : 344 + 2 = 346) (by decide) rfl ?_
  refine z_bipush (c := 6) C (by decide) dL_acts_346 (rfl : 346 + 2 = 348) ?_
  refine z_iload C 0 rfl dL_acts_348 (rfl : 348 + 2 = 350) ?_
  refine z_imul C dL_acts_350 (rfl : 350 + 1 = 351) rfl ?_
  refine z_istore (lv' := [(13, _), (12, _), (0, _), (1, _), (2, _), (3, _), (4, _), (5, _), (6, _), (7, _), (8, _), (9, _), (10, _), (11, _)]) C dL_acts_351 (rfl : 351 + 2 = 353) (by decide) rfl ?_
  refine z_aload C 8 rfl dL_acts_353 (rfl : 353 + 2 = 355) ?_
  refine z_iload C 0 rfl dL_acts_355 (rfl : 355 + 2 = 357) ?_
  refine z_iconst C dL_acts_357 (rfl : 357 + 1 = 358) ?_
  refine z_iadd C dL_acts_358 (rfl : 358 + 1 = 359) rfl ?_
  refine z_iald C lwm_5 ⟨by omega, by omega⟩ (by omega) (rdA (ho.2.1.trans eb) (by omega)) dL_acts_359 (rfl : 359 + 1 = 360) ?_
  refine z_istore (lv' := [(14, _), (13, _), (12, _), (0, _), (1, _), (2, _), (3, _), (4, _), (5, _), (6, _), (7, _), (8, _), (9, _), (10, _), (11, _)]) C dL_acts_360 (rfl : 360 + 2 = 362) (by decide) rfl ?_
  refine z_aload_n C 5 rfl rfl dL_acts_362 (rfl : 362 + 1 = 363) ?_
  refine z_iconst C dL_acts_363 (rfl : 363 + 1 = 364) ?_
  refine z_aload C 9 rfl dL_acts_364 (rfl : 364 + 2 = 366) ?_
  refine z_iload C 1 rfl dL_acts_366 (rfl : 366 + 2 = 368) ?_
  refine z_iald C lwm_5 ⟨by omega, by omega⟩ (by omega) (rdA (ho.1.trans ec) (by omega)) dL_acts_368 (rfl : 368 + 1 = 369) ?_
  refine z_imul C dL_acts_369 (rfl : 369 + 1 = 370) rfl ?_
  refine z_iconst C dL_acts_370 (rfl : 370 + 1 = 371) ?_
  refine z_iadd C dL_acts_371 (rfl : 371 + 1 = 372) rfl ?_
  refine z_iald C lwm_1 ⟨by omega, by omega⟩ (by omega) (rdA ((hW.2.2.1 c hcn).2.2.1.trans eu) (by omega)) dL_acts_372 (rfl : 372 + 1 = 373) ?_
  refine z_istore (lv' := [(15, _), (14, _), (13, _), (12, _), (0, _), (1, _), (2, _), (3, _), (4, _), (5, _), (6, _), (7, _), (8, _), (9, _), (10, _), (11, _)]) C dL_acts_373 (rfl : 373 + 2 = 375) (by decide) rfl ?_
  refine z_aload C 10 rfl dL_acts_375 (rfl : 375 + 2 = 377) ?_
  refine z_aload C 13 rfl dL_acts_377 (rfl : 377 + 2 = 379) ?_
  refine z_iload C 3 rfl dL_acts_379 (rfl : 379 + 2 = 381) ?_
  refine z_callS C (0) (0) (c_L_late hy hI hW.1 hW.2.2.2.2.2.2.1) gL_acts_L_late rfl hd90_L_late ⟨Nat.le_of_ble_eq_true rfl, Nat.le_of_ble_eq_true rfl⟩ rfl (Nat.le_of_ble_eq_true rfl) dL_acts_381 (rfl : 381 + 3 = 384) rfl rfl ⟨by show 0 ≤ 10; omega, by show 0 ≤ 400; omega⟩ (fun _ _ h => h.elim) ?_ rfl
  rintro _ _ ⟨rfl, rfl⟩
  refine z_v1 ?_
  rcases h20 with q0 | q1
  · rw [if_neg (show ¬ V 20 y = 1 by omega)]
    have hlr : 0 ≤ lateOf (V 9 0) (V 17 y) ∧ lateOf (V 9 0) (V 17 y) ≤ 2000 := by unfold lateOf; split <;> omega
    refine z_istore (lv' := [(16, _), (15, _), (14, _), (13, _), (12, _), (0, _), (1, _), (2, _), (3, _), (4, _), (5, _), (6, _), (7, _), (8, _), (9, _), (10, _), (11, _)]) C dL_acts_384 (rfl : 384 + 2 = 386) (by decide) rfl ?_
    refine z_iload C 0 rfl dL_acts_386 (rfl : 386 + 2 = 388) ?_
    refine z_if_ne (pt := 395) C dL_acts_388 (by decide) (rfl : 388 + 3 = 391) (fun q => mt (iI_eq0 (by omega)).2 q) (iI_eq0 (by omega)).1 (fun c1 => ?_) (fun c1 => ?_)
    rotate_left
    · refine z_iconst C dL_acts_391 (rfl : 391 + 1 = 392) ?_
      refine z_goto (pc' := 429) C dL_acts_392 (by decide) ?_
      refine z_istore (lv' := [(17, _), (16, _), (15, _), (14, _), (13, _), (12, _), (0, _), (1, _), (2, _), (3, _), (4, _), (5, _), (6, _), (7, _), (8, _), (9, _), (10, _), (11, _)]) C dL_acts_429 (rfl : 429 + 2 = 431) (by decide) rfl ?_
      exact tl_L_back1 C hy eb ec eu q0 rfl (by unfold lostOf; rw [if_pos c1]) hz h hI hW hD hq hmc hms
    refine z_iload C 0 rfl dL_acts_395 (rfl : 395 + 2 = 397) ?_
    refine z_bipush (c := 10) C (by decide) dL_acts_397 (rfl : 397 + 2 = 399) ?_
    refine z_icmp_le (pt := 412) C dL_acts_399 (by decide) (rfl : 399 + 3 = 402) (iI_le (by omega) (by omega)).1 (fun q => mt (iI_le (by omega) (by omega)).2 q) (fun c2 => ?_) (fun c2 => ?_)
    · refine z_aload C 11 rfl dL_acts_412 (rfl : 412 + 2 = 414) ?_
      refine z_iload C 3 rfl dL_acts_414 (rfl : 414 + 2 = 416) ?_
      refine z_iconst C dL_acts_416 (rfl : 416 + 1 = 417) ?_
      refine z_iadd C dL_acts_417 (rfl : 417 + 1 = 418) rfl ?_
      refine z_iald C lwm_5 ⟨by omega, by omega⟩ (by omega) (rdA ho.2.2.2.1 (by omega)) dL_acts_418 (rfl : 418 + 1 = 419) ?_
      refine z_aload C 11 rfl dL_acts_419 (rfl : 419 + 2 = 421) ?_
      refine z_iload C 3 rfl dL_acts_421 (rfl : 421 + 2 = 423) ?_
      refine z_iconst C dL_acts_423 (rfl : 423 + 1 = 424) ?_
      refine z_iadd C dL_acts_424 (rfl : 424 + 1 = 425) rfl ?_
      refine z_iald C lwm_5 ⟨by omega, by omega⟩ (by omega) (rdA ho.2.2.2.1 (by omega)) dL_acts_425 (rfl : 425 + 1 = 426) ?_
      refine z_iconst C dL_acts_426 (rfl : 426 + 1 = 427) ?_
      refine z_iquo C ⟨by omega, by omega⟩ ⟨by omega, by omega⟩ rfl dL_acts_427 (rfl : 427 + 1 = 428) ?_
      refine z_isub C dL_acts_428 (rfl : 428 + 1 = 429) rfl ?_
      refine z_topi (y := iI ((V 18 y + 1) / 2)) (congrArg iI (by omega)) ?_
      refine z_istore (lv' := [(17, _), (16, _), (15, _), (14, _), (13, _), (12, _), (0, _), (1, _), (2, _), (3, _), (4, _), (5, _), (6, _), (7, _), (8, _), (9, _), (10, _), (11, _)]) C dL_acts_429 (rfl : 429 + 2 = 431) (by decide) rfl ?_
      exact tl_L_back1 C hy eb ec eu q0 rfl (by unfold lostOf; rw [if_neg c1, if_pos c2]) hz h hI hW hD hq hmc hms
    · refine z_aload C 11 rfl dL_acts_402 (rfl : 402 + 2 = 404) ?_
      refine z_iload C 3 rfl dL_acts_404 (rfl : 404 + 2 = 406) ?_
      refine z_iconst C dL_acts_406 (rfl : 406 + 1 = 407) ?_
      refine z_iadd C dL_acts_407 (rfl : 407 + 1 = 408) rfl ?_
      refine z_iald C lwm_5 ⟨by omega, by omega⟩ (by omega) (rdA ho.2.2.2.1 (by omega)) dL_acts_408 (rfl : 408 + 1 = 409) ?_
      refine z_goto (pc' := 429) C dL_acts_409 (by decide) ?_
      refine z_istore (lv' := [(17, _), (16, _), (15, _), (14, _), (13, _), (12, _), (0, _), (1, _), (2, _), (3, _), (4, _), (5, _), (6, _), (7, _), (8, _), (9, _), (10, _), (11, _)]) C dL_acts_429 (rfl : 429 + 2 = 431) (by decide) rfl ?_
      exact tl_L_back1 C hy eb ec eu q0 rfl (by unfold lostOf; rw [if_neg c1, if_neg c2]) hz h hI hW hD hq hmc hms
  · rw [if_pos q1]
    refine z_istore (lv' := [(16, _), (15, _), (14, _), (13, _), (12, _), (0, _), (1, _), (2, _), (3, _), (4, _), (5, _), (6, _), (7, _), (8, _), (9, _), (10, _), (11, _)]) C dL_acts_384 (rfl : 384 + 2 = 386) (by decide) rfl ?_
    refine z_iload C 0 rfl dL_acts_386 (rfl : 386 + 2 = 388) ?_
    refine z_if_ne (pt := 395) C dL_acts_388 (by decide) (rfl : 388 + 3 = 391) (fun q => mt (Iff.rfl).2 q) (Iff.rfl).1 (fun c1 => ?_) (fun c1 => ?_)
    rotate_left
    · refine z_iconst C dL_acts_391 (rfl : 391 + 1 = 392) ?_
      refine z_goto (pc' := 429) C dL_acts_392 (by decide) ?_
      refine z_istore (lv' := [(17, _), (16, _), (15, _), (14, _), (13, _), (12, _), (0, _), (1, _), (2, _), (3, _), (4, _), (5, _), (6, _), (7, _), (8, _), (9, _), (10, _), (11, _)]) C dL_acts_429 (rfl : 429 + 2 = 431) (by decide) rfl ?_
      exact tl_L_back0 C hy q1 hz h hI hW hD hq hmc hms
    refine z_iload C 0 rfl dL_acts_395 (rfl : 395 + 2 = 397) ?_
    refine z_bipush (c := 10) C (by decide) dL_acts_397 (rfl : 397 + 2 = 399) ?_
    refine z_icmp_le (pt := 412) C dL_acts_399 (by decide) (rfl : 399 + 3 = 402) (Iff.rfl).1 (fun q => mt (Iff.rfl).2 q) (fun c2 => ?_) (fun c2 => ?_)
    · refine z_aload C 11 rfl dL_acts_412 (rfl : 412 + 2 = 414) ?_
      refine z_iload C 3 rfl dL_acts_414 (rfl : 414 + 2 = 416) ?_
      refine z_iconst C dL_acts_416 (rfl : 416 + 1 = 417) ?_
      refine z_iadd C dL_acts_417 (rfl : 417 + 1 = 418) rfl ?_
      refine z_iald C lwm_5 ⟨by omega, by omega⟩ (by omega) (rdA ho.2.2.2.1 (by omega)) dL_acts_418 (rfl : 418 + 1 = 419) ?_
      refine z_aload C 11 rfl dL_acts_419 (rfl : 419 + 2 = 421) ?_
      refine z_iload C 3 rfl dL_acts_421 (rfl : 421 + 2 = 423) ?_
      refine z_iconst C dL_acts_423 (rfl : 423 + 1 = 424) ?_
      refine z_iadd C dL_acts_424 (rfl : 424 + 1 = 425) rfl ?_
      refine z_iald C lwm_5 ⟨by omega, by omega⟩ (by omega) (rdA ho.2.2.2.1 (by omega)) dL_acts_425 (rfl : 425 + 1 = 426) ?_
      refine z_iconst C dL_acts_426 (rfl : 426 + 1 = 427) ?_
      refine z_iquo C ⟨by omega, by omega⟩ ⟨by omega, by omega⟩ rfl dL_acts_427 (rfl : 427 + 1 = 428) ?_
      refine z_isub C dL_acts_428 (rfl : 428 + 1 = 429) rfl ?_
      refine z_istore (lv' := [(17, _), (16, _), (15, _), (14, _), (13, _), (12, _), (0, _), (1, _), (2, _), (3, _), (4, _), (5, _), (6, _), (7, _), (8, _), (9, _), (10, _), (11, _)]) C dL_acts_429 (rfl : 429 + 2 = 431) (by decide) rfl ?_
      exact tl_L_back0 C hy q1 hz h hI hW hD hq hmc hms
    · refine z_aload C 11 rfl dL_acts_402 (rfl : 402 + 2 = 404) ?_
      refine z_iload C 3 rfl dL_acts_404 (rfl : 404 + 2 = 406) ?_
      refine z_iconst C dL_acts_406 (rfl : 406 + 1 = 407) ?_
      refine z_iadd C dL_acts_407 (rfl : 407 + 1 = 408) rfl ?_
      refine z_iald C lwm_5 ⟨by omega, by omega⟩ (by omega) (rdA ho.2.2.2.1 (by omega)) dL_acts_408 (rfl : 408 + 1 = 409) ?_
      refine z_goto (pc' := 429) C dL_acts_409 (by decide) ?_
      refine z_istore (lv' := [(17, _), (16, _), (15, _), (14, _), (13, _), (12, _), (0, _), (1, _), (2, _), (3, _), (4, _), (5, _), (6, _), (7, _), (8, _), (9, _), (10, _), (11, _)]) C dL_acts_429 (rfl : 429 + 2 = 431) (by decide) rfl ?_
      exact tl_L_back0 C hy q1 hz h hI hW hD hq hmc hms
theorem tl_L_pass (C : Cx κ cL_acts 19 wsL_acts RL (some .boolean) rmL_acts G base) {D z : Int} {way : Nat} (hz : 0 ≤ z ∧ z < 20000000) (h : RX (gde G) L K I F R N O T g V n m t) (hI : LInv V n m t) (hW : LWr V n m t B A) (hD : V 9 0 ≤ D) (hD2 : D ≤ 1988) (hq : ∀ w, INV5 G q (g 6 0) (D + 12) w → post (some (.int (iI 1))) w) (hmc : mc = 10) (hms : ms = 400) : Z κ 19 G base mc ms post exc 0 0 568 [(0, .ref (g 6 0)), (1, .ref (q 0)), (2, .ref (q 1)), (3, .ref (q 2)), (4, .ref (q 3)), (5, .ref (q 4)), (6, .ref (q 5)), (7, .ref (q 6)), (8, .ref (q 7)), (9, .ref (q 8)), (10, .int (iI (way : Int))), (11, .int (iI z))] [] (pw G (lwW G q B A) L K I F R N O) := by
  have h9 := hI.1.2.2.2.2.2.2.2.2.2.2.2
  have hd : 1 ≤ 1 + z % 12 ∧ 1 + z % 12 ≤ 12 := by omega
  obtain ⟨hI2, hW2⟩ := mu_pass (z := V 9 0 + (1 + z % 12)) ⟨by omega, by omega⟩ hI hW
  refine z_iconst C dL_acts_568 (rfl : 568 + 1 = 569) ?_
  refine z_iload C 11 rfl dL_acts_569 (rfl : 569 + 2 = 571) ?_
  refine z_bipush (c := 12) C (by decide) dL_acts_571 (rfl : 571 + 2 = 573) ?_
  refine z_irem C ⟨by omega, by omega⟩ ⟨by omega, by omega⟩ rfl dL_acts_573 (rfl : 573 + 1 = 574) ?_
  refine z_iadd C dL_acts_574 (rfl : 574 + 1 = 575) rfl ?_
  refine z_istore (lv' := [(12, _), (0, _), (1, _), (2, _), (3, _), (4, _), (5, _), (6, _), (7, _), (8, _), (9, _), (10, _), (11, _)]) C dL_acts_575 (rfl : 575 + 2 = 577) (by decide) rfl ?_
  refine z_aload C 10 rfl dL_acts_577 (rfl : 577 + 2 = 579) ?_
  refine z_iconst C dL_acts_579 (rfl : 579 + 1 = 580) ?_
  refine z_dup2 C rfl rfl dL_acts_580 (rfl : 580 + 1 = 581) ?_
  refine z_iald C lwm_8 ⟨by omega, by omega⟩ (by omega) (rdA hW.1.2.2.1 (by omega)) dL_acts_581 (rfl : 581 + 1 = 582) ?_
  refine z_iload C 0 rfl dL_acts_582 (rfl : 582 + 2 = 584) ?_
  refine z_iadd C dL_acts_584 (rfl : 584 + 1 = 585) rfl ?_
  refine z_iastN (i := 2) C lwm_8 ⟨by omega, by omega⟩ (by omega) (by omega) dL_acts_585 (rfl : 585 + 1 = 586) lws_8 ?_
  refine z_aload_n C 1 rfl rfl dL_acts_586 (rfl : 586 + 1 = 587) ?_
  refine z_iload C 0 rfl dL_acts_587 (rfl : 587 + 2 = 589) ?_
  refine z_callV C (1) (6) (c_X5_pass (z := 1 + z % 12) ⟨by omega, by omega⟩ h hI.1) gL_acts_X5_pass rfl hd90_X5_pass ⟨Nat.le_of_ble_eq_true rfl, Nat.le_of_ble_eq_true rfl⟩ (pwm_MC h.1.x8.1 h.1.x8.2.1) rfl rfl (Nat.le_of_ble_eq_true rfl) dL_acts_589 (rfl : 589 + 3 = 592) rfl rfl ⟨by show 1 ≤ 10; omega, by show 6 ≤ 400; omega⟩ (fun E w hE => mxE_no ⟨by omega, by omega⟩ (by omega) hE) ?_ rfl
  rintro v w ⟨hP, rfl, hm⟩
  obtain ⟨L', K', I', F', R', N', O', T', g', rfl, hg, hR⟩ := hm
  refine z_v1 ?_
  refine z_aload C 10 rfl dL_acts_592 (rfl : 592 + 2 = 594) ?_
  refine z_iconst C dL_acts_594 (rfl : 594 + 1 = 595) ?_
  refine z_iald C lwm_8 ⟨by omega, by omega⟩ (by omega) (rdA hW2.1.2.2.1 (by omega)) dL_acts_595 (rfl : 595 + 1 = 596) ?_
  refine z_same (pt := 603) C rfl dL_acts_596 (by decide) (rfl : 596 + 3 = 599) ?_
  refine z_iconst C dL_acts_599 (rfl : 599 + 1 = 600) ?_
  refine z_goto (pc' := 604) C dL_acts_600 (by decide) ?_
  exact z_zret C rfl (.inr rfl) dL_acts_604 (hq _ ⟨_, _, _, _, _, _, L', K', I', F', R', N', O', T', g', rfl, hg, hR _ rfl, hI2, hW2, show V 9 0 + (1 + z % 12) ≤ D + 12 by omega⟩) (by omega) (by omega)
theorem c_L_acts {D z : Int} {way : Nat} (hway : way < 20) (hz : 0 ≤ z ∧ z < 20000000) (h : RX (gde G) L K I F R N O T g V n m t) (hI : LInv V n m t) (hW : LWr V n m t B A) (hD : V 9 0 ≤ D) (hD2 : D ≤ 1988) : MC l yL_acts wsL_acts rmL_acts G base [.ref (g 6 0), .ref (q 0), .ref (q 1), .ref (q 2), .ref (q 3), .ref (q 4), .ref (q 5), .ref (q 6), .ref (q 7), .ref (q 8), .int (iI (way : Int)), .int (iI z)] (pw G (lwW G q B A) L K I F R N O) (fun v w => v = some (.int (iI 1)) ∧ INV5 G q (g 6 0) (D + 12) w) (fun _ _ => False) := by
  refine MC.of (cc := cL_acts) (by decide) rfl rfl (Nat.le_of_ble_eq_true rfl) ?_
  intro κ C hT hl hnm
  have hbn := hI.2.2.1
  refine z_sub [0, 1, 2, 3, 4, 5, 6, 7, 8, 9, 10, 11] (lv' := [(0, .ref (g 6 0)), (1, .ref (q 0)), (2, .ref (q 1)), (3, .ref (q 2)), (4, .ref (q 3)), (5, .ref (q 4)), (6, .ref (q 5)), (7, .ref (q 6)), (8, .ref (q 7)), (9, .ref (q 8)), (10, .int (iI (way : Int))), (11, .int (iI z))]) rfl ?_
  refine z_iload C 10 rfl dL_acts_0 (rfl : 0 + 2 = 2) ?_
  refine z_bipush (c := 9) C (by decide) dL_acts_2 (rfl : 2 + 2 = 4) ?_
  refine z_icmp_ge (pt := 23) C dL_acts_4 (by decide) (rfl : 4 + 3 = 7) (iI_le (by omega) (by omega)).1 (fun q => mt (iI_le (by omega) (by omega)).2 q) (fun c1 => ?_) (fun c1 => ?_)
  rotate_left
  · refine z_aload_n C 0 rfl rfl dL_acts_7 (rfl : 7 + 1 = 8) ?_
    refine z_aload_n C 1 rfl rfl dL_acts_8 (rfl : 8 + 1 = 9) ?_
    refine z_aload_n C 2 rfl rfl dL_acts_9 (rfl : 9 + 1 = 10) ?_
    refine z_aload_n C 3 rfl rfl dL_acts_10 (rfl : 10 + 1 = 11) ?_
    refine z_aload C 8 rfl dL_acts_11 (rfl : 11 + 2 = 13) ?_
    refine z_aload C 9 rfl dL_acts_13 (rfl : 13 + 2 = 15) ?_
    refine z_iload C 10 rfl dL_acts_15 (rfl : 15 + 2 = 17) ?_
    refine z_iload C 11 rfl dL_acts_17 (rfl : 17 + 2 = 19) ?_
    refine z_callS C (8) (300) (c_L_isCopied (way := way) (z := z) (by omega) hz h hI hW hD) gL_acts_L_isCopied rfl hd90_L_isCopied ⟨Nat.le_of_ble_eq_true rfl, Nat.le_of_ble_eq_true rfl⟩ rfl (Nat.le_of_ble_eq_true rfl) dL_acts_19 (rfl : 19 + 3 = 22) rfl rfl ⟨by show 8 ≤ 10; omega, by show 300 ≤ 400; omega⟩ (fun _ _ h => h.elim) ?_ rfl
    rintro _ w ⟨rfl, hv⟩
    refine z_v1 ?_
    exact z_zret C rfl (.inr rfl) dL_acts_22 ⟨rfl, hv.le (by omega)⟩ (by decide) (by decide)
  refine z_iload C 10 rfl dL_acts_23 (rfl : 23 + 2 = 25) ?_
  refine z_bipush (c := 14) C (by decide) dL_acts_25 (rfl : 25 + 2 = 27) ?_
  refine z_icmp_ge (pt := 50) C dL_acts_27 (by decide) (rfl : 27 + 3 = 30) (iI_le (by omega) (by omega)).1 (fun q => mt (iI_le (by omega) (by omega)).2 q) (fun c2 => ?_) (fun c2 => ?_)
  rotate_left
  · refine z_aload_n C 0 rfl rfl dL_acts_30 (rfl : 30 + 1 = 31) ?_
    refine z_aload_n C 1 rfl rfl dL_acts_31 (rfl : 31 + 1 = 32) ?_
    refine z_aload_n C 2 rfl rfl dL_acts_32 (rfl : 32 + 1 = 33) ?_
    refine z_aload C 4 rfl dL_acts_33 (rfl : 33 + 2 = 35) ?_
    refine z_aload C 5 rfl dL_acts_35 (rfl : 35 + 2 = 37) ?_
    refine z_aload C 9 rfl dL_acts_37 (rfl : 37 + 2 = 39) ?_
    refine z_iload C 10 rfl dL_acts_39 (rfl : 39 + 2 = 41) ?_
    refine z_bipush (c := 9) C (by decide) dL_acts_41 (rfl : 41 + 2 = 43) ?_
    refine z_isub C dL_acts_43 (rfl : 43 + 1 = 44) rfl ?_
    refine z_topi (y := iI ((way - 9 : Nat) : Int)) (congrArg iI (by omega)) ?_
    refine z_iload C 11 rfl dL_acts_44 (rfl : 44 + 2 = 46) ?_
    refine z_callS C (8) (300) (c_L_isLettered (way := way - 9) (z := z) (by omega) hz h hI hW hD) gL_acts_L_isLettered rfl hd90_L_isLettered ⟨Nat.le_of_ble_eq_true rfl, Nat.le_of_ble_eq_true rfl⟩ rfl (Nat.le_of_ble_eq_true rfl) dL_acts_46 (rfl : 46 + 3 = 49) rfl rfl ⟨by show 8 ≤ 10; omega, by show 300 ≤ 400; omega⟩ (fun _ _ h => h.elim) ?_ rfl
    rintro _ w ⟨rfl, hv⟩
    refine z_v1 ?_
    exact z_zret C rfl (.inr rfl) dL_acts_49 ⟨rfl, hv.le (by omega)⟩ (by decide) (by decide)
  have k321 : Z κ 19 G base rmL_acts.cells rmL_acts.slots (fun v w => v = some (.int (iI 1)) ∧ INV5 G q (g 6 0) (D + 12) w) (fun _ _ => False) 0 0 321 [(0, .ref (g 6 0)), (1, .ref (q 0)), (2, .ref (q 1)), (3, .ref (q 2)), (4, .ref (q 3)), (5, .ref (q 4)), (6, .ref (q 5)), (7, .ref (q 6)), (8, .ref (q 7)), (9, .ref (q 8)), (10, .int (iI (way : Int))), (11, .int (iI z))] [] (pw G (lwW G q B A) L K I F R N O) := by
    refine z_iload C 10 rfl dL_acts_321 (rfl : 321 + 2 = 323) ?_
    refine z_bipush (c := 19) C (by decide) dL_acts_323 (rfl : 323 + 2 = 325) ?_
    refine z_icmp_ge (pt := 568) C dL_acts_325 (by decide) (rfl : 325 + 3 = 328) (iI_le (by omega) (by omega)).1 (fun q => mt (iI_le (by omega) (by omega)).2 q) (fun c3 => ?_) (fun c3 => ?_)
    · exact tl_L_pass C hz h hI hW hD hD2 (fun w hw => ⟨rfl, hw⟩) rfl rfl
    refine z_aload C 9 rfl dL_acts_328 (rfl : 328 + 2 = 330) ?_
    refine z_iconst C dL_acts_330 (rfl : 330 + 1 = 331) ?_
    refine z_iald C lwm_8 ⟨by omega, by omega⟩ (by omega) (rdA hW.1.2.2.2.2 (by omega)) dL_acts_331 (rfl : 331 + 1 = 332) ?_
    refine z_if_le (pt := 568) C dL_acts_332 (by decide) (rfl : 332 + 3 = 335) (iI_le0 (by omega)).1 (fun q => mt (iI_le0 (by omega)).2 q) (fun c4 => ?_) (fun c4 => ?_)
    · exact tl_L_pass C hz h hI hW hD hD2 (fun w hw => ⟨rfl, hw⟩) rfl rfl
    · exact tl_L_back C (by omega) hz h hI hW hD (fun w hw => ⟨rfl, hw⟩) rfl rfl
  refine z_iload C 10 rfl dL_acts_50 (rfl : 50 + 2 = 52) ?_
  refine z_bipush (c := 17) C (by decide) dL_acts_52 (rfl : 52 + 2 = 54) ?_
  refine z_icmp_ge (pt := 321) C dL_acts_54 (by decide) (rfl : 54 + 3 = 57) (iI_le (by omega) (by omega)).1 (fun q => mt (iI_le (by omega) (by omega)).2 q) (fun c3 => ?_) (fun c3 => ?_)
  · exact k321
  refine z_aload C 9 rfl dL_acts_57 (rfl : 57 + 2 = 59) ?_
  refine z_iconst C dL_acts_59 (rfl : 59 + 1 = 60) ?_
  refine z_iald C lwm_8 ⟨by omega, by omega⟩ (by omega) (rdA hW.1.2.2.2.2 (by omega)) dL_acts_60 (rfl : 60 + 1 = 61) ?_
  refine z_bipush (c := 10) C (by decide) dL_acts_61 (rfl : 61 + 2 = 63) ?_
  refine z_icmp_ge (pt := 321) C dL_acts_63 (by decide) (rfl : 63 + 3 = 66) (iI_le (by omega) (by omega)).1 (fun q => mt (iI_le (by omega) (by omega)).2 q) (fun c4 => ?_) (fun c4 => ?_)
  · exact k321
  · exact tl_L_lend C (by omega) hz h hI hW hD (fun w hw => ⟨rfl, hw⟩) rfl rfl
end
