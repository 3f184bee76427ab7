theorem hd85_X5_guess : yX5_guess.cls = RX5 ∧ yX5_guess.cls ≠ "java/lang/invoke/MethodHandle" ∧ yX5_guess.cls ≠ "java/lang/invoke/VarHandle" ∧ (parseMethodDescriptor yX5_guess.desc).map (fun d => d.parameters.length) = some 1 := by decide +kernel
theorem hd85_X5_family : yX5_family.cls = RX5 ∧ yX5_family.cls ≠ "java/lang/invoke/MethodHandle" ∧ yX5_family.cls ≠ "java/lang/invoke/VarHandle" ∧ (parseMethodDescriptor yX5_family.desc).map (fun d => d.parameters.length) = some 1 := by decide +kernel
theorem hd85_X5_familyByErrors : yX5_familyByErrors.cls = RX5 ∧ yX5_familyByErrors.cls ≠ "java/lang/invoke/MethodHandle" ∧ yX5_familyByErrors.cls ≠ "java/lang/invoke/VarHandle" ∧ (parseMethodDescriptor yX5_familyByErrors.desc).map (fun d => d.parameters.length) = some 1 := by decide +kernel
theorem hd85_L_place : yL_place.cls ≠ "java/lang/invoke/MethodHandle" ∧ yL_place.cls ≠ "java/lang/invoke/VarHandle" ∧ (parseMethodDescriptor yL_place.desc).map (fun d => d.parameters.length) = some 1 := by decide +kernel
theorem hd85_X5_reading : yX5_reading.cls = RX5 ∧ yX5_reading.cls ≠ "java/lang/invoke/MethodHandle" ∧ yX5_reading.cls ≠ "java/lang/invoke/VarHandle" ∧ (parseMethodDescriptor yX5_reading.desc).map (fun d => d.parameters.length) = some 2 := by decide +kernel
theorem hd85_L_get : yL_get.cls ≠ "java/lang/invoke/MethodHandle" ∧ yL_get.cls ≠ "java/lang/invoke/VarHandle" ∧ (parseMethodDescriptor yL_get.desc).map (fun d => d.parameters.length) = some 2 := by decide +kernel
theorem hd85_X5_errors : yX5_errors.cls = RX5 ∧ yX5_errors.cls ≠ "java/lang/invoke/MethodHandle" ∧ yX5_errors.cls ≠ "java/lang/invoke/VarHandle" ∧ (parseMethodDescriptor yX5_errors.desc).map (fun d => d.parameters.length) = some 1 := by decide +kernel
theorem hd85_L_errors : yL_errors.cls ≠ "java/lang/invoke/MethodHandle" ∧ yL_errors.cls ≠ "java/lang/invoke/VarHandle" ∧ (parseMethodDescriptor yL_errors.desc).map (fun d => d.parameters.length) = some 1 := by decide +kernel
theorem hd85_X5_shared : yX5_shared.cls = RX5 ∧ yX5_shared.cls ≠ "java/lang/invoke/MethodHandle" ∧ yX5_shared.cls ≠ "java/lang/invoke/VarHandle" ∧ (parseMethodDescriptor yX5_shared.desc).map (fun d => d.parameters.length) = some 2 := by decide +kernel
theorem hd85_L_shared : yL_shared.cls ≠ "java/lang/invoke/MethodHandle" ∧ yL_shared.cls ≠ "java/lang/invoke/VarHandle" ∧ (parseMethodDescriptor yL_shared.desc).map (fun d => d.parameters.length) = some 2 := by decide +kernel
theorem hd85_X5_houseOf : yX5_houseOf.cls = RX5 ∧ yX5_houseOf.cls ≠ "java/lang/invoke/MethodHandle" ∧ yX5_houseOf.cls ≠ "java/lang/invoke/VarHandle" ∧ (parseMethodDescriptor yX5_houseOf.desc).map (fun d => d.parameters.length) = some 1 := by decide +kernel
theorem hd85_X5_ownerOf : yX5_ownerOf.cls = RX5 ∧ yX5_ownerOf.cls ≠ "java/lang/invoke/MethodHandle" ∧ yX5_ownerOf.cls ≠ "java/lang/invoke/VarHandle" ∧ (parseMethodDescriptor yX5_ownerOf.desc).map (fun d => d.parameters.length) = some 1 := by decide +kernel
theorem hd85_X5_toldModel : yX5_toldModel.cls = RX5 ∧ yX5_toldModel.cls ≠ "java/lang/invoke/MethodHandle" ∧ yX5_toldModel.cls ≠ "java/lang/invoke/VarHandle" ∧ (parseMethodDescriptor yX5_toldModel.desc).map (fun d => d.parameters.length) = some 1 := by decide +kernel
theorem hd85_L_family : yL_family.cls ≠ "java/lang/invoke/MethodHandle" ∧ yL_family.cls ≠ "java/lang/invoke/VarHandle" ∧ (parseMethodDescriptor yL_family.desc).map (fun d => d.parameters.length) = some 4 := by decide +kernel
theorem hd85_L_lowest : yL_lowest.cls ≠ "java/lang/invoke/MethodHandle" ∧ yL_lowest.cls ≠ "java/lang/invoke/VarHandle" ∧ (parseMethodDescriptor yL_lowest.desc).map (fun d => d.parameters.length) = some 1 := by decide +kernel
theorem hd85_L_guess : yL_guess.cls ≠ "java/lang/invoke/MethodHandle" ∧ yL_guess.cls ≠ "java/lang/invoke/VarHandle" ∧ (parseMethodDescriptor yL_guess.desc).map (fun d => d.parameters.length) = some 3 := by decide +kernel
theorem hd85_X5_families : yX5_families.cls = RX5 ∧ yX5_families.cls ≠ "java/lang/invoke/MethodHandle" ∧ yX5_families.cls ≠ "java/lang/invoke/VarHandle" ∧ (parseMethodDescriptor yX5_families.desc).map (fun d => d.parameters.length) = some 0 := by decide +kernel
theorem hd85_X5_rightGuesses : yX5_rightGuesses.cls = RX5 ∧ yX5_rightGuesses.cls ≠ "java/lang/invoke/MethodHandle" ∧ yX5_rightGuesses.cls ≠ "java/lang/invoke/VarHandle" ∧ (parseMethodDescriptor yX5_rightGuesses.desc).map (fun d => d.parameters.length) = some 0 := by decide +kernel
theorem hd85_X5_spread : yX5_spread.cls = RX5 ∧ yX5_spread.cls ≠ "java/lang/invoke/MethodHandle" ∧ yX5_spread.cls ≠ "java/lang/invoke/VarHandle" ∧ (parseMethodDescriptor yX5_spread.desc).map (fun d => d.parameters.length) = some 2 := by decide +kernel
theorem hd85_X5_sources : yX5_sources.cls = RX5 ∧ yX5_sources.cls ≠ "java/lang/invoke/MethodHandle" ∧ yX5_sources.cls ≠ "java/lang/invoke/VarHandle" ∧ (parseMethodDescriptor yX5_sources.desc).map (fun d => d.parameters.length) = some 2 := by decide +kernel
theorem hd85_X5_copies : yX5_copies.cls = RX5 ∧ yX5_copies.cls ≠ "java/lang/invoke/MethodHandle" ∧ yX5_copies.cls ≠ "java/lang/invoke/VarHandle" ∧ (parseMethodDescriptor yX5_copies.desc).map (fun d => d.parameters.length) = some 0 := by decide +kernel
/-! what the law says of the copies -/
theorem rdE_no {w0 : va_W} {P : Prop} {Q : Prop} (hP : P) {E : String} {w : va_W} (h : rdE w0 P E w) : Q := absurd hP h.2.2
theorem rdE2_no {w0 : va_W} {P1 P2 : Prop} {Q : Prop} (h1 : P1) (h2 : P2) {E : String} {w : va_W} (h : rdE2 w0 P1 P2 E w) : Q := by
  rcases h.2 with ⟨-, h⟩ | ⟨-, -, h⟩
  · exact absurd h1 h
  · exact absurd h2 h
/-- how many right guesses, families, copies with the reading, sources among the first i -/
def rgS (V : Nat → Nat → Int) (i : Nat) : Int := smI (fun i => b01 (0 < i ∧ gsV V i = V 1 i)) i
def fmS (f : Nat → Int) (i : Nat) : Int := smI (fun i => b01 (f i = (i : Int))) i
def spS (V : Nat → Nat → Int) (p : Nat) (r : Int) (i : Nat) : Int := smI (fun i => b01 (V 0 (24 * i + p) = r)) i
def soS (V : Nat → Nat → Int) (p : Nat) (r : Int) (i : Nat) : Int := smI (fun i => b01 (V 0 (24 * i + p) = r ∧ (i = 0 ∨ ¬ V 0 (24 * (gsV V i).toNat + p) = r))) i
theorem sp_odd {V : Nat → Nat → Int} {n m t : Nat} {r : Int} (hI : LInv V n m t) (hr : 1 ≤ r) : ∀ i, i ≤ n → spS V 1 r i = 0
  | 0, _ => rfl
  | i + 1, hi => by
    have e := sp_odd hI hr i (by omega)
    have z := hI.2.2.2.1 i (by omega) 1 (by decide) (not_isPl (by decide))
    unfold spS at e ⊢
    simp only [smI]
    rw [e, b01_f (by omega)]
    rfl
section
variable {κ : KxT} {G : GG} {base mc ms : Nat} {post : Option Value → va_W → Prop} {exc : String → va_W → Prop} {L : List Nat} {K : Nat → Nat} {I : Nat → Nat → Int} {F : Nat → Nat → Option Nat} {R : Nat → Nat → Int} {N : Nat → Nat} {O : Nat → Nat → Option Nat} {l : Launch} {q : Nat → Nat} {V : Nat → Nat → Int} {B : Nat → Nat → Int64} {A : Nat → Nat → Int} {n m t : Nat} {T : Nat → Nat} {g : Nat → Nat → Nat}
variable {de : Nat}
abbrev rmL_areCopies : Room := { frames := 9, cells := 200, slots := 1200, locals := 260 }
theorem tl_L_ac1 (C : Cx κ cL_areCopies 14 wsL_areCopies RL (some .boolean) rmL_areCopies G base) {z : Int} {i k y : Nat} {v5 v6 : Int} (hz : 0 ≤ z ∧ z < 20000000) (h : RX de L K I F R N O T g V n m t) (hI : LInv V n m t) (hW : LWr V n m t B A) (hi : i < n) (hk : k < 12) (hf : I 2 (g 0 i) = (y : Int))
    (kk : Z κ 14 G base mc ms post exc (11 * (i + 1)) (66 * (i + 1)) 26 [(8, .int (iI ((i + 1 : Nat) : Int))), (7, .int (iI 1)), (6, .int (iI v6)), (5, .int (iI v5)), (0, .ref (g 6 0)), (1, .ref (q 0)), (2, .ref (q 1)), (3, .ref (q 8)), (4, .int (iI z))] [] (pw G (lwW G q B A) L K I F R N O)) :
    Z κ 14 G base mc ms post exc (11 * i) (66 * i) 114 [(5, .int (iI v5)), (6, .int (iI v6)), (11, .int (iI (k : Int))), (10, .int (iI (gsV V i))), (9, .int (iI (y : Int))), (8, .int (iI (i : Int))), (7, .int (iI 1)), (0, .ref (g 6 0)), (1, .ref (q 0)), (2, .ref (q 1)), (3, .ref (q 8)), (4, .int (iI z))] [] (pw G (lwW G q B A) L K I F R N O) := by
  obtain ⟨hm, hw, hcr, -⟩ := hW
  have hb := hI.2.2.1
  have hpl := plc_lt hk
  have hu : ∀ f : Nat → Int, IsFam V n f → f i = (y : Int) := fun f hf2 => (hf2.uniq h.2 hi).trans hf
  have hj1 := Int.emod_nonneg z (show (n : Int) ≠ 0 by omega)
  have hj2 := Int.emod_lt_of_pos z (show 0 < (n : Int) by omega)
  obtain ⟨j, ej⟩ : ∃ j : Nat, z % (n : Int) = (j : Int) := ⟨(z % (n : Int)).toNat, by omega⟩
  have hjn : j < n := by omega
  have ti := hI.1.2.2.2.2.1.2 i (by omega)
  have k277 : Z κ 14 G base mc ms post exc (11 * i + 10) (66 * i + 60) 277 [(5, .int (iI v5)), (6, .int (iI v6)), (11, .int (iI (k : Int))), (10, .int (iI (gsV V i))), (9, .int (iI (y : Int))), (8, .int (iI (i : Int))), (7, .int (iI 1)), (0, .ref (g 6 0)), (1, .ref (q 0)), (2, .ref (q 1)), (3, .ref (q 8)), (4, .int (iI z))] [] (pw G (lwW G q B A) L K I F R N O) := by
    refine z_aload_n C 7 rfl rfl dL_areCopies_277 (rfl : 277 + 1 = 278) ?_
    refine z_iload C 5 rfl dL_areCopies_278 (rfl : 278 + 2 = 280) ?_
    refine z_callV C (11 * i + 11) (66 * i + 66) (c_X5_guess (z := (i : Int)) ⟨by omega, by omega⟩ h hI.1) gL_areCopies_X5_guess rfl hd85_X5_guess ⟨Nat.le_of_ble_eq_true rfl, Nat.le_of_ble_eq_true rfl⟩ (pwm_MC h.1.x8.1 h.1.x8.2.1) rfl rfl (Nat.le_of_ble_eq_true rfl) dL_areCopies_280 (rfl : 280 + 3 = 283) rfl rfl ⟨by show 11 * i + 11 ≤ 200; omega, by show 66 * i + 66 ≤ 1200; omega⟩ (fun E w hE => rdE_no (⟨by omega, by omega⟩) hE) ?_ rfl
    rintro _ _ ⟨rfl, -, rfl⟩
    refine z_v1 ?_
    refine z_iload C 3 rfl dL_areCopies_283 (rfl : 283 + 2 = 285) ?_
    refine z_same (pt := 292) C rfl dL_areCopies_285 (by decide) (rfl : 285 + 3 = 288) ?_
    refine z_iconst C dL_areCopies_288 (rfl : 288 + 1 = 289) ?_
    refine z_goto (pc' := 293) C dL_areCopies_289 (by decide) ?_
    refine z_istore (lv' := [(7, _), (5, _), (6, _), (11, _), (10, _), (9, _), (8, _), (0, _), (1, _), (2, _), (3, _), (4, _)]) C dL_areCopies_293 (rfl : 293 + 2 = 295) (by decide) rfl ?_
    refine z_iinc (lv' := [(8, _), (7, _), (5, _), (6, _), (11, _), (10, _), (9, _), (0, _), (1, _), (2, _), (3, _), (4, _)]) C 6 dL_areCopies_295 (rfl : 295 + 3 = 298) rfl rfl (by decide) rfl ?_
    refine z_goto (pc' := 26) C dL_areCopies_298 (by decide) ?_
    exact z_sub [0, 1, 3, 2, 7, 8, 9, 10, 11] rfl kk
  have k248 : Z κ 14 G base mc ms post exc (11 * i + 8) (66 * i + 48) 248 [(5, .int (iI v5)), (6, .int (iI v6)), (11, .int (iI (k : Int))), (10, .int (iI (gsV V i))), (9, .int (iI (y : Int))), (8, .int (iI (i : Int))), (7, .int (iI 1)), (0, .ref (g 6 0)), (1, .ref (q 0)), (2, .ref (q 1)), (3, .ref (q 8)), (4, .int (iI z))] [] (pw G (lwW G q B A) L K I F R N O) := by
    refine z_aload_n C 7 rfl rfl dL_areCopies_248 (rfl : 248 + 1 = 249) ?_
    refine z_iload C 5 rfl dL_areCopies_249 (rfl : 249 + 2 = 251) ?_
    refine z_callV C (11 * i + 9) (66 * i + 54) (c_X5_family (z := (i : Int)) ⟨by omega, by omega⟩ h hI.1) gL_areCopies_X5_family rfl hd85_X5_family ⟨Nat.le_of_ble_eq_true rfl, Nat.le_of_ble_eq_true rfl⟩ (pwm_MC h.1.x8.1 h.1.x8.2.1) rfl rfl (Nat.le_of_ble_eq_true rfl) dL_areCopies_251 (rfl : 251 + 3 = 254) rfl rfl ⟨by show 11 * i + 9 ≤ 200; omega, by show 66 * i + 54 ≤ 1200; omega⟩ (fun E w hE => rdE_no (⟨by omega, by omega⟩) hE) ?_ rfl
    rintro _ _ ⟨rfl, -, f2, hf2, rfl⟩
    refine z_v1 ?_
    refine z_iload C 4 rfl dL_areCopies_254 (rfl : 254 + 2 = 256) ?_
    refine z_same (pt := 292) C (congrArg iI (hu f2 hf2)) dL_areCopies_256 (by decide) (rfl : 256 + 3 = 259) ?_
    refine z_iload C 11 rfl dL_areCopies_259 (rfl : 259 + 2 = 261) ?_
    refine z_iconst C dL_areCopies_261 (rfl : 261 + 1 = 262) ?_
    refine z_irem C ⟨by omega, by omega⟩ ⟨by omega, by omega⟩ rfl dL_areCopies_262 (rfl : 262 + 1 = 263) ?_
    refine z_if_gt (pt := 277) C dL_areCopies_263 (by decide) (rfl : 263 + 3 = 266) (iI_0lt (by omega)).1 (fun q => mt (iI_0lt (by omega)).2 q) (fun c3 => ?_) (fun c3 => ?_)
    · exact z_widen (by omega) (by omega) k277
    refine z_aload_n C 7 rfl rfl dL_areCopies_266 (rfl : 266 + 1 = 267) ?_
    refine z_iload C 5 rfl dL_areCopies_267 (rfl : 267 + 2 = 269) ?_
    refine z_callV C (11 * i + 10) (66 * i + 60) (c_X5_familyByErrors (z := (i : Int)) ⟨by omega, by omega⟩ h hI.1) gL_areCopies_X5_familyByErrors rfl hd85_X5_familyByErrors ⟨Nat.le_of_ble_eq_true rfl, Nat.le_of_ble_eq_true rfl⟩ (pwm_MC h.1.x8.1 h.1.x8.2.1) rfl rfl (Nat.le_of_ble_eq_true rfl) dL_areCopies_269 (rfl : 269 + 3 = 272) rfl rfl ⟨by show 11 * i + 10 ≤ 200; omega, by show 66 * i + 60 ≤ 1200; omega⟩ (fun E w hE => rdE_no (⟨by omega, by omega⟩) hE) ?_ rfl
    rintro _ _ ⟨rfl, -, f2, hf2, rfl⟩
    refine z_v1 ?_
    refine z_iload C 4 rfl dL_areCopies_272 (rfl : 272 + 2 = 274) ?_
    refine z_same (pt := 292) C (congrArg iI (hu f2 hf2)) dL_areCopies_274 (by decide) (rfl : 274 + 3 = 277) ?_
    exact k277
  refine z_aload_n C 7 rfl rfl dL_areCopies_114 (rfl : 114 + 1 = 115) ?_
  refine z_iload C 5 rfl dL_areCopies_115 (rfl : 115 + 2 = 117) ?_
  refine z_iload C 2 rfl dL_areCopies_117 (rfl : 117 + 2 = 119) ?_
  refine z_callS C (11 * i) (66 * i) (c_L_place hk) gL_areCopies_L_place rfl hd85_L_place ⟨Nat.le_of_ble_eq_true rfl, Nat.le_of_ble_eq_true rfl⟩ rfl (Nat.le_of_ble_eq_true rfl) dL_areCopies_119 (rfl : 119 + 3 = 122) rfl rfl ⟨by show 11 * i ≤ 200; omega, by show 66 * i ≤ 1200; omega⟩ (fun _ _ h => h.elim) ?_ rfl
  rintro _ _ ⟨rfl, rfl⟩
  refine z_v1 ?_
  refine z_callV C (11 * i + 2) (66 * i + 12) (c_X5_reading (z := (i : Int)) (p := ((plc k : Nat) : Int)) ⟨by omega, by omega⟩ ⟨by omega, by omega⟩ h hI.1) gL_areCopies_X5_reading rfl hd85_X5_reading ⟨Nat.le_of_ble_eq_true rfl, Nat.le_of_ble_eq_true rfl⟩ (pwm_MC h.1.x8.1 h.1.x8.2.1) rfl rfl (Nat.le_of_ble_eq_true rfl) dL_areCopies_122 (rfl : 122 + 3 = 125) rfl rfl ⟨by show 11 * i + 2 ≤ 200; omega, by show 66 * i + 12 ≤ 1200; omega⟩ (fun E w hE => rdE_no (⟨⟨by omega, by omega⟩, by omega, by omega⟩) hE) ?_ rfl
  rintro _ _ ⟨rfl, -, rfl⟩
  refine z_v1 ?_
  refine z_aload_n C 8 rfl rfl dL_areCopies_125 (rfl : 125 + 1 = 126) ?_
  refine z_iload C 5 rfl dL_areCopies_126 (rfl : 126 + 2 = 128) ?_
  refine z_lald (x := B 0 (i)) C lwm_0 ⟨by omega, by omega⟩ (by omega) (congrArg (B 0) (by omega)) dL_areCopies_128 (rfl : 128 + 1 = 129) ?_
  refine z_iload C 2 rfl dL_areCopies_129 (rfl : 129 + 2 = 131) ?_
  refine z_callS C (11 * i + 2) (66 * i + 12) c_L_get gL_areCopies_L_get rfl hd85_L_get ⟨Nat.le_of_ble_eq_true rfl, Nat.le_of_ble_eq_true rfl⟩ rfl (Nat.le_of_ble_eq_true rfl) dL_areCopies_131 (rfl : 131 + 3 = 134) rfl rfl ⟨by show 11 * i + 2 ≤ 200; omega, by show 66 * i + 12 ≤ 1200; omega⟩ (fun _ _ h => h.elim) ?_ rfl
  rintro _ _ ⟨rfl, rfl⟩
  refine z_v1 ?_
  refine z_same (pt := 292) C (hw i hi k hk).symm dL_areCopies_134 (by decide) (rfl : 134 + 3 = 137) ?_
  refine z_aload_n C 7 rfl rfl dL_areCopies_137 (rfl : 137 + 1 = 138) ?_
  refine z_iload C 5 rfl dL_areCopies_138 (rfl : 138 + 2 = 140) ?_
  refine z_callV C (11 * i + 3) (66 * i + 18) (c_X5_errors (z := (i : Int)) ⟨by omega, by omega⟩ h hI.1) gL_areCopies_X5_errors rfl hd85_X5_errors ⟨Nat.le_of_ble_eq_true rfl, Nat.le_of_ble_eq_true rfl⟩ (pwm_MC h.1.x8.1 h.1.x8.2.1) rfl rfl (Nat.le_of_ble_eq_true rfl) dL_areCopies_140 (rfl : 140 + 3 = 143) rfl rfl ⟨by show 11 * i + 3 ≤ 200; omega, by show 66 * i + 18 ≤ 1200; omega⟩ (fun E w hE => rdE_no (⟨by omega, by omega⟩) hE) ?_ rfl
  rintro _ _ ⟨rfl, -, rfl⟩
  refine z_v1 ?_
  refine z_aload_n C 8 rfl rfl dL_areCopies_143 (rfl : 143 + 1 = 144) ?_
  refine z_iload C 5 rfl dL_areCopies_144 (rfl : 144 + 2 = 146) ?_
  refine z_lald (x := B 0 (i)) C lwm_0 ⟨by omega, by omega⟩ (by omega) (congrArg (B 0) (by omega)) dL_areCopies_146 (rfl : 146 + 1 = 147) ?_
  refine z_callS C (11 * i + 3) (66 * i + 18) (c_L_errors (f := fun k => V 0 (24 * i + plc k)) (fun k hk => ⟨hw i hi k hk, hI.rd hi hk⟩)) gL_areCopies_L_errors rfl hd85_L_errors ⟨Nat.le_of_ble_eq_true rfl, Nat.le_of_ble_eq_true rfl⟩ rfl (Nat.le_of_ble_eq_true rfl) dL_areCopies_147 (rfl : 147 + 3 = 150) rfl rfl ⟨by show 11 * i + 3 ≤ 200; omega, by show 66 * i + 18 ≤ 1200; omega⟩ (fun _ _ h => h.elim) ?_ rfl
  rintro _ _ ⟨rfl, rfl⟩
  refine z_v1 ?_
  refine z_same (pt := 292) C (congrArg iI (hI.sh (j := i) hi)) dL_areCopies_150 (by decide) (rfl : 150 + 3 = 153) ?_
  refine z_aload_n C 7 rfl rfl dL_areCopies_153 (rfl : 153 + 1 = 154) ?_
  refine z_iload C 5 rfl dL_areCopies_154 (rfl : 154 + 2 = 156) ?_
  refine z_iload C 11 rfl dL_areCopies_156 (rfl : 156 + 2 = 158) ?_
  refine z_aload_n C 10 rfl rfl dL_areCopies_158 (rfl : 158 + 1 = 159) ?_
  refine z_iconst C dL_areCopies_159 (rfl : 159 + 1 = 160) ?_
  refine z_iald C lwm_8 ⟨by omega, by omega⟩ (by omega) (rdA hm.1 (by omega)) dL_areCopies_160 (rfl : 160 + 1 = 161) ?_
  refine z_irem C ⟨by omega, by omega⟩ ⟨by omega, by omega⟩ rfl dL_areCopies_161 (rfl : 161 + 1 = 162) ?_
  refine z_topi (y := iI (j : Int)) (congrArg iI ej) ?_
  refine z_callV C (11 * i + 5) (66 * i + 30) (c_X5_shared (z := (i : Int)) (p := (j : Int)) ⟨by omega, by omega⟩ ⟨by omega, by omega⟩ h hI.1) gL_areCopies_X5_shared rfl hd85_X5_shared ⟨Nat.le_of_ble_eq_true rfl, Nat.le_of_ble_eq_true rfl⟩ (pwm_MC h.1.x8.1 h.1.x8.2.1) rfl rfl (Nat.le_of_ble_eq_true rfl) dL_areCopies_162 (rfl : 162 + 3 = 165) rfl rfl ⟨by show 11 * i + 5 ≤ 200; omega, by show 66 * i + 30 ≤ 1200; omega⟩ (fun E w hE => rdE_no (⟨⟨by omega, by omega⟩, by omega, by omega⟩) hE) ?_ rfl
  rintro _ _ ⟨rfl, -, rfl⟩
  refine z_v1 ?_
  refine z_aload_n C 8 rfl rfl dL_areCopies_165 (rfl : 165 + 1 = 166) ?_
  refine z_iload C 5 rfl dL_areCopies_166 (rfl : 166 + 2 = 168) ?_
  refine z_lald (x := B 0 (i)) C lwm_0 ⟨by omega, by omega⟩ (by omega) (congrArg (B 0) (by omega)) dL_areCopies_168 (rfl : 168 + 1 = 169) ?_
  refine z_aload_n C 8 rfl rfl dL_areCopies_169 (rfl : 169 + 1 = 170) ?_
  refine z_iload C 11 rfl dL_areCopies_170 (rfl : 170 + 2 = 172) ?_
  refine z_aload_n C 10 rfl rfl dL_areCopies_172 (rfl : 172 + 1 = 173) ?_
  refine z_iconst C dL_areCopies_173 (rfl : 173 + 1 = 174) ?_
  refine z_iald C lwm_8 ⟨by omega, by omega⟩ (by omega) (rdA hm.1 (by omega)) dL_areCopies_174 (rfl : 174 + 1 = 175) ?_
  refine z_irem C ⟨by omega, by omega⟩ ⟨by omega, by omega⟩ rfl dL_areCopies_175 (rfl : 175 + 1 = 176) ?_
  refine z_topi (y := iI (j : Int)) (congrArg iI ej) ?_
  refine z_lald (x := B 0 (j)) C lwm_0 ⟨by omega, by omega⟩ (by omega) (congrArg (B 0) (by omega)) dL_areCopies_176 (rfl : 176 + 1 = 177) ?_
  refine z_callS C (11 * i + 5) (66 * i + 30) (c_L_shared (f := fun k => V 0 (24 * i + plc k)) (g := fun k => V 0 (24 * j + plc k)) (fun k hk => ⟨hw i hi k hk, hI.rd hi hk⟩) (fun k hk => ⟨hw j hjn k hk, hI.rd hjn hk⟩)) gL_areCopies_L_shared rfl hd85_L_shared ⟨Nat.le_of_ble_eq_true rfl, Nat.le_of_ble_eq_true rfl⟩ rfl (Nat.le_of_ble_eq_true rfl) dL_areCopies_177 (rfl : 177 + 3 = 180) rfl rfl ⟨by show 11 * i + 5 ≤ 200; omega, by show 66 * i + 30 ≤ 1200; omega⟩ (fun _ _ h => h.elim) ?_ rfl
  rintro _ _ ⟨rfl, rfl⟩
  refine z_v1 ?_
  refine z_same (pt := 292) C (congrArg iI (hI.sh (j := j) hi)) dL_areCopies_180 (by decide) (rfl : 180 + 3 = 183) ?_
  refine z_aload_n C 7 rfl rfl dL_areCopies_183 (rfl : 183 + 1 = 184) ?_
  refine z_iload C 5 rfl dL_areCopies_184 (rfl : 184 + 2 = 186) ?_
  refine z_callV C (11 * i + 6) (66 * i + 36) (c_X5_houseOf (z := (i : Int)) ⟨by omega, by omega⟩ h hI.1) gL_areCopies_X5_houseOf rfl hd85_X5_houseOf ⟨Nat.le_of_ble_eq_true rfl, Nat.le_of_ble_eq_true rfl⟩ (pwm_MC h.1.x8.1 h.1.x8.2.1) rfl rfl (Nat.le_of_ble_eq_true rfl) dL_areCopies_186 (rfl : 186 + 3 = 189) rfl rfl ⟨by show 11 * i + 6 ≤ 200; omega, by show 66 * i + 36 ≤ 1200; omega⟩ (fun E w hE => rdE_no (⟨by omega, by omega⟩) hE) ?_ rfl
  rintro _ _ ⟨rfl, -, rfl⟩
  refine z_v1 ?_
  refine z_aload_n C 9 rfl rfl dL_areCopies_189 (rfl : 189 + 1 = 190) ?_
  refine z_iconst C dL_areCopies_190 (rfl : 190 + 1 = 191) ?_
  refine z_iload C 5 rfl dL_areCopies_191 (rfl : 191 + 2 = 193) ?_
  refine z_imul C dL_areCopies_193 (rfl : 193 + 1 = 194) rfl ?_
  refine z_iconst C dL_areCopies_194 (rfl : 194 + 1 = 195) ?_
  refine z_iadd C dL_areCopies_195 (rfl : 195 + 1 = 196) rfl ?_
  refine z_iald C lwm_1 ⟨by omega, by omega⟩ (by omega) (rdA (hcr i hi).2.2.2 (by omega)) dL_areCopies_196 (rfl : 196 + 1 = 197) ?_
  refine z_same (pt := 292) C rfl dL_areCopies_197 (by decide) (rfl : 197 + 3 = 200) ?_
  refine z_aload_n C 7 rfl rfl dL_areCopies_200 (rfl : 200 + 1 = 201) ?_
  refine z_iload C 5 rfl dL_areCopies_201 (rfl : 201 + 2 = 203) ?_
  refine z_callV C (11 * i + 7) (66 * i + 42) (c_X5_ownerOf (z := (i : Int)) ⟨by omega, by omega⟩ h hI.1) gL_areCopies_X5_ownerOf rfl hd85_X5_ownerOf ⟨Nat.le_of_ble_eq_true rfl, Nat.le_of_ble_eq_true rfl⟩ (pwm_MC h.1.x8.1 h.1.x8.2.1) rfl rfl (Nat.le_of_ble_eq_true rfl) dL_areCopies_203 (rfl : 203 + 3 = 206) rfl rfl ⟨by show 11 * i + 7 ≤ 200; omega, by show 66 * i + 42 ≤ 1200; omega⟩ (fun E w hE => rdE_no (⟨by omega, by omega⟩) hE) ?_ rfl
  rintro _ _ ⟨rfl, -, rfl⟩
  refine z_v1 ?_
  refine z_aload_n C 9 rfl rfl dL_areCopies_206 (rfl : 206 + 1 = 207) ?_
  refine z_iconst C dL_areCopies_207 (rfl : 207 + 1 = 208) ?_
  refine z_iload C 5 rfl dL_areCopies_208 (rfl : 208 + 2 = 210) ?_
  refine z_imul C dL_areCopies_210 (rfl : 210 + 1 = 211) rfl ?_
  refine z_iconst C dL_areCopies_211 (rfl : 211 + 1 = 212) ?_
  refine z_iadd C dL_areCopies_212 (rfl : 212 + 1 = 213) rfl ?_
  refine z_iald C lwm_1 ⟨by omega, by omega⟩ (by omega) (rdA (hcr i hi).2.2.1 (by omega)) dL_areCopies_213 (rfl : 213 + 1 = 214) ?_
  refine z_same (pt := 292) C rfl dL_areCopies_214 (by decide) (rfl : 214 + 3 = 217) ?_
  refine z_aload_n C 7 rfl rfl dL_areCopies_217 (rfl : 217 + 1 = 218) ?_
  refine z_iload C 5 rfl dL_areCopies_218 (rfl : 218 + 2 = 220) ?_
  refine z_callV C (11 * i + 8) (66 * i + 48) (c_X5_toldModel (z := (i : Int)) ⟨by omega, by omega⟩ h hI.1) gL_areCopies_X5_toldModel rfl hd85_X5_toldModel ⟨Nat.le_of_ble_eq_true rfl, Nat.le_of_ble_eq_true rfl⟩ (pwm_MC h.1.x8.1 h.1.x8.2.1) rfl rfl (Nat.le_of_ble_eq_true rfl) dL_areCopies_220 (rfl : 220 + 3 = 223) rfl rfl ⟨by show 11 * i + 8 ≤ 200; omega, by show 66 * i + 48 ≤ 1200; omega⟩ (fun E w hE => rdE_no (⟨by omega, by omega⟩) hE) ?_ rfl
  rintro _ _ ⟨rfl, -, rfl⟩
  refine z_v1 ?_
  refine z_aload_n C 9 rfl rfl dL_areCopies_223 (rfl : 223 + 1 = 224) ?_
  refine z_iconst C dL_areCopies_224 (rfl : 224 + 1 = 225) ?_
  refine z_iload C 5 rfl dL_areCopies_225 (rfl : 225 + 2 = 227) ?_
  refine z_imul C dL_areCopies_227 (rfl : 227 + 1 = 228) rfl ?_
  refine z_iconst C dL_areCopies_228 (rfl : 228 + 1 = 229) ?_
  refine z_iadd C dL_areCopies_229 (rfl : 229 + 1 = 230) rfl ?_
  refine z_iald C lwm_1 ⟨by omega, by omega⟩ (by omega) (rdA (hcr i hi).2.1 (by omega)) dL_areCopies_230 (rfl : 230 + 1 = 231) ?_
  refine z_iconst C dL_areCopies_231 (rfl : 231 + 1 = 232) ?_
  refine z_icmp_ne (pt := 244) C dL_areCopies_232 (by decide) (rfl : 232 + 3 = 235) (fun q => mt (iI_eq (by omega) (by omega)).2 q) (iI_eq (by omega) (by omega)).1 (fun c5 => ?_) (fun c5 => ?_)
  · refine z_iconst C dL_areCopies_244 (rfl : 244 + 1 = 245) ?_
    refine z_same (pt := 292) C (congrArg iI (if_neg c5)) dL_areCopies_245 (by decide) (rfl : 245 + 3 = 248) ?_
    exact k248
  · refine z_aload_n C 9 rfl rfl dL_areCopies_235 (rfl : 235 + 1 = 236) ?_
    refine z_iconst C dL_areCopies_236 (rfl : 236 + 1 = 237) ?_
    refine z_iload C 5 rfl dL_areCopies_237 (rfl : 237 + 2 = 239) ?_
    refine z_imul C dL_areCopies_239 (rfl : 239 + 1 = 240) rfl ?_
    refine z_iald C lwm_1 ⟨by omega, by omega⟩ (by omega) (rdA (hcr i hi).1 (by omega)) dL_areCopies_240 (rfl : 240 + 1 = 241) ?_
    refine z_goto (pc' := 245) C dL_areCopies_241 (by decide) ?_
    refine z_same (pt := 292) C (congrArg iI (if_pos c5)) dL_areCopies_245 (by decide) (rfl : 245 + 3 = 248) ?_
    exact k248
theorem lp_L_ac1 (C : Cx κ cL_areCopies 14 wsL_areCopies RL (some .boolean) rmL_areCopies G base) {z : Int} (hz : 0 ≤ z ∧ z < 20000000) (h : RX de L K I F R N O T g V n m t) (hI : LInv V n m t) (hW : LWr V n m t B A)
    (kk : Z κ 14 G base mc ms post exc (11 * n) (66 * n) 301 [(8, .int (iI (n : Int))), (7, .int (iI 1)), (6, .int (iI (fmS (fun i => I 2 (g 0 i)) n))), (5, .int (iI (rgS V n))), (0, .ref (g 6 0)), (1, .ref (q 0)), (2, .ref (q 1)), (3, .ref (q 8)), (4, .int (iI z))] [] (pw G (lwW G q B A) L K I F R N O)) :
    ∀ (d i : Nat), i + d = n → Z κ 14 G base mc ms post exc (11 * i) (66 * i) 26 [(8, .int (iI (i : Int))), (7, .int (iI 1)), (6, .int (iI (fmS (fun i => I 2 (g 0 i)) i))), (5, .int (iI (rgS V i))), (0, .ref (g 6 0)), (1, .ref (q 0)), (2, .ref (q 1)), (3, .ref (q 8)), (4, .int (iI z))] [] (pw G (lwW G q B A) L K I F R N O) := by
  have hb := hI.2.2.1
  intro d
  induction d with
  | zero =>
    intro i hi
    have e : i = n := by omega
    subst e
    refine z_iload C 0 rfl dL_areCopies_26 (rfl : 26 + 2 = 28) ?_
    refine z_aload_n C 7 rfl rfl dL_areCopies_28 (rfl : 28 + 1 = 29) ?_
    refine z_iconst C dL_areCopies_29 (rfl : 29 + 1 = 30) ?_
    refine z_iald C lwm_8 ⟨by omega, by omega⟩ (by omega) (rdA hW.1.1 (by omega)) dL_areCopies_30 (rfl : 30 + 1 = 31) ?_
    refine z_icmp_ge (pt := 301) C dL_areCopies_31 (by decide) (rfl : 31 + 3 = 34) (iI_le (by omega) (by omega)).1 (fun q => mt (iI_le (by omega) (by omega)).2 q) (fun c1 => ?_) (fun c1 => ?_)
    · exact kk
    · exact absurd c1 (by omega)
  | succ d ih =>
    intro i hi
    have hin : i < n := by omega
    have hW2 := hW
    obtain ⟨hm, hw, hcr, -⟩ := hW
    refine z_iload C 0 rfl dL_areCopies_26 (rfl : 26 + 2 = 28) ?_
    refine z_aload_n C 7 rfl rfl dL_areCopies_28 (rfl : 28 + 1 = 29) ?_
    refine z_iconst C dL_areCopies_29 (rfl : 29 + 1 = 30) ?_
    refine z_iald C lwm_8 ⟨by omega, by omega⟩ (by omega) (rdA hm.1 (by omega)) dL_areCopies_30 (rfl : 30 + 1 = 31) ?_
    refine z_icmp_ge (pt := 301) C dL_areCopies_31 (by decide) (rfl : 31 + 3 = 34) (iI_le (by omega) (by omega)).1 (fun q => mt (iI_le (by omega) (by omega)).2 q) (fun c1 => ?_) (fun c1 => ?_)
    · exact absurd c1 (by omega)
    refine z_iload C 1 rfl dL_areCopies_34 (rfl : 34 + 2 = 36) ?_
    refine z_if_eq (pt := 301) C dL_areCopies_36 (by decide) (rfl : 36 + 3 = 39) (iI_eq0 (by decide)).1 (fun q => mt (iI_eq0 (by decide)).2 q) (fun c2 => ?_) (fun c2 => ?_)
    · exact absurd c2 (by decide)
    refine z_aload_n C 5 rfl rfl dL_areCopies_39 (rfl : 39 + 1 = 40) ?_
    refine z_aload_n C 6 rfl rfl dL_areCopies_40 (rfl : 40 + 1 = 41) ?_
    refine z_aload_n C 7 rfl rfl dL_areCopies_41 (rfl : 41 + 1 = 42) ?_
    refine z_iload C 0 rfl dL_areCopies_42 (rfl : 42 + 2 = 44) ?_
    refine z_callS C (11 * i) (66 * i) (c_L_family hin hI hm hw hcr) gL_areCopies_L_family rfl hd85_L_family ⟨Nat.le_of_ble_eq_true rfl, Nat.le_of_ble_eq_true rfl⟩ rfl (Nat.le_of_ble_eq_true rfl) dL_areCopies_44 (rfl : 44 + 3 = 47) rfl rfl ⟨by show 11 * i ≤ 200; omega, by show 66 * i ≤ 1200; omega⟩ (fun _ _ h => h.elim) ?_ rfl
    rintro _ _ ⟨rfl, x, rfl, hx⟩
    refine z_v1 ?_
    obtain ⟨y, y1, y2, y3, y4, y5⟩ := fam_low (by omega) hin hx h.2
    have y3' : I 2 (g 0 i) = (y : Int) := y3
    refine z_callS C (11 * i) (66 * i) (c_L_lowest y1 y4 y5) gL_areCopies_L_lowest rfl hd85_L_lowest ⟨Nat.le_of_ble_eq_true rfl, Nat.le_of_ble_eq_true rfl⟩ rfl (Nat.le_of_ble_eq_true rfl) dL_areCopies_47 (rfl : 47 + 3 = 50) rfl rfl ⟨by show 11 * i ≤ 200; omega, by show 66 * i ≤ 1200; omega⟩ (fun _ _ h => h.elim) ?_ rfl
    rintro _ _ ⟨rfl, rfl⟩
    refine z_v1 ?_
    refine z_istore (lv' := [(9, _), (8, _), (7, _), (6, _), (5, _), (0, _), (1, _), (2, _), (3, _), (4, _)]) C dL_areCopies_50 (rfl : 50 + 2 = 52) (by decide) rfl ?_
    refine z_aload_n C 6 rfl rfl dL_areCopies_52 (rfl : 52 + 1 = 53) ?_
    refine z_aload_n C 7 rfl rfl dL_areCopies_53 (rfl : 53 + 1 = 54) ?_
    refine z_iload C 1 rfl dL_areCopies_54 (rfl : 54 + 2 = 56) ?_
    refine z_callS C (11 * i) (66 * i) (c_L_guess hin hI hw hcr) gL_areCopies_L_guess rfl hd85_L_guess ⟨Nat.le_of_ble_eq_true rfl, Nat.le_of_ble_eq_true rfl⟩ rfl (Nat.le_of_ble_eq_true rfl) dL_areCopies_56 (rfl : 56 + 3 = 59) rfl rfl ⟨by show 11 * i ≤ 200; omega, by show 66 * i ≤ 1200; omega⟩ (fun _ _ h => h.elim) ?_ rfl
    rintro _ _ ⟨rfl, rfl⟩
    refine z_v1 ?_
    refine z_istore (lv' := [(10, _), (9, _), (8, _), (7, _), (6, _), (5, _), (0, _), (1, _), (2, _), (3, _), (4, _)]) C dL_areCopies_59 (rfl : 59 + 2 = 61) (by decide) rfl ?_
    refine z_iload C 2 rfl dL_areCopies_61 (rfl : 61 + 2 = 63) ?_
    refine z_iload C 10 rfl dL_areCopies_63 (rfl : 63 + 2 = 65) ?_
    refine z_iadd C dL_areCopies_65 (rfl : 65 + 1 = 66) rfl ?_
    refine z_bipush (c := 12) C (by decide) dL_areCopies_66 (rfl : 66 + 2 = 68) ?_
    refine z_irem C ⟨by omega, by omega⟩ ⟨by omega, by omega⟩ rfl dL_areCopies_68 (rfl : 68 + 1 = 69) ?_
    obtain ⟨k, ek⟩ : ∃ k : Nat, ((i : Int) + z) % 12 = (k : Int) := ⟨(((i : Int) + z) % 12).toNat, by omega⟩
    refine z_topi (y := iI (k : Int)) (congrArg iI ek) ?_
    refine z_istore (lv' := [(11, _), (10, _), (9, _), (8, _), (7, _), (6, _), (5, _), (0, _), (1, _), (2, _), (3, _), (4, _)]) C dL_areCopies_69 (rfl : 69 + 2 = 71) (by decide) rfl ?_
    have k114 : ∀ v5 v6 : Int, v5 = rgS V (i + 1) → v6 = fmS (fun i => I 2 (g 0 i)) (i + 1) → Z κ 14 G base mc ms post exc (11 * i) (66 * i) 114 [(5, .int (iI v5)), (6, .int (iI v6)), (11, .int (iI (k : Int))), (10, .int (iI (gsV V i))), (9, .int (iI (y : Int))), (8, .int (iI (i : Int))), (7, .int (iI 1)), (0, .ref (g 6 0)), (1, .ref (q 0)), (2, .ref (q 1)), (3, .ref (q 8)), (4, .int (iI z))] [] (pw G (lwW G q B A) L K I F R N O) := by
      intro v5 v6 h5 h6
      subst h5 h6
      exact tl_L_ac1 C hz h hI hW2 hin (by omega) y3' (ih (i + 1) (by omega))
    have grng : -1 ≤ gsV V i ∧ gsV V i < 40 := by
      by_cases e : i = 0
      · subst e
        have : gsV V 0 = V 1 0 := if_pos (.inl rfl)
        have := hI.1.2.2.2.1.1
        omega
      · have := gsV_rng hI.1 hin (by omega)
        omega
    have mi := hI.1.mo hin
    have k88 : ∀ v6 : Int, v6 = fmS (fun i => I 2 (g 0 i)) (i + 1) → Z κ 14 G base mc ms post exc (11 * i) (66 * i) 88 [(6, .int (iI v6)), (11, .int (iI (k : Int))), (10, .int (iI (gsV V i))), (9, .int (iI (y : Int))), (8, .int (iI (i : Int))), (7, .int (iI 1)), (5, .int (iI (rgS V i))), (0, .ref (g 6 0)), (1, .ref (q 0)), (2, .ref (q 1)), (3, .ref (q 8)), (4, .int (iI z))] [] (pw G (lwW G q B A) L K I F R N O) := by
      intro v6 h6
      refine z_iload C 6 rfl dL_areCopies_88 (rfl : 88 + 2 = 90) ?_
      refine z_iload C 4 rfl dL_areCopies_90 (rfl : 90 + 2 = 92) ?_
      refine z_if_le (pt := 110) C dL_areCopies_92 (by decide) (rfl : 92 + 3 = 95) (iI_le0 (by omega)).1 (fun q => mt (iI_le0 (by omega)).2 q) (fun c4 => ?_) (fun c4 => ?_)
      · refine z_iconst C dL_areCopies_110 (rfl : 110 + 1 = 111) ?_
        refine z_iadd C dL_areCopies_111 (rfl : 111 + 1 = 112) rfl ?_
        refine z_istore (lv' := [(5, _), (6, _), (11, _), (10, _), (9, _), (8, _), (7, _), (0, _), (1, _), (2, _), (3, _), (4, _)]) C dL_areCopies_112 (rfl : 112 + 2 = 114) (by decide) rfl ?_
        refine k114 _ v6 ?_ h6
        unfold rgS
        simp only [smI]
        rw [b01_f (by omega)]
      refine z_iload C 2 rfl dL_areCopies_95 (rfl : 95 + 2 = 97) ?_
      refine z_aload_n C 9 rfl rfl dL_areCopies_97 (rfl : 97 + 1 = 98) ?_
      refine z_iconst C dL_areCopies_98 (rfl : 98 + 1 = 99) ?_
      refine z_iload C 4 rfl dL_areCopies_99 (rfl : 99 + 2 = 101) ?_
      refine z_imul C dL_areCopies_101 (rfl : 101 + 1 = 102) rfl ?_
      refine z_iald C lwm_1 ⟨by omega, by omega⟩ (by omega) (rdA (hcr i hin).1 (by omega)) dL_areCopies_102 (rfl : 102 + 1 = 103) ?_
      refine z_icmp_ne (pt := 110) C dL_areCopies_103 (by decide) (rfl : 103 + 3 = 106) (fun q => mt (iI_eq (by omega) (by omega)).2 q) (iI_eq (by omega) (by omega)).1 (fun c5 => ?_) (fun c5 => ?_)
      · refine z_iconst C dL_areCopies_110 (rfl : 110 + 1 = 111) ?_
        refine z_iadd C dL_areCopies_111 (rfl : 111 + 1 = 112) rfl ?_
        refine z_istore (lv' := [(5, _), (6, _), (11, _), (10, _), (9, _), (8, _), (7, _), (0, _), (1, _), (2, _), (3, _), (4, _)]) C dL_areCopies_112 (rfl : 112 + 2 = 114) (by decide) rfl ?_
        refine k114 _ v6 ?_ h6
        unfold rgS
        simp only [smI]
        rw [b01_f (fun q => c5 q.2)]
      · refine z_iconst C dL_areCopies_106 (rfl : 106 + 1 = 107) ?_
        refine z_goto (pc' := 111) C dL_areCopies_107 (by decide) ?_
        refine z_iadd C dL_areCopies_111 (rfl : 111 + 1 = 112) rfl ?_
        refine z_istore (lv' := [(5, _), (6, _), (11, _), (10, _), (9, _), (8, _), (7, _), (0, _), (1, _), (2, _), (3, _), (4, _)]) C dL_areCopies_112 (rfl : 112 + 2 = 114) (by decide) rfl ?_
        refine k114 _ v6 ?_ h6
        unfold rgS
        simp only [smI]
        rw [b01_t ⟨by omega, c5⟩]
    refine z_iload C 5 rfl dL_areCopies_71 (rfl : 71 + 2 = 73) ?_
    refine z_iload C 2 rfl dL_areCopies_73 (rfl : 73 + 2 = 75) ?_
    refine z_iload C 3 rfl dL_areCopies_75 (rfl : 75 + 2 = 77) ?_
    refine z_icmp_ne (pt := 84) C dL_areCopies_77 (by decide) (rfl : 77 + 3 = 80) (fun q => mt (iI_eq (by omega) (by omega)).2 q) (iI_eq (by omega) (by omega)).1 (fun c6 => ?_) (fun c6 => ?_)
    · refine z_iconst C dL_areCopies_84 (rfl : 84 + 1 = 85) ?_
      refine z_iadd C dL_areCopies_85 (rfl : 85 + 1 = 86) rfl ?_
      refine z_istore (lv' := [(6, _), (11, _), (10, _), (9, _), (8, _), (7, _), (5, _), (0, _), (1, _), (2, _), (3, _), (4, _)]) C dL_areCopies_86 (rfl : 86 + 2 = 88) (by decide) rfl ?_
      refine k88 _ ?_
      unfold fmS
      simp only [smI]
      rw [b01_f (by rw [y3']; omega)]
    · refine z_iconst C dL_areCopies_80 (rfl : 80 + 1 = 81) ?_
      refine z_goto (pc' := 85) C dL_areCopies_81 (by decide) ?_
      refine z_iadd C dL_areCopies_85 (rfl : 85 + 1 = 86) rfl ?_
      refine z_istore (lv' := [(6, _), (11, _), (10, _), (9, _), (8, _), (7, _), (5, _), (0, _), (1, _), (2, _), (3, _), (4, _)]) C dL_areCopies_86 (rfl : 86 + 2 = 88) (by decide) rfl ?_
      refine k88 _ ?_
      unfold fmS
      simp only [smI]
      rw [b01_t (by rw [y3']; omega)]
theorem lp_L_ac2 (C : Cx κ cL_areCopies 14 wsL_areCopies RL (some .boolean) rmL_areCopies G base) {z : Int} {v5 v6 r : Int} {k ce sl : Nat} (hz : 0 ≤ z ∧ z < 20000000) (h : RX de L K I F R N O T g V n m t) (hI : LInv V n m t) (hW : LWr V n m t B A) (hk : k < 12) (hr : 1 ≤ r ∧ r ≤ 3) (hce : ce ≤ 180) (hsl : sl ≤ 1060)
    (kk : Z κ 14 G base mc ms post exc ce sl 422 [(12, .int (iI (n : Int))), (11, .int (iI (soS V (plc k) r n))), (10, .int (iI (spS V (plc k) r n))), (8, .int (iI (k : Int))), (9, .int (iI r)), (7, .int (iI 1)), (6, .int (iI v6)), (5, .int (iI v5)), (0, .ref (g 6 0)), (1, .ref (q 0)), (2, .ref (q 1)), (3, .ref (q 8)), (4, .int (iI z))] [] (pw G (lwW G q B A) L K I F R N O)) :
    ∀ (d i : Nat), i + d = n → Z κ 14 G base mc ms post exc ce sl 328 [(12, .int (iI (i : Int))), (11, .int (iI (soS V (plc k) r i))), (10, .int (iI (spS V (plc k) r i))), (8, .int (iI (k : Int))), (9, .int (iI r)), (7, .int (iI 1)), (6, .int (iI v6)), (5, .int (iI v5)), (0, .ref (g 6 0)), (1, .ref (q 0)), (2, .ref (q 1)), (3, .ref (q 8)), (4, .int (iI z))] [] (pw G (lwW G q B A) L K I F R N O) := by
  obtain ⟨hm, hw, hcr, -⟩ := hW
  have hb := hI.2.2.1
  intro d
  induction d with
  | zero =>
    intro i hi
    have e : i = n := by omega
    subst e
    refine z_iload C 0 rfl dL_areCopies_328 (rfl : 328 + 2 = 330) ?_
    refine z_aload_n C 11 rfl rfl dL_areCopies_330 (rfl : 330 + 1 = 331) ?_
    refine z_iconst C dL_areCopies_331 (rfl : 331 + 1 = 332) ?_
    refine z_iald C lwm_8 ⟨by omega, by omega⟩ (by omega) (rdA hm.1 (by omega)) dL_areCopies_332 (rfl : 332 + 1 = 333) ?_
    refine z_icmp_ge (pt := 422) C dL_areCopies_333 (by decide) (rfl : 333 + 3 = 336) (iI_le (by omega) (by omega)).1 (fun q => mt (iI_le (by omega) (by omega)).2 q) (fun c1 => ?_) (fun c1 => ?_)
    · exact kk
    · exact absurd c1 (by omega)
  | succ d ih =>
    intro i hi
    have hin : i < n := by omega
    have rd := hI.rd hin hk
    have fin : ∀ v10 v11 v13 : Int, v10 = spS V (plc k) r (i + 1) → v11 = soS V (plc k) r (i + 1) → Z κ 14 G base mc ms post exc ce sl 416 [(11, .int (iI v11)), (10, .int (iI v10)), (13, .int (iI v13)), (12, .int (iI (i : Int))), (8, .int (iI (k : Int))), (9, .int (iI r)), (7, .int (iI 1)), (6, .int (iI v6)), (5, .int (iI v5)), (0, .ref (g 6 0)), (1, .ref (q 0)), (2, .ref (q 1)), (3, .ref (q 8)), (4, .int (iI z))] [] (pw G (lwW G q B A) L K I F R N O) := by
      intro v10 v11 v13 e10 e11
      subst e10 e11
      refine z_iinc (lv' := [(12, _), (11, _), (10, _), (13, _), (8, _), (9, _), (7, _), (6, _), (5, _), (0, _), (1, _), (2, _), (3, _), (4, _)]) C 3 dL_areCopies_416 (rfl : 416 + 3 = 419) rfl rfl (by decide) rfl ?_
      refine z_goto (pc' := 328) C dL_areCopies_419 (by decide) ?_
      exact z_sub [0, 1, 2, 4, 5, 6, 7, 8, 9, 10, 11, 12, 13] rfl (ih (i + 1) (by omega))
    refine z_iload C 0 rfl dL_areCopies_328 (rfl : 328 + 2 = 330) ?_
    refine z_aload_n C 11 rfl rfl dL_areCopies_330 (rfl : 330 + 1 = 331) ?_
    refine z_iconst C dL_areCopies_331 (rfl : 331 + 1 = 332) ?_
    refine z_iald C lwm_8 ⟨by omega, by omega⟩ (by omega) (rdA hm.1 (by omega)) dL_areCopies_332 (rfl : 332 + 1 = 333) ?_
    refine z_icmp_ge (pt := 422) C dL_areCopies_333 (by decide) (rfl : 333 + 3 = 336) (iI_le (by omega) (by omega)).1 (fun q => mt (iI_le (by omega) (by omega)).2 q) (fun c1 => ?_) (fun c1 => ?_)
    · exact absurd c1 (by omega)
    refine z_iload C 5 rfl dL_areCopies_336 (rfl : 336 + 2 = 338) ?_
    refine z_if_eq (pt := 422) C dL_areCopies_338 (by decide) (rfl : 338 + 3 = 341) (iI_eq0 (by decide)).1 (fun q => mt (iI_eq0 (by decide)).2 q) (fun c2 => ?_) (fun c2 => ?_)
    · exact absurd c2 (by decide)
    refine z_aload_n C 9 rfl rfl dL_areCopies_341 (rfl : 341 + 1 = 342) ?_
    refine z_iload C 0 rfl dL_areCopies_342 (rfl : 342 + 2 = 344) ?_
    refine z_lald (x := B 0 (i)) C lwm_0 ⟨by omega, by omega⟩ (by omega) (congrArg (B 0) (by omega)) dL_areCopies_344 (rfl : 344 + 1 = 345) ?_
    refine z_iload C 3 rfl dL_areCopies_345 (rfl : 345 + 2 = 347) ?_
    refine z_callS C (ce) (sl) c_L_get gL_areCopies_L_get rfl hd85_L_get ⟨Nat.le_of_ble_eq_true rfl, Nat.le_of_ble_eq_true rfl⟩ rfl (Nat.le_of_ble_eq_true rfl) dL_areCopies_347 (rfl : 347 + 3 = 350) rfl rfl ⟨by show ce ≤ 200; omega, by show sl ≤ 1200; omega⟩ (fun _ _ h => h.elim) ?_ rfl
    rintro _ _ ⟨rfl, rfl⟩
    refine z_v1 (z_topi (hw i hin k hk) ?_)
    refine z_iload C 4 rfl dL_areCopies_350 (rfl : 350 + 2 = 352) ?_
    refine z_icmp_ne (pt := 359) C dL_areCopies_352 (by decide) (rfl : 352 + 3 = 355) (fun q => mt (iI_eq (by omega) (by omega)).2 q) (iI_eq (by omega) (by omega)).1 (fun c3 => ?_) (fun c3 => ?_)
    · refine z_iconst C dL_areCopies_359 (rfl : 359 + 1 = 360) ?_
      refine z_istore (lv' := [(13, _), (12, _), (11, _), (10, _), (8, _), (9, _), (7, _), (6, _), (5, _), (0, _), (1, _), (2, _), (3, _), (4, _)]) C dL_areCopies_360 (rfl : 360 + 2 = 362) (by decide) rfl ?_
      refine z_iload C 3 rfl dL_areCopies_362 (rfl : 362 + 2 = 364) ?_
      refine z_iload C 0 rfl dL_areCopies_364 (rfl : 364 + 2 = 366) ?_
      refine z_if_eq (pt := 373) C dL_areCopies_366 (by decide) (rfl : 366 + 3 = 369) (iI_eq0 (by decide)).1 (fun q => mt (iI_eq0 (by decide)).2 q) (fun c4 => ?_) (fun c4 => ?_)
      rotate_left
      · exact absurd rfl c4
      refine z_iconst C dL_areCopies_373 (rfl : 373 + 1 = 374) ?_
      refine z_iadd C dL_areCopies_374 (rfl : 374 + 1 = 375) rfl ?_
      refine z_istore (lv' := [(10, _), (13, _), (12, _), (11, _), (8, _), (9, _), (7, _), (6, _), (5, _), (0, _), (1, _), (2, _), (3, _), (4, _)]) C dL_areCopies_375 (rfl : 375 + 2 = 377) (by decide) rfl ?_
      refine z_iload C 3 rfl dL_areCopies_377 (rfl : 377 + 2 = 379) ?_
      refine z_iload C 1 rfl dL_areCopies_379 (rfl : 379 + 2 = 381) ?_
      refine z_if_eq (pt := 412) C dL_areCopies_381 (by decide) (rfl : 381 + 3 = 384) (iI_eq0 (by decide)).1 (fun q => mt (iI_eq0 (by decide)).2 q) (fun c5 => ?_) (fun c5 => ?_)
      rotate_left
      · exact absurd rfl c5
      refine z_iconst C dL_areCopies_412 (rfl : 412 + 1 = 413) ?_
      refine z_iadd C dL_areCopies_413 (rfl : 413 + 1 = 414) rfl ?_
      refine z_istore (lv' := [(11, _), (10, _), (13, _), (12, _), (8, _), (9, _), (7, _), (6, _), (5, _), (0, _), (1, _), (2, _), (3, _), (4, _)]) C dL_areCopies_414 (rfl : 414 + 2 = 416) (by decide) rfl ?_
      refine fin _ _ 0 ?_ ?_
      · unfold spS
        simp only [smI]
        rw [b01_f c3]
      · unfold soS
        simp only [smI]
        rw [b01_f (fun q => c3 q.1)]
    refine z_iconst C dL_areCopies_355 (rfl : 355 + 1 = 356) ?_
    refine z_goto (pc' := 360) C dL_areCopies_356 (by decide) ?_
    refine z_istore (lv' := [(13, _), (12, _), (11, _), (10, _), (8, _), (9, _), (7, _), (6, _), (5, _), (0, _), (1, _), (2, _), (3, _), (4, _)]) C dL_areCopies_360 (rfl : 360 + 2 = 362) (by decide) rfl ?_
    refine z_iload C 3 rfl dL_areCopies_362 (rfl : 362 + 2 = 364) ?_
    refine z_iload C 0 rfl dL_areCopies_364 (rfl : 364 + 2 = 366) ?_
    refine z_if_eq (pt := 373) C dL_areCopies_366 (by decide) (rfl : 366 + 3 = 369) (iI_eq0 (by decide)).1 (fun q => mt (iI_eq0 (by decide)).2 q) (fun c4 => ?_) (fun c4 => ?_)
    · exact absurd c4 (by decide)
    refine z_iconst C dL_areCopies_369 (rfl : 369 + 1 = 370) ?_
    refine z_goto (pc' := 374) C dL_areCopies_370 (by decide) ?_
    refine z_iadd C dL_areCopies_374 (rfl : 374 + 1 = 375) rfl ?_
    refine z_istore (lv' := [(10, _), (13, _), (12, _), (11, _), (8, _), (9, _), (7, _), (6, _), (5, _), (0, _), (1, _), (2, _), (3, _), (4, _)]) C dL_areCopies_375 (rfl : 375 + 2 = 377) (by decide) rfl ?_
    refine z_iload C 3 rfl dL_areCopies_377 (rfl : 377 + 2 = 379) ?_
    refine z_iload C 1 rfl dL_areCopies_379 (rfl : 379 + 2 = 381) ?_
    refine z_if_eq (pt := 412) C dL_areCopies_381 (by decide) (rfl : 381 + 3 = 384) (iI_eq0 (by decide)).1 (fun q => mt (iI_eq0 (by decide)).2 q) (fun c5 => ?_) (fun c5 => ?_)
    · exact absurd c5 (by decide)
    refine z_iload C 2 rfl dL_areCopies_384 (rfl : 384 + 2 = 386) ?_
    have e10 : spS V (plc k) r i + 1 = spS V (plc k) r (i + 1) := by
      unfold spS
      simp only [smI]
      rw [b01_t c3]
    refine z_if_eq (pt := 408) C dL_areCopies_386 (by decide) (rfl : 386 + 3 = 389) (iI_eq0 (by omega)).1 (fun q => mt (iI_eq0 (by omega)).2 q) (fun c6 => ?_) (fun c6 => ?_)
    · refine z_iconst C dL_areCopies_408 (rfl : 408 + 1 = 409) ?_
      refine z_goto (pc' := 413) C dL_areCopies_409 (by decide) ?_
      refine z_iadd C dL_areCopies_413 (rfl : 413 + 1 = 414) rfl ?_
      refine z_istore (lv' := [(11, _), (10, _), (13, _), (12, _), (8, _), (9, _), (7, _), (6, _), (5, _), (0, _), (1, _), (2, _), (3, _), (4, _)]) C dL_areCopies_414 (rfl : 414 + 2 = 416) (by decide) rfl ?_
      refine fin _ _ 1 e10 ?_
      unfold soS
      simp only [smI]
      rw [b01_t ⟨c3, .inl (by omega)⟩]
    have gr := gsV_rng hI.1 hin (by omega)
    obtain ⟨j, ej⟩ : ∃ j : Nat, gsV V i = (j : Int) := ⟨(gsV V i).toNat, by omega⟩
    have hjn : j < n := by omega
    have rj := hI.rd hjn hk
    refine z_aload_n C 10 rfl rfl dL_areCopies_389 (rfl : 389 + 1 = 390) ?_
    refine z_aload_n C 10 rfl rfl dL_areCopies_390 (rfl : 390 + 1 = 391) ?_
    refine z_aload_n C 11 rfl rfl dL_areCopies_391 (rfl : 391 + 1 = 392) ?_
    refine z_iload C 2 rfl dL_areCopies_392 (rfl : 392 + 2 = 394) ?_
    refine z_callS C (ce) (sl) (c_L_guess hin hI hw hcr) gL_areCopies_L_guess rfl hd85_L_guess ⟨Nat.le_of_ble_eq_true rfl, Nat.le_of_ble_eq_true rfl⟩ rfl (Nat.le_of_ble_eq_true rfl) dL_areCopies_394 (rfl : 394 + 3 = 397) rfl rfl ⟨by show ce ≤ 200; omega, by show sl ≤ 1200; omega⟩ (fun _ _ h => h.elim) ?_ rfl
    rintro _ _ ⟨rfl, rfl⟩
    refine z_v1 (z_topi (y := iI (j : Int)) (congrArg iI ej) ?_)
    refine z_lald (x := B 0 (j)) C lwm_0 ⟨by omega, by omega⟩ (by omega) (congrArg (B 0) (by omega)) dL_areCopies_397 (rfl : 397 + 1 = 398) ?_
    refine z_iload C 4 rfl dL_areCopies_398 (rfl : 398 + 2 = 400) ?_
    refine z_callS C (ce) (sl) c_L_get gL_areCopies_L_get rfl hd85_L_get ⟨Nat.le_of_ble_eq_true rfl, Nat.le_of_ble_eq_true rfl⟩ rfl (Nat.le_of_ble_eq_true rfl) dL_areCopies_400 (rfl : 400 + 3 = 403) rfl rfl ⟨by show ce ≤ 200; omega, by show sl ≤ 1200; omega⟩ (fun _ _ h => h.elim) ?_ rfl
    rintro _ _ ⟨rfl, rfl⟩
    refine z_v1 (z_topi (hw j hjn k hk) ?_)
    refine z_iload C 5 rfl dL_areCopies_403 (rfl : 403 + 2 = 405) ?_
    refine z_icmp_eq (pt := 412) C dL_areCopies_405 (by decide) (rfl : 405 + 3 = 408) (iI_eq (by omega) (by omega)).1 (fun q => mt (iI_eq (by omega) (by omega)).2 q) (fun c7 => ?_) (fun c7 => ?_)
    · refine z_iconst C dL_areCopies_412 (rfl : 412 + 1 = 413) ?_
      refine z_iadd C dL_areCopies_413 (rfl : 413 + 1 = 414) rfl ?_
      refine z_istore (lv' := [(11, _), (10, _), (13, _), (12, _), (8, _), (9, _), (7, _), (6, _), (5, _), (0, _), (1, _), (2, _), (3, _), (4, _)]) C dL_areCopies_414 (rfl : 414 + 2 = 416) (by decide) rfl ?_
      refine fin _ _ 1 e10 ?_
      unfold soS
      simp only [smI]
      rw [b01_f (by
        rintro ⟨-, q | q⟩
        · omega
        · rw [ej] at q
          exact q c7)]
    · refine z_iconst C dL_areCopies_408 (rfl : 408 + 1 = 409) ?_
      refine z_goto (pc' := 413) C dL_areCopies_409 (by decide) ?_
      refine z_iadd C dL_areCopies_413 (rfl : 413 + 1 = 414) rfl ?_
      refine z_istore (lv' := [(11, _), (10, _), (13, _), (12, _), (8, _), (9, _), (7, _), (6, _), (5, _), (0, _), (1, _), (2, _), (3, _), (4, _)]) C dL_areCopies_414 (rfl : 414 + 2 = 416) (by decide) rfl ?_
      refine fin _ _ 1 e10 ?_
      unfold soS
      simp only [smI]
      rw [b01_t ⟨c3, .inr (by rw [ej]; exact c7)⟩]
theorem tl_L_ac2 (C : Cx κ cL_areCopies 14 wsL_areCopies RL (some .boolean) rmL_areCopies G base) {z : Int} {r : Int} {k : Nat} (hz : 0 ≤ z ∧ z < 20000000) (h : RX de L K I F R N O T g V n m t) (hI : LInv V n m t) (hW : LWr V n m t B A) (hk : k < 12) (hr : 1 ≤ r ∧ r ≤ 3)
    (hq : post (some (.int (iI 1))) (pw G (lwW G q B A) L K I F R N O)) (hmc : mc = 200) (hms : ms = 1200) :
    Z κ 14 G base mc ms post exc (11 * n) (66 * n) 422 [(12, .int (iI (n : Int))), (11, .int (iI (soS V (plc k) r n))), (10, .int (iI (spS V (plc k) r n))), (8, .int (iI (k : Int))), (9, .int (iI r)), (7, .int (iI 1)), (6, .int (iI (fmS (fun i => I 2 (g 0 i)) n))), (5, .int (iI (rgS V n))), (0, .ref (g 6 0)), (1, .ref (q 0)), (2, .ref (q 1)), (3, .ref (q 8)), (4, .int (iI z))] [] (pw G (lwW G q B A) L K I F R N O) := by
  obtain ⟨hm, hw, hcr, -⟩ := hW
  have hb := hI.2.2.1
  have hn1 := hI.1.2.1
  have hpl := plc_lt hk
  have hj1 := Int.emod_nonneg z (show (n : Int) ≠ 0 by omega)
  have hj2 := Int.emod_lt_of_pos z (show 0 < (n : Int) by omega)
  obtain ⟨j, ej⟩ : ∃ j : Nat, z % (n : Int) = (j : Int) := ⟨(z % (n : Int)).toNat, by omega⟩
  have hjn : j < n := by omega
  refine z_iload C 5 rfl dL_areCopies_422 (rfl : 422 + 2 = 424) ?_
  refine z_if_eq (pt := 505) C dL_areCopies_424 (by decide) (rfl : 424 + 3 = 427) (iI_eq0 (by decide)).1 (fun q => mt (iI_eq0 (by decide)).2 q) (fun c1 => ?_) (fun c1 => ?_)
  · exact absurd c1 (by decide)
  refine z_aload_n C 8 rfl rfl dL_areCopies_427 (rfl : 427 + 1 = 428) ?_
  refine z_callV C (11 * n) (66 * n) (c_X5_families h hI.1) gL_areCopies_X5_families rfl hd85_X5_families ⟨Nat.le_of_ble_eq_true rfl, Nat.le_of_ble_eq_true rfl⟩ (pwm_MC h.1.x8.1 h.1.x8.2.1) rfl rfl (Nat.le_of_ble_eq_true rfl) dL_areCopies_428 (rfl : 428 + 3 = 431) rfl rfl ⟨by show 11 * n ≤ 200; omega, by show 66 * n ≤ 1200; omega⟩ (fun _ _ h => h.elim) ?_ rfl
  rintro _ _ ⟨rfl, f2, hf2, rfl⟩
  refine z_v1 ?_
  refine z_iload C 6 rfl dL_areCopies_431 (rfl : 431 + 2 = 433) ?_
  refine z_same (pt := 505) C (congrArg iI (smI_cong n (fun i hi => by have e : f2 i = I 2 (g 0 i) := hf2.uniq h.2 hi; simp only [e]))) dL_areCopies_433 (by decide) (rfl : 433 + 3 = 436) ?_
  refine z_aload_n C 8 rfl rfl dL_areCopies_436 (rfl : 436 + 1 = 437) ?_
  refine z_callV C (11 * n) (66 * n) (c_X5_rightGuesses h hI.1) gL_areCopies_X5_rightGuesses rfl hd85_X5_rightGuesses ⟨Nat.le_of_ble_eq_true rfl, Nat.le_of_ble_eq_true rfl⟩ (pwm_MC h.1.x8.1 h.1.x8.2.1) rfl rfl (Nat.le_of_ble_eq_true rfl) dL_areCopies_437 (rfl : 437 + 3 = 440) rfl rfl ⟨by show 11 * n ≤ 200; omega, by show 66 * n ≤ 1200; omega⟩ (fun _ _ h => h.elim) ?_ rfl
  rintro _ _ ⟨rfl, rfl⟩
  refine z_v1 ?_
  refine z_iload C 7 rfl dL_areCopies_440 (rfl : 440 + 2 = 442) ?_
  refine z_same (pt := 505) C rfl dL_areCopies_442 (by decide) (rfl : 442 + 3 = 445) ?_
  refine z_aload_n C 8 rfl rfl dL_areCopies_445 (rfl : 445 + 1 = 446) ?_
  refine z_iload C 3 rfl dL_areCopies_446 (rfl : 446 + 2 = 448) ?_
  refine z_callS C (11 * n) (66 * n) (c_L_place hk) gL_areCopies_L_place rfl hd85_L_place ⟨Nat.le_of_ble_eq_true rfl, Nat.le_of_ble_eq_true rfl⟩ rfl (Nat.le_of_ble_eq_true rfl) dL_areCopies_448 (rfl : 448 + 3 = 451) rfl rfl ⟨by show 11 * n ≤ 200; omega, by show 66 * n ≤ 1200; omega⟩ (fun _ _ h => h.elim) ?_ rfl
  rintro _ _ ⟨rfl, rfl⟩
  refine z_v1 ?_
  refine z_iload C 4 rfl dL_areCopies_451 (rfl : 451 + 2 = 453) ?_
  refine z_callV C (11 * n + 2) (66 * n + 12) (c_X5_spread (p := ((plc k : Nat) : Int)) (r := r) ⟨by omega, by omega⟩ ⟨by omega, by omega⟩ h hI.1) gL_areCopies_X5_spread rfl hd85_X5_spread ⟨Nat.le_of_ble_eq_true rfl, Nat.le_of_ble_eq_true rfl⟩ (pwm_MC h.1.x8.1 h.1.x8.2.1) rfl rfl (Nat.le_of_ble_eq_true rfl) dL_areCopies_453 (rfl : 453 + 3 = 456) rfl rfl ⟨by show 11 * n + 2 ≤ 200; omega, by show 66 * n + 12 ≤ 1200; omega⟩ (fun E w hE => rdE2_no ⟨by omega, by omega⟩ ⟨by omega, by omega⟩ hE) ?_ rfl
  rintro _ _ ⟨rfl, -, -, rfl⟩
  refine z_v1 ?_
  refine z_iload C 2 rfl dL_areCopies_456 (rfl : 456 + 2 = 458) ?_
  refine z_same (pt := 505) C rfl dL_areCopies_458 (by decide) (rfl : 458 + 3 = 461) ?_
  refine z_aload_n C 8 rfl rfl dL_areCopies_461 (rfl : 461 + 1 = 462) ?_
  refine z_iload C 3 rfl dL_areCopies_462 (rfl : 462 + 2 = 464) ?_
  refine z_callS C (11 * n + 2) (66 * n + 12) (c_L_place hk) gL_areCopies_L_place rfl hd85_L_place ⟨Nat.le_of_ble_eq_true rfl, Nat.le_of_ble_eq_true rfl⟩ rfl (Nat.le_of_ble_eq_true rfl) dL_areCopies_464 (rfl : 464 + 3 = 467) rfl rfl ⟨by show 11 * n + 2 ≤ 200; omega, by show 66 * n + 12 ≤ 1200; omega⟩ (fun _ _ h => h.elim) ?_ rfl
  rintro _ _ ⟨rfl, rfl⟩
  refine z_v1 ?_
  refine z_iload C 4 rfl dL_areCopies_467 (rfl : 467 + 2 = 469) ?_
  refine z_callV C (11 * n + 4) (66 * n + 24) (c_X5_sources (p := ((plc k : Nat) : Int)) (r := r) ⟨by omega, by omega⟩ ⟨by omega, by omega⟩ h hI.1) gL_areCopies_X5_sources rfl hd85_X5_sources ⟨Nat.le_of_ble_eq_true rfl, Nat.le_of_ble_eq_true rfl⟩ (pwm_MC h.1.x8.1 h.1.x8.2.1) rfl rfl (Nat.le_of_ble_eq_true rfl) dL_areCopies_469 (rfl : 469 + 3 = 472) rfl rfl ⟨by show 11 * n + 4 ≤ 200; omega, by show 66 * n + 24 ≤ 1200; omega⟩ (fun E w hE => rdE2_no ⟨by omega, by omega⟩ ⟨by omega, by omega⟩ hE) ?_ rfl
  rintro _ _ ⟨rfl, -, -, rfl⟩
  refine z_v1 ?_
  refine z_iload C 1 rfl dL_areCopies_472 (rfl : 472 + 2 = 474) ?_
  refine z_same (pt := 505) C rfl dL_areCopies_474 (by decide) (rfl : 474 + 3 = 477) ?_
  refine z_aload_n C 8 rfl rfl dL_areCopies_477 (rfl : 477 + 1 = 478) ?_
  refine z_iload C 12 rfl dL_areCopies_478 (rfl : 478 + 2 = 480) ?_
  refine z_aload_n C 11 rfl rfl dL_areCopies_480 (rfl : 480 + 1 = 481) ?_
  refine z_iconst C dL_areCopies_481 (rfl : 481 + 1 = 482) ?_
  refine z_iald C lwm_8 ⟨by omega, by omega⟩ (by omega) (rdA hm.1 (by omega)) dL_areCopies_482 (rfl : 482 + 1 = 483) ?_
  refine z_irem C ⟨by omega, by omega⟩ ⟨by omega, by omega⟩ rfl dL_areCopies_483 (rfl : 483 + 1 = 484) ?_
  refine z_topi (y := iI (j : Int)) (congrArg iI ej) ?_
  refine z_iconst C dL_areCopies_484 (rfl : 484 + 1 = 485) ?_
  refine z_callV C (11 * n + 6) (66 * n + 36) (c_X5_reading (z := (j : Int)) (p := 1) ⟨by omega, by omega⟩ ⟨by omega, by omega⟩ h hI.1) gL_areCopies_X5_reading rfl hd85_X5_reading ⟨Nat.le_of_ble_eq_true rfl, Nat.le_of_ble_eq_true rfl⟩ (pwm_MC h.1.x8.1 h.1.x8.2.1) rfl rfl (Nat.le_of_ble_eq_true rfl) dL_areCopies_485 (rfl : 485 + 3 = 488) rfl rfl ⟨by show 11 * n + 6 ≤ 200; omega, by show 66 * n + 36 ≤ 1200; omega⟩ (fun E w hE => rdE_no (⟨⟨by omega, by omega⟩, by omega, by omega⟩) hE) ?_ rfl
  rintro _ _ ⟨rfl, -, rfl⟩
  have z1 : V 0 (24 * (j : Int).toNat + (1 : Int).toNat) = 0 := hI.2.2.2.1 j hjn 1 (by decide) (not_isPl (by decide))
  refine z_v1 (z_topi (y := iI 0) (congrArg iI z1) ?_)
  refine z_if_ne (pt := 505) C dL_areCopies_488 (by decide) (rfl : 488 + 3 = 491) (fun q => mt (iI_eq0 (by decide)).2 q) (iI_eq0 (by decide)).1 (fun c2 => ?_) (fun c2 => ?_)
  · exact absurd rfl c2
  refine z_aload_n C 8 rfl rfl dL_areCopies_491 (rfl : 491 + 1 = 492) ?_
  refine z_iconst C dL_areCopies_492 (rfl : 492 + 1 = 493) ?_
  refine z_iload C 4 rfl dL_areCopies_493 (rfl : 493 + 2 = 495) ?_
  refine z_callV C (11 * n + 8) (66 * n + 48) (c_X5_spread (p := 1) (r := r) ⟨by omega, by omega⟩ ⟨by omega, by omega⟩ h hI.1) gL_areCopies_X5_spread rfl hd85_X5_spread ⟨Nat.le_of_ble_eq_true rfl, Nat.le_of_ble_eq_true rfl⟩ (pwm_MC h.1.x8.1 h.1.x8.2.1) rfl rfl (Nat.le_of_ble_eq_true rfl) dL_areCopies_495 (rfl : 495 + 3 = 498) rfl rfl ⟨by show 11 * n + 8 ≤ 200; omega, by show 66 * n + 48 ≤ 1200; omega⟩ (fun E w hE => rdE2_no ⟨by omega, by omega⟩ ⟨by omega, by omega⟩ hE) ?_ rfl
  rintro _ _ ⟨rfl, -, -, rfl⟩
  have z2 : smI (fun i => b01 (V 0 (24 * i + (1 : Int).toNat) = r)) n = 0 := sp_odd hI hr.1 n (Nat.le_refl n)
  refine z_v1 (z_topi (y := iI 0) (congrArg iI z2) ?_)
  refine z_if_ne (pt := 505) C dL_areCopies_498 (by decide) (rfl : 498 + 3 = 501) (fun q => mt (iI_eq0 (by decide)).2 q) (iI_eq0 (by decide)).1 (fun c3 => ?_) (fun c3 => ?_)
  · exact absurd rfl c3
  refine z_iconst C dL_areCopies_501 (rfl : 501 + 1 = 502) ?_
  refine z_goto (pc' := 506) C dL_areCopies_502 (by decide) ?_
  exact z_zret C rfl (.inr rfl) dL_areCopies_506 hq (by omega) (by omega)
theorem c_L_areCopies {z : Int} (hz : 0 ≤ z ∧ z < 20000000) (h : RX de L K I F R N O T g V n m t) (hI : LInv V n m t) (hW : LWr V n m t B A) : MC l yL_areCopies wsL_areCopies rmL_areCopies G base [.ref (g 6 0), .ref (q 0), .ref (q 1), .ref (q 8), .int (iI z)] (pw G (lwW G q B A) L K I F R N O) (fun v w => v = some (.int (iI 1)) ∧ w = (pw G (lwW G q B A) L K I F R N O)) (fun _ _ => False) := by
  refine MC.of (cc := cL_areCopies) (by decide) rfl rfl (Nat.le_of_ble_eq_true rfl) ?_
  intro κ C hT hl hnm
  have hb := hI.2.2.1
  refine z_sub [0, 1, 2, 3, 4] (lv' := [(0, .ref (g 6 0)), (1, .ref (q 0)), (2, .ref (q 1)), (3, .ref (q 8)), (4, .int (iI z))]) rfl ?_
  refine z_iconst C dL_areCopies_0 (rfl : 0 + 1 = 1) ?_
  refine z_istore (lv' := [(5, _), (0, _), (1, _), (2, _), (3, _), (4, _)]) C dL_areCopies_1 (rfl : 1 + 2 = 3) (by decide) rfl ?_
  refine z_iconst C dL_areCopies_3 (rfl : 3 + 1 = 4) ?_
  refine z_istore (lv' := [(6, _), (5, _), (0, _), (1, _), (2, _), (3, _), (4, _)]) C dL_areCopies_4 (rfl : 4 + 2 = 6) (by decide) rfl ?_
  refine z_aload_n C 2 rfl rfl dL_areCopies_6 (rfl : 6 + 1 = 7) ?_
  refine z_callV C 0 0 (c_X5_copies h hI.1) gL_areCopies_X5_copies rfl hd85_X5_copies ⟨Nat.le_of_ble_eq_true rfl, Nat.le_of_ble_eq_true rfl⟩ (pwm_MC h.1.x8.1 h.1.x8.2.1) rfl rfl (Nat.le_of_ble_eq_true rfl) dL_areCopies_7 (rfl : 7 + 3 = 10) rfl rfl ⟨Nat.le_of_ble_eq_true rfl, Nat.le_of_ble_eq_true rfl⟩ (fun _ _ h => h.elim) ?_ rfl
  rintro _ _ ⟨rfl, rfl⟩
  refine z_v1 ?_
  refine z_aload_n C 5 rfl rfl dL_areCopies_10 (rfl : 10 + 1 = 11) ?_
  refine z_iconst C dL_areCopies_11 (rfl : 11 + 1 = 12) ?_
  refine z_iald C lwm_8 ⟨by omega, by omega⟩ (by omega) (rdA hW.1.1 (by omega)) dL_areCopies_12 (rfl : 12 + 1 = 13) ?_
  refine z_same (pt := 20) C rfl dL_areCopies_13 (by decide) (rfl : 13 + 3 = 16) ?_
  refine z_iconst C dL_areCopies_16 (rfl : 16 + 1 = 17) ?_
  refine z_goto (pc' := 21) C dL_areCopies_17 (by decide) ?_
  refine z_istore (lv' := [(7, _), (6, _), (5, _), (0, _), (1, _), (2, _), (3, _), (4, _)]) C dL_areCopies_21 (rfl : 21 + 2 = 23) (by decide) rfl ?_
  refine z_iconst C dL_areCopies_23 (rfl : 23 + 1 = 24) ?_
  refine z_istore (lv' := [(8, _), (7, _), (6, _), (5, _), (0, _), (1, _), (2, _), (3, _), (4, _)]) C dL_areCopies_24 (rfl : 24 + 2 = 26) (by decide) rfl ?_
  refine z_sub [0, 1, 2, 3, 4, 5, 6, 7, 8] (lv' := [(8, .int (iI ((0 : Nat) : Int))), (7, .int (iI 1)), (6, .int (iI (fmS (fun i => I 2 (g 0 i)) 0))), (5, .int (iI (rgS V 0))), (0, .ref (g 6 0)), (1, .ref (q 0)), (2, .ref (q 1)), (3, .ref (q 8)), (4, .int (iI z))]) rfl ?_
  refine lp_L_ac1 C hz h hI hW ?_ n 0 (by omega)
  refine z_iload C 8 rfl dL_areCopies_301 (rfl : 301 + 2 = 303) ?_
  refine z_bipush (c := 12) C (by decide) dL_areCopies_303 (rfl : 303 + 2 = 305) ?_
  refine z_irem C ⟨by omega, by omega⟩ ⟨by omega, by omega⟩ rfl dL_areCopies_305 (rfl : 305 + 1 = 306) ?_
  obtain ⟨k, ek⟩ : ∃ k : Nat, z % 12 = (k : Int) := ⟨(z % 12).toNat, by omega⟩
  refine z_topi (y := iI (k : Int)) (congrArg iI ek) ?_
  refine z_istore (lv' := [(8, _), (7, _), (6, _), (5, _), (0, _), (1, _), (2, _), (3, _), (4, _)]) C dL_areCopies_306 (rfl : 306 + 2 = 308) (by decide) rfl ?_
  refine z_iconst C dL_areCopies_308 (rfl : 308 + 1 = 309) ?_
  refine z_iload C 8 rfl dL_areCopies_309 (rfl : 309 + 2 = 311) ?_
  refine z_bipush (c := 12) C (by decide) dL_areCopies_311 (rfl : 311 + 2 = 313) ?_
  refine z_iquo C ⟨by omega, by omega⟩ ⟨by omega, by omega⟩ rfl dL_areCopies_313 (rfl : 313 + 1 = 314) ?_
  refine z_iconst C dL_areCopies_314 (rfl : 314 + 1 = 315) ?_
  refine z_irem C ⟨by omega, by omega⟩ ⟨by omega, by omega⟩ rfl dL_areCopies_315 (rfl : 315 + 1 = 316) ?_
  refine z_iadd C dL_areCopies_316 (rfl : 316 + 1 = 317) rfl ?_
  refine z_istore (lv' := [(9, _), (8, _), (7, _), (6, _), (5, _), (0, _), (1, _), (2, _), (3, _), (4, _)]) C dL_areCopies_317 (rfl : 317 + 2 = 319) (by decide) rfl ?_
  refine z_iconst C dL_areCopies_319 (rfl : 319 + 1 = 320) ?_
  refine z_istore (lv' := [(10, _), (9, _), (8, _), (7, _), (6, _), (5, _), (0, _), (1, _), (2, _), (3, _), (4, _)]) C dL_areCopies_320 (rfl : 320 + 2 = 322) (by decide) rfl ?_
  refine z_iconst C dL_areCopies_322 (rfl : 322 + 1 = 323) ?_
  refine z_istore (lv' := [(11, _), (10, _), (9, _), (8, _), (7, _), (6, _), (5, _), (0, _), (1, _), (2, _), (3, _), (4, _)]) C dL_areCopies_323 (rfl : 323 + 2 = 325) (by decide) rfl ?_
  refine z_iconst C dL_areCopies_325 (rfl : 325 + 1 = 326) ?_
  refine z_istore (lv' := [(12, _), (11, _), (10, _), (9, _), (8, _), (7, _), (6, _), (5, _), (0, _), (1, _), (2, _), (3, _), (4, _)]) C dL_areCopies_326 (rfl : 326 + 2 = 328) (by decide) rfl ?_
  refine z_sub [0, 1, 2, 4, 3, 5, 6, 7, 8, 9, 10, 11, 12] (lv' := [(12, .int (iI ((0 : Nat) : Int))), (11, .int (iI (soS V (plc k) (1 + z / 12 % 3) 0))), (10, .int (iI (spS V (plc k) (1 + z / 12 % 3) 0))), (8, .int (iI (k : Int))), (9, .int (iI (1 + z / 12 % 3))), (7, .int (iI 1)), (6, .int (iI (fmS (fun i => I 2 (g 0 i)) n))), (5, .int (iI (rgS V n))), (0, .ref (g 6 0)), (1, .ref (q 0)), (2, .ref (q 1)), (3, .ref (q 8)), (4, .int (iI z))]) rfl ?_
  refine lp_L_ac2 C hz h hI hW (by omega) (by omega) (by omega) (by omega) ?_ n 0 (by omega)
  exact tl_L_ac2 C hz h hI hW (by omega) (by omega) ⟨rfl, rfl⟩ rfl rfl
end
