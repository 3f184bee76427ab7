/-- the script, an old row -/
def SCR (κ : KxT) (base b Ln : Nat) (xs : Nat → Int32) : Prop := va_X b Ln xs (ks κ) (ks κ).heap ∧ b < (ks κ).heap.size ∧ ¬ Bd base b
theorem and31 (x : Int32) : ∃ k : Nat, k < 32 ∧ x &&& iI 31 = iI (k : Int) := by
  obtain ⟨j, h1, h2⟩ := pk_andE x (m := iI 31) 5 (by decide +kernel)
  exact ⟨j, h1, h2⟩
section
variable {κ : KxT} {cc : ByteArray} {nL : Nat} {Ts : List Cond} {own : String} {ret : Option FieldType} {rm0 : Room} {G : GG} {base mc ms : Nat} {post : Option Value → va_W → Prop} {exc : String → va_W → Prop} {cells slots pc pc' : Nat} {lv : List (Nat × Value)} {st : List Value} {ws ws' : va_W} {b Ln : Nat} {xs : Nat → Int32}
theorem z_slen (C : Cx κ cc nL Ts own ret rm0 G base) (S : SCR κ base b Ln xs) (d : decode cc pc = .ok (.arraylength, 1)) (hn : pc + 1 = pc') (kk : Z κ nL G base mc ms post exc cells slots pc' lv (.int (iI (Ln : Int)) :: st) ws) : Z κ nL G base mc ms post exc cells slots pc lv (.ref b :: st) ws := by
  subst hn
  exact fun ls H locs h hP hD hS => va_slen C.1 C.2.1 S.1 S.2.1 S.2.2 hS d (kk ls H locs h hP hD hS)
theorem z_sld (C : Cx κ cc nL Ts own ret rm0 G base) {z : Int} {x : Int32} (S : SCR κ base b Ln xs) (hz : 0 ≤ z ∧ z < Ln) (hb : z < 2147483648) (hv : xs z.toNat = x) (d : decode cc pc = .ok (.iaload, 1)) (hn : pc + 1 = pc') (kk : Z κ nL G base mc ms post exc cells slots pc' lv (.int x :: st) ws) : Z κ nL G base mc ms post exc cells slots pc lv (.int (iI z) :: .ref b :: st) ws := by
  subst hn
  exact fun ls H locs h hP hD hS => va_sld C.1 C.2.1 S.1 S.2.1 S.2.2 hS (iI_in hz hb) d (by rw [iI_cl ⟨hz.1, hb⟩, hv]; exact kk ls H locs h hP hD hS)
theorem z_tab (C : Cx κ cc nL Ts own ret rm0 G base) {dflt lo hi off : Int} {offs : Array Int} {len k : Nat} (d : decode cc pc = .ok (.tableswitch dflt lo hi offs, len)) (hk : k < 1000) (h1 : lo ≤ (k : Int) ∧ (k : Int) ≤ hi) (ho : offs[((k : Int) - lo).toNat]? = some off) (ht : (pc : Int) + off = (pc' : Int)) (kk : Z κ nL G base mc ms post exc cells slots pc' lv st ws) : Z κ nL G base mc ms post exc cells slots pc lv (.int (iI (k : Int)) :: st) ws := by
  have e : (iI (k : Int)).toInt = (k : Int) := iI_toInt ⟨by omega, by omega⟩
  exact fun ls H locs h hP hD hS => lv_tableIn C.1 C.2.1 d (by rw [e]; omega) (by rw [e]; omega) (by rw [e]; exact ho) ht (kk ls H locs h hP hD hS)
end
theorem hd83_L_slip : yL_slip.cls ≠ "java/lang/invoke/MethodHandle" ∧ yL_slip.cls ≠ "java/lang/invoke/VarHandle" ∧ (parseMethodDescriptor yL_slip.desc).map (fun d => d.parameters.length) = some 4 := by decide +kernel
theorem hd83_X6_slip : yX6_slip.cls = RX6 ∧ yX6_slip.cls ≠ "java/lang/invoke/MethodHandle" ∧ yX6_slip.cls ≠ "java/lang/invoke/VarHandle" ∧ (parseMethodDescriptor yX6_slip.desc).map (fun d => d.parameters.length) = some 2 := by decide +kernel
theorem hd83_L_copy : yL_copy.cls ≠ "java/lang/invoke/MethodHandle" ∧ yL_copy.cls ≠ "java/lang/invoke/VarHandle" ∧ (parseMethodDescriptor yL_copy.desc).map (fun d => d.parameters.length) = some 6 := by decide +kernel
theorem hd83_X6_copy : yX6_copy.cls = RX6 ∧ yX6_copy.cls ≠ "java/lang/invoke/MethodHandle" ∧ yX6_copy.cls ≠ "java/lang/invoke/VarHandle" ∧ (parseMethodDescriptor yX6_copy.desc).map (fun d => d.parameters.length) = some 4 := by decide +kernel
theorem hd83_L_tellModel : yL_tellModel.cls ≠ "java/lang/invoke/MethodHandle" ∧ yL_tellModel.cls ≠ "java/lang/invoke/VarHandle" ∧ (parseMethodDescriptor yL_tellModel.desc).map (fun d => d.parameters.length) = some 3 := by decide +kernel
theorem hd83_X6_tellModel : yX6_tellModel.cls = RX6 ∧ yX6_tellModel.cls ≠ "java/lang/invoke/MethodHandle" ∧ yX6_tellModel.cls ≠ "java/lang/invoke/VarHandle" ∧ (parseMethodDescriptor yX6_tellModel.desc).map (fun d => d.parameters.length) = some 1 := by decide +kernel
theorem hd83_L_pass : yL_pass.cls ≠ "java/lang/invoke/MethodHandle" ∧ yL_pass.cls ≠ "java/lang/invoke/VarHandle" ∧ (parseMethodDescriptor yL_pass.desc).map (fun d => d.parameters.length) = some 3 := by decide +kernel
theorem hd83_X6_pass : yX6_pass.cls = RX6 ∧ yX6_pass.cls ≠ "java/lang/invoke/MethodHandle" ∧ yX6_pass.cls ≠ "java/lang/invoke/VarHandle" ∧ (parseMethodDescriptor yX6_pass.desc).map (fun d => d.parameters.length) = some 1 := by decide +kernel
theorem hd83_L_correct : yL_correct.cls ≠ "java/lang/invoke/MethodHandle" ∧ yL_correct.cls ≠ "java/lang/invoke/VarHandle" ∧ (parseMethodDescriptor yL_correct.desc).map (fun d => d.parameters.length) = some 6 := by decide +kernel
theorem hd83_X6_correct : yX6_correct.cls = RX6 ∧ yX6_correct.cls ≠ "java/lang/invoke/MethodHandle" ∧ yX6_correct.cls ≠ "java/lang/invoke/VarHandle" ∧ (parseMethodDescriptor yX6_correct.desc).map (fun d => d.parameters.length) = some 4 := by decide +kernel
theorem hd83_L_workIn : yL_workIn.cls ≠ "java/lang/invoke/MethodHandle" ∧ yL_workIn.cls ≠ "java/lang/invoke/VarHandle" ∧ (parseMethodDescriptor yL_workIn.desc).map (fun d => d.parameters.length) = some 4 := by decide +kernel
theorem hd83_X6_workIn : yX6_workIn.cls = RX6 ∧ yX6_workIn.cls ≠ "java/lang/invoke/MethodHandle" ∧ yX6_workIn.cls ≠ "java/lang/invoke/VarHandle" ∧ (parseMethodDescriptor yX6_workIn.desc).map (fun d => d.parameters.length) = some 2 := by decide +kernel
theorem hd83_L_lend : yL_lend.cls ≠ "java/lang/invoke/MethodHandle" ∧ yL_lend.cls ≠ "java/lang/invoke/VarHandle" ∧ (parseMethodDescriptor yL_lend.desc).map (fun d => d.parameters.length) = some 6 := by decide +kernel
theorem hd83_X6_lend : yX6_lend.cls = RX6 ∧ yX6_lend.cls ≠ "java/lang/invoke/MethodHandle" ∧ yX6_lend.cls ≠ "java/lang/invoke/VarHandle" ∧ (parseMethodDescriptor yX6_lend.desc).map (fun d => d.parameters.length) = some 4 := by decide +kernel
theorem hd83_L_giveBack : yL_giveBack.cls ≠ "java/lang/invoke/MethodHandle" ∧ yL_giveBack.cls ≠ "java/lang/invoke/VarHandle" ∧ (parseMethodDescriptor yL_giveBack.desc).map (fun d => d.parameters.length) = some 3 := by decide +kernel
theorem hd83_X6_giveBack : yX6_giveBack.cls = RX6 ∧ yX6_giveBack.cls ≠ "java/lang/invoke/MethodHandle" ∧ yX6_giveBack.cls ≠ "java/lang/invoke/VarHandle" ∧ (parseMethodDescriptor yX6_giveBack.desc).map (fun d => d.parameters.length) = some 1 := by decide +kernel
theorem hd83_X5_day : yX5_day.cls = RX5 ∧ yX5_day.cls ≠ "java/lang/invoke/MethodHandle" ∧ yX5_day.cls ≠ "java/lang/invoke/VarHandle" ∧ (parseMethodDescriptor yX5_day.desc).map (fun d => d.parameters.length) = some 0 := by decide +kernel
theorem hd83_X6_day : yX6_day.cls = RX6 ∧ yX6_day.cls ≠ "java/lang/invoke/MethodHandle" ∧ yX6_day.cls ≠ "java/lang/invoke/VarHandle" ∧ (parseMethodDescriptor yX6_day.desc).map (fun d => d.parameters.length) = some 0 := by decide +kernel
theorem hd83_X5_copies : yX5_copies.cls = RX5 ∧ yX5_copies.cls ≠ "java/lang/invoke/MethodHandle" ∧ yX5_copies.cls ≠ "java/lang/invoke/VarHandle" ∧ (parseMethodDescriptor yX5_copies.desc).map (fun d => d.parameters.length) = some 0 := by decide +kernel
theorem hd83_X6_copies : yX6_copies.cls = RX6 ∧ yX6_copies.cls ≠ "java/lang/invoke/MethodHandle" ∧ yX6_copies.cls ≠ "java/lang/invoke/VarHandle" ∧ (parseMethodDescriptor yX6_copies.desc).map (fun d => d.parameters.length) = some 0 := by decide +kernel
theorem hd83_L_reading : yL_reading.cls ≠ "java/lang/invoke/MethodHandle" ∧ yL_reading.cls ≠ "java/lang/invoke/VarHandle" ∧ (parseMethodDescriptor yL_reading.desc).map (fun d => d.parameters.length) = some 4 := by decide +kernel
theorem hd83_X6_reading : yX6_reading.cls = RX6 ∧ yX6_reading.cls ≠ "java/lang/invoke/MethodHandle" ∧ yX6_reading.cls ≠ "java/lang/invoke/VarHandle" ∧ (parseMethodDescriptor yX6_reading.desc).map (fun d => d.parameters.length) = some 2 := by decide +kernel
theorem hd83_L_errors : yL_errors.cls ≠ "java/lang/invoke/MethodHandle" ∧ yL_errors.cls ≠ "java/lang/invoke/VarHandle" ∧ (parseMethodDescriptor yL_errors.desc).map (fun d => d.parameters.length) = some 3 := by decide +kernel
theorem hd83_X6_errors : yX6_errors.cls = RX6 ∧ yX6_errors.cls ≠ "java/lang/invoke/MethodHandle" ∧ yX6_errors.cls ≠ "java/lang/invoke/VarHandle" ∧ (parseMethodDescriptor yX6_errors.desc).map (fun d => d.parameters.length) = some 1 := by decide +kernel
theorem hd83_L_shared : yL_shared.cls ≠ "java/lang/invoke/MethodHandle" ∧ yL_shared.cls ≠ "java/lang/invoke/VarHandle" ∧ (parseMethodDescriptor yL_shared.desc).map (fun d => d.parameters.length) = some 4 := by decide +kernel
theorem hd83_X6_shared : yX6_shared.cls = RX6 ∧ yX6_shared.cls ≠ "java/lang/invoke/MethodHandle" ∧ yX6_shared.cls ≠ "java/lang/invoke/VarHandle" ∧ (parseMethodDescriptor yX6_shared.desc).map (fun d => d.parameters.length) = some 2 := by decide +kernel
theorem hd83_L_houseOf : yL_houseOf.cls ≠ "java/lang/invoke/MethodHandle" ∧ yL_houseOf.cls ≠ "java/lang/invoke/VarHandle" ∧ (parseMethodDescriptor yL_houseOf.desc).map (fun d => d.parameters.length) = some 3 := by decide +kernel
theorem hd83_X6_houseOf : yX6_houseOf.cls = RX6 ∧ yX6_houseOf.cls ≠ "java/lang/invoke/MethodHandle" ∧ yX6_houseOf.cls ≠ "java/lang/invoke/VarHandle" ∧ (parseMethodDescriptor yX6_houseOf.desc).map (fun d => d.parameters.length) = some 1 := by decide +kernel
theorem hd83_L_ownerOf : yL_ownerOf.cls ≠ "java/lang/invoke/MethodHandle" ∧ yL_ownerOf.cls ≠ "java/lang/invoke/VarHandle" ∧ (parseMethodDescriptor yL_ownerOf.desc).map (fun d => d.parameters.length) = some 3 := by decide +kernel
theorem hd83_X6_ownerOf : yX6_ownerOf.cls = RX6 ∧ yX6_ownerOf.cls ≠ "java/lang/invoke/MethodHandle" ∧ yX6_ownerOf.cls ≠ "java/lang/invoke/VarHandle" ∧ (parseMethodDescriptor yX6_ownerOf.desc).map (fun d => d.parameters.length) = some 1 := by decide +kernel
theorem hd83_L_toldModel : yL_toldModel.cls ≠ "java/lang/invoke/MethodHandle" ∧ yL_toldModel.cls ≠ "java/lang/invoke/VarHandle" ∧ (parseMethodDescriptor yL_toldModel.desc).map (fun d => d.parameters.length) = some 3 := by decide +kernel
theorem hd83_X6_toldModel : yX6_toldModel.cls = RX6 ∧ yX6_toldModel.cls ≠ "java/lang/invoke/MethodHandle" ∧ yX6_toldModel.cls ≠ "java/lang/invoke/VarHandle" ∧ (parseMethodDescriptor yX6_toldModel.desc).map (fun d => d.parameters.length) = some 1 := by decide +kernel
theorem hd83_L_slips : yL_slips.cls ≠ "java/lang/invoke/MethodHandle" ∧ yL_slips.cls ≠ "java/lang/invoke/VarHandle" ∧ (parseMethodDescriptor yL_slips.desc).map (fun d => d.parameters.length) = some 3 := by decide +kernel
theorem hd83_X6_slips : yX6_slips.cls = RX6 ∧ yX6_slips.cls ≠ "java/lang/invoke/MethodHandle" ∧ yX6_slips.cls ≠ "java/lang/invoke/VarHandle" ∧ (parseMethodDescriptor yX6_slips.desc).map (fun d => d.parameters.length) = some 1 := by decide +kernel
theorem hd83_L_family : yL_family.cls ≠ "java/lang/invoke/MethodHandle" ∧ yL_family.cls ≠ "java/lang/invoke/VarHandle" ∧ (parseMethodDescriptor yL_family.desc).map (fun d => d.parameters.length) = some 3 := by decide +kernel
theorem hd83_X6_family : yX6_family.cls = RX6 ∧ yX6_family.cls ≠ "java/lang/invoke/MethodHandle" ∧ yX6_family.cls ≠ "java/lang/invoke/VarHandle" ∧ (parseMethodDescriptor yX6_family.desc).map (fun d => d.parameters.length) = some 1 := by decide +kernel
theorem hd83_L_familyByErrors : yL_familyByErrors.cls ≠ "java/lang/invoke/MethodHandle" ∧ yL_familyByErrors.cls ≠ "java/lang/invoke/VarHandle" ∧ (parseMethodDescriptor yL_familyByErrors.desc).map (fun d => d.parameters.length) = some 3 := by decide +kernel
theorem hd83_X6_familyByErrors : yX6_familyByErrors.cls = RX6 ∧ yX6_familyByErrors.cls ≠ "java/lang/invoke/MethodHandle" ∧ yX6_familyByErrors.cls ≠ "java/lang/invoke/VarHandle" ∧ (parseMethodDescriptor yX6_familyByErrors.desc).map (fun d => d.parameters.length) = some 1 := by decide +kernel
theorem hd83_X5_families : yX5_families.cls = RX5 ∧ yX5_families.cls ≠ "java/lang/invoke/MethodHandle" ∧ yX5_families.cls ≠ "java/lang/invoke/VarHandle" ∧ (parseMethodDescriptor yX5_families.desc).map (fun d => d.parameters.length) = some 0 := by decide +kernel
theorem hd83_X6_families : yX6_families.cls = RX6 ∧ yX6_families.cls ≠ "java/lang/invoke/MethodHandle" ∧ yX6_families.cls ≠ "java/lang/invoke/VarHandle" ∧ (parseMethodDescriptor yX6_families.desc).map (fun d => d.parameters.length) = some 0 := by decide +kernel
theorem hd83_L_guess : yL_guess.cls ≠ "java/lang/invoke/MethodHandle" ∧ yL_guess.cls ≠ "java/lang/invoke/VarHandle" ∧ (parseMethodDescriptor yL_guess.desc).map (fun d => d.parameters.length) = some 3 := by decide +kernel
theorem hd83_X6_guess : yX6_guess.cls = RX6 ∧ yX6_guess.cls ≠ "java/lang/invoke/MethodHandle" ∧ yX6_guess.cls ≠ "java/lang/invoke/VarHandle" ∧ (parseMethodDescriptor yX6_guess.desc).map (fun d => d.parameters.length) = some 1 := by decide +kernel
theorem hd83_X5_rightGuesses : yX5_rightGuesses.cls = RX5 ∧ yX5_rightGuesses.cls ≠ "java/lang/invoke/MethodHandle" ∧ yX5_rightGuesses.cls ≠ "java/lang/invoke/VarHandle" ∧ (parseMethodDescriptor yX5_rightGuesses.desc).map (fun d => d.parameters.length) = some 0 := by decide +kernel
theorem hd83_X6_rightGuesses : yX6_rightGuesses.cls = RX6 ∧ yX6_rightGuesses.cls ≠ "java/lang/invoke/MethodHandle" ∧ yX6_rightGuesses.cls ≠ "java/lang/invoke/VarHandle" ∧ (parseMethodDescriptor yX6_rightGuesses.desc).map (fun d => d.parameters.length) = some 0 := by decide +kernel
theorem hd83_L_spread : yL_spread.cls ≠ "java/lang/invoke/MethodHandle" ∧ yL_spread.cls ≠ "java/lang/invoke/VarHandle" ∧ (parseMethodDescriptor yL_spread.desc).map (fun d => d.parameters.length) = some 4 := by decide +kernel
theorem hd83_X6_spread : yX6_spread.cls = RX6 ∧ yX6_spread.cls ≠ "java/lang/invoke/MethodHandle" ∧ yX6_spread.cls ≠ "java/lang/invoke/VarHandle" ∧ (parseMethodDescriptor yX6_spread.desc).map (fun d => d.parameters.length) = some 2 := by decide +kernel
theorem hd83_L_sources : yL_sources.cls ≠ "java/lang/invoke/MethodHandle" ∧ yL_sources.cls ≠ "java/lang/invoke/VarHandle" ∧ (parseMethodDescriptor yL_sources.desc).map (fun d => d.parameters.length) = some 4 := by decide +kernel
theorem hd83_X6_sources : yX6_sources.cls = RX6 ∧ yX6_sources.cls ≠ "java/lang/invoke/MethodHandle" ∧ yX6_sources.cls ≠ "java/lang/invoke/VarHandle" ∧ (parseMethodDescriptor yX6_sources.desc).map (fun d => d.parameters.length) = some 2 := by decide +kernel
theorem hd83_X5_letters : yX5_letters.cls = RX5 ∧ yX5_letters.cls ≠ "java/lang/invoke/MethodHandle" ∧ yX5_letters.cls ≠ "java/lang/invoke/VarHandle" ∧ (parseMethodDescriptor yX5_letters.desc).map (fun d => d.parameters.length) = some 0 := by decide +kernel
theorem hd83_X6_letters : yX6_letters.cls = RX6 ∧ yX6_letters.cls ≠ "java/lang/invoke/MethodHandle" ∧ yX6_letters.cls ≠ "java/lang/invoke/VarHandle" ∧ (parseMethodDescriptor yX6_letters.desc).map (fun d => d.parameters.length) = some 0 := by decide +kernel
theorem hd83_L_hasLetter : yL_hasLetter.cls ≠ "java/lang/invoke/MethodHandle" ∧ yL_hasLetter.cls ≠ "java/lang/invoke/VarHandle" ∧ (parseMethodDescriptor yL_hasLetter.desc).map (fun d => d.parameters.length) = some 4 := by decide +kernel
theorem hd83_X6_hasLetter : yX6_hasLetter.cls = RX6 ∧ yX6_hasLetter.cls ≠ "java/lang/invoke/MethodHandle" ∧ yX6_hasLetter.cls ≠ "java/lang/invoke/VarHandle" ∧ (parseMethodDescriptor yX6_hasLetter.desc).map (fun d => d.parameters.length) = some 2 := by decide +kernel
theorem hd83_L_letter : yL_letter.cls ≠ "java/lang/invoke/MethodHandle" ∧ yL_letter.cls ≠ "java/lang/invoke/VarHandle" ∧ (parseMethodDescriptor yL_letter.desc).map (fun d => d.parameters.length) = some 3 := by decide +kernel
theorem hd83_X6_letter : yX6_letter.cls = RX6 ∧ yX6_letter.cls ≠ "java/lang/invoke/MethodHandle" ∧ yX6_letter.cls ≠ "java/lang/invoke/VarHandle" ∧ (parseMethodDescriptor yX6_letter.desc).map (fun d => d.parameters.length) = some 1 := by decide +kernel
theorem hd83_X5_loans : yX5_loans.cls = RX5 ∧ yX5_loans.cls ≠ "java/lang/invoke/MethodHandle" ∧ yX5_loans.cls ≠ "java/lang/invoke/VarHandle" ∧ (parseMethodDescriptor yX5_loans.desc).map (fun d => d.parameters.length) = some 0 := by decide +kernel
theorem hd83_X6_loans : yX6_loans.cls = RX6 ∧ yX6_loans.cls ≠ "java/lang/invoke/MethodHandle" ∧ yX6_loans.cls ≠ "java/lang/invoke/VarHandle" ∧ (parseMethodDescriptor yX6_loans.desc).map (fun d => d.parameters.length) = some 0 := by decide +kernel
theorem hd83_L_isBack : yL_isBack.cls ≠ "java/lang/invoke/MethodHandle" ∧ yL_isBack.cls ≠ "java/lang/invoke/VarHandle" ∧ (parseMethodDescriptor yL_isBack.desc).map (fun d => d.parameters.length) = some 3 := by decide +kernel
theorem hd83_X6_isBack : yX6_isBack.cls = RX6 ∧ yX6_isBack.cls ≠ "java/lang/invoke/MethodHandle" ∧ yX6_isBack.cls ≠ "java/lang/invoke/VarHandle" ∧ (parseMethodDescriptor yX6_isBack.desc).map (fun d => d.parameters.length) = some 1 := by decide +kernel
theorem hd83_L_late : yL_late.cls ≠ "java/lang/invoke/MethodHandle" ∧ yL_late.cls ≠ "java/lang/invoke/VarHandle" ∧ (parseMethodDescriptor yL_late.desc).map (fun d => d.parameters.length) = some 3 := by decide +kernel
theorem hd83_X6_late : yX6_late.cls = RX6 ∧ yX6_late.cls ≠ "java/lang/invoke/MethodHandle" ∧ yX6_late.cls ≠ "java/lang/invoke/VarHandle" ∧ (parseMethodDescriptor yX6_late.desc).map (fun d => d.parameters.length) = some 1 := by decide +kernel
theorem hd83_L_coins : yL_coins.cls ≠ "java/lang/invoke/MethodHandle" ∧ yL_coins.cls ≠ "java/lang/invoke/VarHandle" ∧ (parseMethodDescriptor yL_coins.desc).map (fun d => d.parameters.length) = some 3 := by decide +kernel
theorem hd83_X6_coins : yX6_coins.cls = RX6 ∧ yX6_coins.cls ≠ "java/lang/invoke/MethodHandle" ∧ yX6_coins.cls ≠ "java/lang/invoke/VarHandle" ∧ (parseMethodDescriptor yX6_coins.desc).map (fun d => d.parameters.length) = some 1 := by decide +kernel
theorem hd83_L_laidDown : yL_laidDown.cls ≠ "java/lang/invoke/MethodHandle" ∧ yL_laidDown.cls ≠ "java/lang/invoke/VarHandle" ∧ (parseMethodDescriptor yL_laidDown.desc).map (fun d => d.parameters.length) = some 3 := by decide +kernel
theorem hd83_X6_laidDown : yX6_laidDown.cls = RX6 ∧ yX6_laidDown.cls ≠ "java/lang/invoke/MethodHandle" ∧ yX6_laidDown.cls ≠ "java/lang/invoke/VarHandle" ∧ (parseMethodDescriptor yX6_laidDown.desc).map (fun d => d.parameters.length) = some 1 := by decide +kernel
theorem hd83_X6_thrown : yX6_thrown.cls = RX6 ∧ yX6_thrown.cls ≠ "java/lang/invoke/MethodHandle" ∧ yX6_thrown.cls ≠ "java/lang/invoke/VarHandle" ∧ (parseMethodDescriptor yX6_thrown.desc).map (fun d => d.parameters.length) = some 0 := by decide +kernel
abbrev rmL_law : Room := room_1
section
variable {κ : KxT} {G : GG} {base mc ms cells slots : Nat} {post : Option Value → va_W → Prop} {exc : String → va_W → Prop} {q : Nat → Nat} {x qo b Ln i : Nat} {xs : Nat → Int32} {w : va_W}
theorem lc_slip (C : Cx κ cL_law 7 wsL_law RL (some .boolean) rmL_law G base) (hN : NcA (ks κ)) (S : SCR κ base b Ln xs) (hi : i + 5 ≤ Ln) (hL : Ln ≤ 2560) (hI : INV G q x qo w) (h1 : cells + 100 ≤ 601024) (h2 : slots + 500 ≤ 7293034)
    (kk : ∀ w', INV G q x qo w' → Z κ 7 G base mc ms post exc (cells + 6) (slots + 260) 1936 [(4, .int (iI (i : Int))), (0, .ref b), (1, .ref x), (2, .ref (q 30)), (3, .ref qo)] [] w') : Z κ 7 G base mc ms post exc cells slots 180 [(4, .int (iI (i : Int))), (0, .ref b), (1, .ref x), (2, .ref (q 30)), (3, .ref qo)] [] w := by
  obtain ⟨V, n, m, t, fo, L, K, I, F, R, N, O, T, g, rfl, rfl, h, hw, hb⟩ := hI
  obtain ⟨a1, r1, e1⟩ := iI_ex (xs (i + 1))
  obtain ⟨a2, r2, e2⟩ := iI_ex (xs (i + 2))
  obtain ⟨postW, hM, hW⟩ := pr_slip (l := kl κ) (base := base) (q := q) (qo := qo) (fo := fo) r1 r2 h hw hb
  refine z_aload_n C 2 rfl rfl dL_law_180 (rfl : 180 + 1 = 181) ?_
  refine z_aload_n C 1 rfl rfl dL_law_181 (rfl : 181 + 1 = 182) ?_
  refine z_iload C 0 rfl dL_law_182 (rfl : 182 + 2 = 184) ?_
  refine z_iconst C dL_law_184 (rfl : 184 + 1 = 185) ?_
  refine z_iadd C dL_law_185 (rfl : 185 + 1 = 186) rfl ?_
  refine z_sld C (x := iI a1) S ⟨by omega, by omega⟩ (by omega) (by rw [show ((i : Int) + 1).toNat = i + 1 from by omega]; exact e1) dL_law_186 (rfl : 186 + 1 = 187) ?_
  refine z_aload_n C 1 rfl rfl dL_law_187 (rfl : 187 + 1 = 188) ?_
  refine z_iload C 0 rfl dL_law_188 (rfl : 188 + 2 = 190) ?_
  refine z_iconst C dL_law_190 (rfl : 190 + 1 = 191) ?_
  refine z_iadd C dL_law_191 (rfl : 191 + 1 = 192) rfl ?_
  refine z_sld C (x := iI a2) S ⟨by omega, by omega⟩ (by omega) (by rw [show ((i : Int) + 2).toNat = i + 2 from by omega]; exact e2) dL_law_192 (rfl : 192 + 1 = 193) ?_
  refine z_aload_n C 4 rfl rfl dL_law_193 (rfl : 193 + 1 = 194) ?_
  refine z_callW C hN (cells + 2) (slots + 12) hM gL_law_L_slip rfl hd83_L_slip ⟨Nat.le_of_ble_eq_true rfl, Nat.le_of_ble_eq_true rfl⟩ rfl (Nat.le_of_ble_eq_true rfl) dL_law_194 (rfl : 194 + 3 = 197) rfl rfl ⟨by show cells + 2 ≤ 601024; omega, by show slots + 12 ≤ 7293034; omega⟩ ?_ rfl
  intro v w1 hv
  obtain ⟨k, fo', V1, Z0, hk, rfl, rfl, postR, hR, hS⟩ := hW v w1 hv
  refine z_v1 ?_
  refine z_istore (lv' := [(5, _), (4, _), (0, _), (1, _), (2, _), (3, _)]) C dL_law_197 (rfl : 197 + 2 = 199) (by decide) rfl ?_
  refine z_aload_n C 4 rfl rfl dL_law_199 (rfl : 199 + 1 = 200) ?_
  refine z_aload_n C 2 rfl rfl dL_law_200 (rfl : 200 + 1 = 201) ?_
  refine z_iload C 1 rfl dL_law_201 (rfl : 201 + 2 = 203) ?_
  refine z_iconst C dL_law_203 (rfl : 203 + 1 = 204) ?_
  refine z_iadd C dL_law_204 (rfl : 204 + 1 = 205) rfl ?_
  refine z_sld C (x := iI a1) S ⟨by omega, by omega⟩ (by omega) (by rw [show ((i : Int) + 1).toNat = i + 1 from by omega]; exact e1) dL_law_205 (rfl : 205 + 1 = 206) ?_
  refine z_aload_n C 2 rfl rfl dL_law_206 (rfl : 206 + 1 = 207) ?_
  refine z_iload C 1 rfl dL_law_207 (rfl : 207 + 2 = 209) ?_
  refine z_iconst C dL_law_209 (rfl : 209 + 1 = 210) ?_
  refine z_iadd C dL_law_210 (rfl : 210 + 1 = 211) rfl ?_
  refine z_sld C (x := iI a2) S ⟨by omega, by omega⟩ (by omega) (by rw [show ((i : Int) + 2).toNat = i + 2 from by omega]; exact e2) dL_law_211 (rfl : 211 + 1 = 212) ?_
  refine z_callV C (cells + 2) (slots + 12) hR gL_law_X6_slip rfl hd83_X6_slip ⟨Nat.le_of_ble_eq_true rfl, Nat.le_of_ble_eq_true rfl⟩ xmm rfl rfl (Nat.le_of_ble_eq_true rfl) dL_law_212 (rfl : 212 + 3 = 215) rfl rfl ⟨by show cells + 2 ≤ 601024; omega, by show slots + 12 ≤ 7293034; omega⟩ (fun _ _ h => h.elim) ?_ rfl
  intro v2 w2 hv2
  obtain ⟨bb, V2, rfl, rfl, hk25, hk0, hB, hI2⟩ := hS v2 w2 hv2
  refine z_v1 ?_
  refine z_istore (lv' := [(6, _), (5, _), (4, _), (0, _), (1, _), (2, _), (3, _)]) C dL_law_215 (rfl : 215 + 2 = 217) (by decide) rfl ?_
  refine z_aload_n C 5 rfl rfl dL_law_217 (rfl : 217 + 1 = 218) ?_
  refine z_callV C (cells + 2) (slots + 12) c_X6_thrown gL_law_X6_thrown rfl hd83_X6_thrown ⟨Nat.le_of_ble_eq_true rfl, Nat.le_of_ble_eq_true rfl⟩ xmm rfl rfl (Nat.le_of_ble_eq_true rfl) dL_law_218 (rfl : 218 + 3 = 221) rfl rfl ⟨by show cells + 2 ≤ 601024; omega, by show slots + 12 ≤ 7293034; omega⟩ (fun _ _ h => h.elim) ?_ rfl
  rintro _ _ ⟨rfl, rfl⟩
  refine z_v1 ?_
  rw [hk25]
  refine z_iload C 1 rfl dL_law_221 (rfl : 221 + 2 = 223) ?_
  refine z_icmp_eq (pt := 228) C dL_law_223 (by decide) (rfl : 223 + 3 = 226) (Iff.rfl).1 (fun q => mt (Iff.rfl).2 q) (fun c6 => ?_) (fun c6 => ?_)
  rotate_left
  · exact absurd rfl c6
  refine z_iload C 1 rfl dL_law_228 (rfl : 228 + 2 = 230) ?_
  refine z_if_ne (pt := 245) C dL_law_230 (by decide) (rfl : 230 + 3 = 233) (fun q => mt (iI_eq0 (by omega)).2 q) (iI_eq0 (by omega)).1 (fun c7 => ?_) (fun c7 => ?_)
  · refine z_goto (pc' := 1936) C dL_law_245 (by decide) ?_
    refine z_widen (k := cells + 6) (n := slots + 260) (by omega) (by omega) ?_
    exact z_sub [2, 3, 4, 5, 6] rfl (kk _ hI2)
  refine z_aload_n C 6 rfl rfl dL_law_233 (rfl : 233 + 1 = 234) ?_
  refine z_iconst C dL_law_234 (rfl : 234 + 1 = 235) ?_
  refine z_lald C (x := fo' 0) (List.mem_append_right _ List.mem_cons_self) ⟨by omega, by omega⟩ (by omega) rfl dL_law_235 (rfl : 235 + 1 = 236) ?_
  refine z_iload C 0 rfl dL_law_236 (rfl : 236 + 2 = 238) ?_
  refine z_i2l C rfl dL_law_238 (rfl : 238 + 1 = 239) ?_
  refine z_lcmp C dL_law_239 (rfl : 239 + 1 = 240) (fun _ => ?_) (fun c8 _ _ => absurd (hk0 c7) c8)
  refine z_if_eq (pt := 245) C dL_law_240 (by decide) (rfl : 240 + 3 = 243) (iI_eq0 (by decide)).1 (fun q => mt (iI_eq0 (by decide)).2 q) (fun c9 => ?_) (fun c9 => ?_)
  rotate_left
  · exact absurd rfl c9
  refine z_goto (pc' := 1936) C dL_law_245 (by decide) ?_
  refine z_widen (k := cells + 6) (n := slots + 260) (by omega) (by omega) ?_
  exact z_sub [2, 3, 4, 5, 6] rfl (kk _ hI2)
theorem lc_copy (C : Cx κ cL_law 7 wsL_law RL (some .boolean) rmL_law G base) (hN : NcA (ks κ)) (S : SCR κ base b Ln xs) (hi : i + 5 ≤ Ln) (hL : Ln ≤ 2560) (hI : INV G q x qo w) (h1 : cells + 100 ≤ 601024) (h2 : slots + 500 ≤ 7293034)
    (kk : ∀ w', INV G q x qo w' → Z κ 7 G base mc ms post exc (cells + 6) (slots + 260) 1936 [(4, .int (iI (i : Int))), (0, .ref b), (1, .ref x), (2, .ref (q 30)), (3, .ref qo)] [] w') : Z κ 7 G base mc ms post exc cells slots 248 [(4, .int (iI (i : Int))), (0, .ref b), (1, .ref x), (2, .ref (q 30)), (3, .ref qo)] [] w := by
  obtain ⟨V, n, m, t, fo, L, K, I, F, R, N, O, T, g, rfl, rfl, h, hw, hb⟩ := hI
  obtain ⟨a1, r1, e1⟩ := iI_ex (xs (i + 1))
  obtain ⟨a2, r2, e2⟩ := iI_ex (xs (i + 2))
  obtain ⟨a3, r3, e3⟩ := iI_ex (xs (i + 3))
  obtain ⟨a4, r4, e4⟩ := iI_ex (xs (i + 4))
  by_cases c4 : a4 = 0
  · obtain ⟨postW, hM, hW⟩ := pr_copy (l := kl κ) (base := base) (q := q) (qo := qo) (fo := fo) (d := 0) r1 r2 r3 (by decide) h hw hb
    refine z_aload_n C 2 rfl rfl dL_law_248 (rfl : 248 + 1 = 249) ?_
    refine z_aload_n C 1 rfl rfl dL_law_249 (rfl : 249 + 1 = 250) ?_
    refine z_iload C 0 rfl dL_law_250 (rfl : 250 + 2 = 252) ?_
    refine z_iconst C dL_law_252 (rfl : 252 + 1 = 253) ?_
    refine z_iadd C dL_law_253 (rfl : 253 + 1 = 254) rfl ?_
    refine z_sld C (x := iI a1) S ⟨by omega, by omega⟩ (by omega) (by rw [show ((i : Int) + 1).toNat = i + 1 from by omega]; exact e1) dL_law_254 (rfl : 254 + 1 = 255) ?_
    refine z_aload_n C 1 rfl rfl dL_law_255 (rfl : 255 + 1 = 256) ?_
    refine z_iload C 0 rfl dL_law_256 (rfl : 256 + 2 = 258) ?_
    refine z_iconst C dL_law_258 (rfl : 258 + 1 = 259) ?_
    refine z_iadd C dL_law_259 (rfl : 259 + 1 = 260) rfl ?_
    refine z_sld C (x := iI a2) S ⟨by omega, by omega⟩ (by omega) (by rw [show ((i : Int) + 2).toNat = i + 2 from by omega]; exact e2) dL_law_260 (rfl : 260 + 1 = 261) ?_
    refine z_aload_n C 1 rfl rfl dL_law_261 (rfl : 261 + 1 = 262) ?_
    refine z_iload C 0 rfl dL_law_262 (rfl : 262 + 2 = 264) ?_
    refine z_iconst C dL_law_264 (rfl : 264 + 1 = 265) ?_
    refine z_iadd C dL_law_265 (rfl : 265 + 1 = 266) rfl ?_
    refine z_sld C (x := iI a3) S ⟨by omega, by omega⟩ (by omega) (by rw [show ((i : Int) + 3).toNat = i + 3 from by omega]; exact e3) dL_law_266 (rfl : 266 + 1 = 267) ?_
    refine z_aload_n C 1 rfl rfl dL_law_267 (rfl : 267 + 1 = 268) ?_
    refine z_iload C 0 rfl dL_law_268 (rfl : 268 + 2 = 270) ?_
    refine z_iconst C dL_law_270 (rfl : 270 + 1 = 271) ?_
    refine z_iadd C dL_law_271 (rfl : 271 + 1 = 272) rfl ?_
    refine z_sld C (x := iI a4) S ⟨by omega, by omega⟩ (by omega) (by rw [show ((i : Int) + 4).toNat = i + 4 from by omega]; exact e4) dL_law_272 (rfl : 272 + 1 = 273) ?_
    refine z_if_eq (pt := 280) C dL_law_273 (by decide) (rfl : 273 + 3 = 276) (iI_eq0 (by omega)).1 (fun q => mt (iI_eq0 (by omega)).2 q) (fun c5 => ?_) (fun c5 => ?_)
    rotate_left
    · exact absurd c4 c5
    refine z_iconst C dL_law_280 (rfl : 280 + 1 = 281) ?_
    refine z_aload_n C 4 rfl rfl dL_law_281 (rfl : 281 + 1 = 282) ?_
    refine z_callW C hN (cells + 6) (slots + 260) hM gL_law_L_copy rfl hd83_L_copy ⟨Nat.le_of_ble_eq_true rfl, Nat.le_of_ble_eq_true rfl⟩ rfl (Nat.le_of_ble_eq_true rfl) dL_law_282 (rfl : 282 + 3 = 285) rfl rfl ⟨by show cells + 6 ≤ 601024; omega, by show slots + 260 ≤ 7293034; omega⟩ ?_ rfl
    intro v w1 hv
    obtain ⟨k, fo', V1, Z0, hk, rfl, rfl, postR, hR, hS⟩ := hW v w1 hv
    refine z_v1 ?_
    refine z_istore (lv' := [(5, _), (4, _), (0, _), (1, _), (2, _), (3, _)]) C dL_law_285 (rfl : 285 + 2 = 287) (by decide) rfl ?_
    refine z_aload_n C 4 rfl rfl dL_law_287 (rfl : 287 + 1 = 288) ?_
    refine z_aload_n C 2 rfl rfl dL_law_288 (rfl : 288 + 1 = 289) ?_
    refine z_iload C 1 rfl dL_law_289 (rfl : 289 + 2 = 291) ?_
    refine z_iconst C dL_law_291 (rfl : 291 + 1 = 292) ?_
    refine z_iadd C dL_law_292 (rfl : 292 + 1 = 293) rfl ?_
    refine z_sld C (x := iI a1) S ⟨by omega, by omega⟩ (by omega) (by rw [show ((i : Int) + 1).toNat = i + 1 from by omega]; exact e1) dL_law_293 (rfl : 293 + 1 = 294) ?_
    refine z_aload_n C 2 rfl rfl dL_law_294 (rfl : 294 + 1 = 295) ?_
    refine z_iload C 1 rfl dL_law_295 (rfl : 295 + 2 = 297) ?_
    refine z_iconst C dL_law_297 (rfl : 297 + 1 = 298) ?_
    refine z_iadd C dL_law_298 (rfl : 298 + 1 = 299) rfl ?_
    refine z_sld C (x := iI a2) S ⟨by omega, by omega⟩ (by omega) (by rw [show ((i : Int) + 2).toNat = i + 2 from by omega]; exact e2) dL_law_299 (rfl : 299 + 1 = 300) ?_
    refine z_aload_n C 2 rfl rfl dL_law_300 (rfl : 300 + 1 = 301) ?_
    refine z_iload C 1 rfl dL_law_301 (rfl : 301 + 2 = 303) ?_
    refine z_iconst C dL_law_303 (rfl : 303 + 1 = 304) ?_
    refine z_iadd C dL_law_304 (rfl : 304 + 1 = 305) rfl ?_
    refine z_sld C (x := iI a3) S ⟨by omega, by omega⟩ (by omega) (by rw [show ((i : Int) + 3).toNat = i + 3 from by omega]; exact e3) dL_law_305 (rfl : 305 + 1 = 306) ?_
    refine z_aload_n C 2 rfl rfl dL_law_306 (rfl : 306 + 1 = 307) ?_
    refine z_iload C 1 rfl dL_law_307 (rfl : 307 + 2 = 309) ?_
    refine z_iconst C dL_law_309 (rfl : 309 + 1 = 310) ?_
    refine z_iadd C dL_law_310 (rfl : 310 + 1 = 311) rfl ?_
    refine z_sld C (x := iI a4) S ⟨by omega, by omega⟩ (by omega) (by rw [show ((i : Int) + 4).toNat = i + 4 from by omega]; exact e4) dL_law_311 (rfl : 311 + 1 = 312) ?_
    refine z_if_eq (pt := 319) C dL_law_312 (by decide) (rfl : 312 + 3 = 315) (iI_eq0 (by omega)).1 (fun q => mt (iI_eq0 (by omega)).2 q) (fun c5 => ?_) (fun c5 => ?_)
    rotate_left
    · exact absurd c4 c5
    refine z_iconst C dL_law_319 (rfl : 319 + 1 = 320) ?_
    refine z_callV C (cells + 6) (slots + 260) hR gL_law_X6_copy rfl hd83_X6_copy ⟨Nat.le_of_ble_eq_true rfl, Nat.le_of_ble_eq_true rfl⟩ xmm rfl rfl (Nat.le_of_ble_eq_true rfl) dL_law_320 (rfl : 320 + 3 = 323) rfl rfl ⟨by show cells + 6 ≤ 601024; omega, by show slots + 260 ≤ 7293034; omega⟩ (fun _ _ h => h.elim) ?_ rfl
    intro v2 w2 hv2
    obtain ⟨bb, V2, rfl, rfl, hk25, hk0, hB, hI2⟩ := hS v2 w2 hv2
    refine z_v1 ?_
    refine z_istore (lv' := [(6, _), (5, _), (4, _), (0, _), (1, _), (2, _), (3, _)]) C dL_law_323 (rfl : 323 + 2 = 325) (by decide) rfl ?_
    refine z_aload_n C 5 rfl rfl dL_law_325 (rfl : 325 + 1 = 326) ?_
    refine z_callV C (cells + 6) (slots + 260) c_X6_thrown gL_law_X6_thrown rfl hd83_X6_thrown ⟨Nat.le_of_ble_eq_true rfl, Nat.le_of_ble_eq_true rfl⟩ xmm rfl rfl (Nat.le_of_ble_eq_true rfl) dL_law_326 (rfl : 326 + 3 = 329) rfl rfl ⟨by show cells + 6 ≤ 601024; omega, by show slots + 260 ≤ 7293034; omega⟩ (fun _ _ h => h.elim) ?_ rfl
    rintro _ _ ⟨rfl, rfl⟩
    refine z_v1 ?_
    rw [hk25]
    refine z_iload C 1 rfl dL_law_329 (rfl : 329 + 2 = 331) ?_
    refine z_icmp_eq (pt := 336) C dL_law_331 (by decide) (rfl : 331 + 3 = 334) (Iff.rfl).1 (fun q => mt (Iff.rfl).2 q) (fun c6 => ?_) (fun c6 => ?_)
    rotate_left
    · exact absurd rfl c6
    refine z_iload C 1 rfl dL_law_336 (rfl : 336 + 2 = 338) ?_
    refine z_if_ne (pt := 353) C dL_law_338 (by decide) (rfl : 338 + 3 = 341) (fun q => mt (iI_eq0 (by omega)).2 q) (iI_eq0 (by omega)).1 (fun c7 => ?_) (fun c7 => ?_)
    · refine z_goto (pc' := 1936) C dL_law_353 (by decide) ?_
      refine z_widen (k := cells + 6) (n := slots + 260) (by omega) (by omega) ?_
      exact z_sub [2, 3, 4, 5, 6] rfl (kk _ hI2)
    refine z_aload_n C 6 rfl rfl dL_law_341 (rfl : 341 + 1 = 342) ?_
    refine z_iconst C dL_law_342 (rfl : 342 + 1 = 343) ?_
    refine z_lald C (x := fo' 0) (List.mem_append_right _ List.mem_cons_self) ⟨by omega, by omega⟩ (by omega) rfl dL_law_343 (rfl : 343 + 1 = 344) ?_
    refine z_iload C 0 rfl dL_law_344 (rfl : 344 + 2 = 346) ?_
    refine z_i2l C rfl dL_law_346 (rfl : 346 + 1 = 347) ?_
    refine z_lcmp C dL_law_347 (rfl : 347 + 1 = 348) (fun _ => ?_) (fun c8 _ _ => absurd (hk0 c7) c8)
    refine z_if_eq (pt := 353) C dL_law_348 (by decide) (rfl : 348 + 3 = 351) (iI_eq0 (by decide)).1 (fun q => mt (iI_eq0 (by decide)).2 q) (fun c9 => ?_) (fun c9 => ?_)
    rotate_left
    · exact absurd rfl c9
    refine z_goto (pc' := 1936) C dL_law_353 (by decide) ?_
    refine z_widen (k := cells + 6) (n := slots + 260) (by omega) (by omega) ?_
    exact z_sub [2, 3, 4, 5, 6] rfl (kk _ hI2)
  · obtain ⟨postW, hM, hW⟩ := pr_copy (l := kl κ) (base := base) (q := q) (qo := qo) (fo := fo) (d := 1) r1 r2 r3 (by decide) h hw hb
    refine z_aload_n C 2 rfl rfl dL_law_248 (rfl : 248 + 1 = 249) ?_
    refine z_aload_n C 1 rfl rfl dL_law_249 (rfl : 249 + 1 = 250) ?_
    refine z_iload C 0 rfl dL_law_250 (rfl : 250 + 2 = 252) ?_
    refine z_iconst C dL_law_252 (rfl : 252 + 1 = 253) ?_
    refine z_iadd C dL_law_253 (rfl : 253 + 1 = 254) rfl ?_
    refine z_sld C (x := iI a1) S ⟨by omega, by omega⟩ (by omega) (by rw [show ((i : Int) + 1).toNat = i + 1 from by omega]; exact e1) dL_law_254 (rfl : 254 + 1 = 255) ?_
    refine z_aload_n C 1 rfl rfl dL_law_255 (rfl : 255 + 1 = 256) ?_
    refine z_iload C 0 rfl dL_law_256 (rfl : 256 + 2 = 258) ?_
    refine z_iconst C dL_law_258 (rfl : 258 + 1 = 259) ?_
    refine z_iadd C dL_law_259 (rfl : 259 + 1 = 260) rfl ?_
    refine z_sld C (x := iI a2) S ⟨by omega, by omega⟩ (by omega) (by rw [show ((i : Int) + 2).toNat = i + 2 from by omega]; exact e2) dL_law_260 (rfl : 260 + 1 = 261) ?_
    refine z_aload_n C 1 rfl rfl dL_law_261 (rfl : 261 + 1 = 262) ?_
    refine z_iload C 0 rfl dL_law_262 (rfl : 262 + 2 = 264) ?_
    refine z_iconst C dL_law_264 (rfl : 264 + 1 = 265) ?_
    refine z_iadd C dL_law_265 (rfl : 265 + 1 = 266) rfl ?_
    refine z_sld C (x := iI a3) S ⟨by omega, by omega⟩ (by omega) (by rw [show ((i : Int) + 3).toNat = i + 3 from by omega]; exact e3) dL_law_266 (rfl : 266 + 1 = 267) ?_
    refine z_aload_n C 1 rfl rfl dL_law_267 (rfl : 267 + 1 = 268) ?_
    refine z_iload C 0 rfl dL_law_268 (rfl : 268 + 2 = 270) ?_
    refine z_iconst C dL_law_270 (rfl : 270 + 1 = 271) ?_
    refine z_iadd C dL_law_271 (rfl : 271 + 1 = 272) rfl ?_
    refine z_sld C (x := iI a4) S ⟨by omega, by omega⟩ (by omega) (by rw [show ((i : Int) + 4).toNat = i + 4 from by omega]; exact e4) dL_law_272 (rfl : 272 + 1 = 273) ?_
    refine z_if_eq (pt := 280) C dL_law_273 (by decide) (rfl : 273 + 3 = 276) (iI_eq0 (by omega)).1 (fun q => mt (iI_eq0 (by omega)).2 q) (fun c5 => ?_) (fun c5 => ?_)
    · exact absurd c5 c4
    refine z_iconst C dL_law_276 (rfl : 276 + 1 = 277) ?_
    refine z_goto (pc' := 281) C dL_law_277 (by decide) ?_
    refine z_aload_n C 4 rfl rfl dL_law_281 (rfl : 281 + 1 = 282) ?_
    refine z_callW C hN (cells + 6) (slots + 260) hM gL_law_L_copy rfl hd83_L_copy ⟨Nat.le_of_ble_eq_true rfl, Nat.le_of_ble_eq_true rfl⟩ rfl (Nat.le_of_ble_eq_true rfl) dL_law_282 (rfl : 282 + 3 = 285) rfl rfl ⟨by show cells + 6 ≤ 601024; omega, by show slots + 260 ≤ 7293034; omega⟩ ?_ rfl
    intro v w1 hv
    obtain ⟨k, fo', V1, Z0, hk, rfl, rfl, postR, hR, hS⟩ := hW v w1 hv
    refine z_v1 ?_
    refine z_istore (lv' := [(5, _), (4, _), (0, _), (1, _), (2, _), (3, _)]) C dL_law_285 (rfl : 285 + 2 = 287) (by decide) rfl ?_
    refine z_aload_n C 4 rfl rfl dL_law_287 (rfl : 287 + 1 = 288) ?_
    refine z_aload_n C 2 rfl rfl dL_law_288 (rfl : 288 + 1 = 289) ?_
    refine z_iload C 1 rfl dL_law_289 (rfl : 289 + 2 = 291) ?_
    refine z_iconst C dL_law_291 (rfl : 291 + 1 = 292) ?_
    refine z_iadd C dL_law_292 (rfl : 292 + 1 = 293) rfl ?_
    refine z_sld C (x := iI a1) S ⟨by omega, by omega⟩ (by omega) (by rw [show ((i : Int) + 1).toNat = i + 1 from by omega]; exact e1) dL_law_293 (rfl : 293 + 1 = 294) ?_
    refine z_aload_n C 2 rfl rfl dL_law_294 (rfl : 294 + 1 = 295) ?_
    refine z_iload C 1 rfl dL_law_295 (rfl : 295 + 2 = 297) ?_
    refine z_iconst C dL_law_297 (rfl : 297 + 1 = 298) ?_
    refine z_iadd C dL_law_298 (rfl : 298 + 1 = 299) rfl ?_
    refine z_sld C (x := iI a2) S ⟨by omega, by omega⟩ (by omega) (by rw [show ((i : Int) + 2).toNat = i + 2 from by omega]; exact e2) dL_law_299 (rfl : 299 + 1 = 300) ?_
    refine z_aload_n C 2 rfl rfl dL_law_300 (rfl : 300 + 1 = 301) ?_
    refine z_iload C 1 rfl dL_law_301 (rfl : 301 + 2 = 303) ?_
    refine z_iconst C dL_law_303 (rfl : 303 + 1 = 304) ?_
    refine z_iadd C dL_law_304 (rfl : 304 + 1 = 305) rfl ?_
    refine z_sld C (x := iI a3) S ⟨by omega, by omega⟩ (by omega) (by rw [show ((i : Int) + 3).toNat = i + 3 from by omega]; exact e3) dL_law_305 (rfl : 305 + 1 = 306) ?_
    refine z_aload_n C 2 rfl rfl dL_law_306 (rfl : 306 + 1 = 307) ?_
    refine z_iload C 1 rfl dL_law_307 (rfl : 307 + 2 = 309) ?_
    refine z_iconst C dL_law_309 (rfl : 309 + 1 = 310) ?_
    refine z_iadd C dL_law_310 (rfl : 310 + 1 = 311) rfl ?_
    refine z_sld C (x := iI a4) S ⟨by omega, by omega⟩ (by omega) (by rw [show ((i : Int) + 4).toNat = i + 4 from by omega]; exact e4) dL_law_311 (rfl : 311 + 1 = 312) ?_
    refine z_if_eq (pt := 319) C dL_law_312 (by decide) (rfl : 312 + 3 = 315) (iI_eq0 (by omega)).1 (fun q => mt (iI_eq0 (by omega)).2 q) (fun c5 => ?_) (fun c5 => ?_)
    · exact absurd c5 c4
    refine z_iconst C dL_law_315 (rfl : 315 + 1 = 316) ?_
    refine z_goto (pc' := 320) C dL_law_316 (by decide) ?_
    refine z_callV C (cells + 6) (slots + 260) hR gL_law_X6_copy rfl hd83_X6_copy ⟨Nat.le_of_ble_eq_true rfl, Nat.le_of_ble_eq_true rfl⟩ xmm rfl rfl (Nat.le_of_ble_eq_true rfl) dL_law_320 (rfl : 320 + 3 = 323) rfl rfl ⟨by show cells + 6 ≤ 601024; omega, by show slots + 260 ≤ 7293034; omega⟩ (fun _ _ h => h.elim) ?_ rfl
    intro v2 w2 hv2
    obtain ⟨bb, V2, rfl, rfl, hk25, hk0, hB, hI2⟩ := hS v2 w2 hv2
    refine z_v1 ?_
    refine z_istore (lv' := [(6, _), (5, _), (4, _), (0, _), (1, _), (2, _), (3, _)]) C dL_law_323 (rfl : 323 + 2 = 325) (by decide) rfl ?_
    refine z_aload_n C 5 rfl rfl dL_law_325 (rfl : 325 + 1 = 326) ?_
    refine z_callV C (cells + 6) (slots + 260) c_X6_thrown gL_law_X6_thrown rfl hd83_X6_thrown ⟨Nat.le_of_ble_eq_true rfl, Nat.le_of_ble_eq_true rfl⟩ xmm rfl rfl (Nat.le_of_ble_eq_true rfl) dL_law_326 (rfl : 326 + 3 = 329) rfl rfl ⟨by show cells + 6 ≤ 601024; omega, by show slots + 260 ≤ 7293034; omega⟩ (fun _ _ h => h.elim) ?_ rfl
    rintro _ _ ⟨rfl, rfl⟩
    refine z_v1 ?_
    rw [hk25]
    refine z_iload C 1 rfl dL_law_329 (rfl : 329 + 2 = 331) ?_
    refine z_icmp_eq (pt := 336) C dL_law_331 (by decide) (rfl : 331 + 3 = 334) (Iff.rfl).1 (fun q => mt (Iff.rfl).2 q) (fun c6 => ?_) (fun c6 => ?_)
    rotate_left
    · exact absurd rfl c6
    refine z_iload C 1 rfl dL_law_336 (rfl : 336 + 2 = 338) ?_
    refine z_if_ne (pt := 353) C dL_law_338 (by decide) (rfl : 338 + 3 = 341) (fun q => mt (iI_eq0 (by omega)).2 q) (iI_eq0 (by omega)).1 (fun c7 => ?_) (fun c7 => ?_)
    · refine z_goto (pc' := 1936) C dL_law_353 (by decide) ?_
      refine z_widen (k := cells + 6) (n := slots + 260) (by omega) (by omega) ?_
      exact z_sub [2, 3, 4, 5, 6] rfl (kk _ hI2)
    refine z_aload_n C 6 rfl rfl dL_law_341 (rfl : 341 + 1 = 342) ?_
    refine z_iconst C dL_law_342 (rfl : 342 + 1 = 343) ?_
    refine z_lald C (x := fo' 0) (List.mem_append_right _ List.mem_cons_self) ⟨by omega, by omega⟩ (by omega) rfl dL_law_343 (rfl : 343 + 1 = 344) ?_
    refine z_iload C 0 rfl dL_law_344 (rfl : 344 + 2 = 346) ?_
    refine z_i2l C rfl dL_law_346 (rfl : 346 + 1 = 347) ?_
    refine z_lcmp C dL_law_347 (rfl : 347 + 1 = 348) (fun _ => ?_) (fun c8 _ _ => absurd (hk0 c7) c8)
    refine z_if_eq (pt := 353) C dL_law_348 (by decide) (rfl : 348 + 3 = 351) (iI_eq0 (by decide)).1 (fun q => mt (iI_eq0 (by decide)).2 q) (fun c9 => ?_) (fun c9 => ?_)
    rotate_left
    · exact absurd rfl c9
    refine z_goto (pc' := 1936) C dL_law_353 (by decide) ?_
    refine z_widen (k := cells + 6) (n := slots + 260) (by omega) (by omega) ?_
    exact z_sub [2, 3, 4, 5, 6] rfl (kk _ hI2)
theorem lc_tellModel (C : Cx κ cL_law 7 wsL_law RL (some .boolean) rmL_law G base) (hN : NcA (ks κ)) (S : SCR κ base b Ln xs) (hi : i + 5 ≤ Ln) (hL : Ln ≤ 2560) (hI : INV G q x qo w) (h1 : cells + 100 ≤ 601024) (h2 : slots + 500 ≤ 7293034)
    (kk : ∀ w', INV G q x qo w' → Z κ 7 G base mc ms post exc (cells + 6) (slots + 260) 1936 [(4, .int (iI (i : Int))), (0, .ref b), (1, .ref x), (2, .ref (q 30)), (3, .ref qo)] [] w') : Z κ 7 G base mc ms post exc cells slots 356 [(4, .int (iI (i : Int))), (0, .ref b), (1, .ref x), (2, .ref (q 30)), (3, .ref qo)] [] w := by
  obtain ⟨V, n, m, t, fo, L, K, I, F, R, N, O, T, g, rfl, rfl, h, hw, hb⟩ := hI
  obtain ⟨a1, r1, e1⟩ := iI_ex (xs (i + 1))
  obtain ⟨postW, hM, hW⟩ := pr_tellModel (l := kl κ) (base := base) (q := q) (qo := qo) (fo := fo) r1 h hw hb
  refine z_aload_n C 2 rfl rfl dL_law_356 (rfl : 356 + 1 = 357) ?_
  refine z_aload_n C 1 rfl rfl dL_law_357 (rfl : 357 + 1 = 358) ?_
  refine z_iload C 0 rfl dL_law_358 (rfl : 358 + 2 = 360) ?_
  refine z_iconst C dL_law_360 (rfl : 360 + 1 = 361) ?_
  refine z_iadd C dL_law_361 (rfl : 361 + 1 = 362) rfl ?_
  refine z_sld C (x := iI a1) S ⟨by omega, by omega⟩ (by omega) (by rw [show ((i : Int) + 1).toNat = i + 1 from by omega]; exact e1) dL_law_362 (rfl : 362 + 1 = 363) ?_
  refine z_aload_n C 4 rfl rfl dL_law_363 (rfl : 363 + 1 = 364) ?_
  refine z_callW C hN (cells + 2) (slots + 12) hM gL_law_L_tellModel rfl hd83_L_tellModel ⟨Nat.le_of_ble_eq_true rfl, Nat.le_of_ble_eq_true rfl⟩ rfl (Nat.le_of_ble_eq_true rfl) dL_law_364 (rfl : 364 + 3 = 367) rfl rfl ⟨by show cells + 2 ≤ 601024; omega, by show slots + 12 ≤ 7293034; omega⟩ ?_ rfl
  intro v w1 hv
  obtain ⟨k, fo', V1, Z0, hk, rfl, rfl, postR, hR, hS⟩ := hW v w1 hv
  refine z_v1 ?_
  refine z_istore (lv' := [(5, _), (4, _), (0, _), (1, _), (2, _), (3, _)]) C dL_law_367 (rfl : 367 + 2 = 369) (by decide) rfl ?_
  refine z_aload_n C 4 rfl rfl dL_law_369 (rfl : 369 + 1 = 370) ?_
  refine z_aload_n C 2 rfl rfl dL_law_370 (rfl : 370 + 1 = 371) ?_
  refine z_iload C 1 rfl dL_law_371 (rfl : 371 + 2 = 373) ?_
  refine z_iconst C dL_law_373 (rfl : 373 + 1 = 374) ?_
  refine z_iadd C dL_law_374 (rfl : 374 + 1 = 375) rfl ?_
  refine z_sld C (x := iI a1) S ⟨by omega, by omega⟩ (by omega) (by rw [show ((i : Int) + 1).toNat = i + 1 from by omega]; exact e1) dL_law_375 (rfl : 375 + 1 = 376) ?_
  refine z_callV C (cells + 2) (slots + 12) hR gL_law_X6_tellModel rfl hd83_X6_tellModel ⟨Nat.le_of_ble_eq_true rfl, Nat.le_of_ble_eq_true rfl⟩ xmm rfl rfl (Nat.le_of_ble_eq_true rfl) dL_law_376 (rfl : 376 + 3 = 379) rfl rfl ⟨by show cells + 2 ≤ 601024; omega, by show slots + 12 ≤ 7293034; omega⟩ (fun _ _ h => h.elim) ?_ rfl
  intro v2 w2 hv2
  obtain ⟨bb, V2, rfl, rfl, hk25, hk0, hB, hI2⟩ := hS v2 w2 hv2
  refine z_v1 ?_
  refine z_istore (lv' := [(6, _), (5, _), (4, _), (0, _), (1, _), (2, _), (3, _)]) C dL_law_379 (rfl : 379 + 2 = 381) (by decide) rfl ?_
  refine z_aload_n C 5 rfl rfl dL_law_381 (rfl : 381 + 1 = 382) ?_
  refine z_callV C (cells + 2) (slots + 12) c_X6_thrown gL_law_X6_thrown rfl hd83_X6_thrown ⟨Nat.le_of_ble_eq_true rfl, Nat.le_of_ble_eq_true rfl⟩ xmm rfl rfl (Nat.le_of_ble_eq_true rfl) dL_law_382 (rfl : 382 + 3 = 385) rfl rfl ⟨by show cells + 2 ≤ 601024; omega, by show slots + 12 ≤ 7293034; omega⟩ (fun _ _ h => h.elim) ?_ rfl
  rintro _ _ ⟨rfl, rfl⟩
  refine z_v1 ?_
  rw [hk25]
  refine z_iload C 1 rfl dL_law_385 (rfl : 385 + 2 = 387) ?_
  refine z_icmp_eq (pt := 392) C dL_law_387 (by decide) (rfl : 387 + 3 = 390) (Iff.rfl).1 (fun q => mt (Iff.rfl).2 q) (fun c6 => ?_) (fun c6 => ?_)
  rotate_left
  · exact absurd rfl c6
  refine z_iload C 1 rfl dL_law_392 (rfl : 392 + 2 = 394) ?_
  refine z_if_ne (pt := 409) C dL_law_394 (by decide) (rfl : 394 + 3 = 397) (fun q => mt (iI_eq0 (by omega)).2 q) (iI_eq0 (by omega)).1 (fun c7 => ?_) (fun c7 => ?_)
  · refine z_goto (pc' := 1936) C dL_law_409 (by decide) ?_
    refine z_widen (k := cells + 6) (n := slots + 260) (by omega) (by omega) ?_
    exact z_sub [2, 3, 4, 5, 6] rfl (kk _ hI2)
  refine z_aload_n C 6 rfl rfl dL_law_397 (rfl : 397 + 1 = 398) ?_
  refine z_iconst C dL_law_398 (rfl : 398 + 1 = 399) ?_
  refine z_lald C (x := fo' 0) (List.mem_append_right _ List.mem_cons_self) ⟨by omega, by omega⟩ (by omega) rfl dL_law_399 (rfl : 399 + 1 = 400) ?_
  refine z_iload C 0 rfl dL_law_400 (rfl : 400 + 2 = 402) ?_
  refine z_i2l C rfl dL_law_402 (rfl : 402 + 1 = 403) ?_
  refine z_lcmp C dL_law_403 (rfl : 403 + 1 = 404) (fun _ => ?_) (fun c8 _ _ => absurd (hk0 c7) c8)
  refine z_if_eq (pt := 409) C dL_law_404 (by decide) (rfl : 404 + 3 = 407) (iI_eq0 (by decide)).1 (fun q => mt (iI_eq0 (by decide)).2 q) (fun c9 => ?_) (fun c9 => ?_)
  rotate_left
  · exact absurd rfl c9
  refine z_goto (pc' := 1936) C dL_law_409 (by decide) ?_
  refine z_widen (k := cells + 6) (n := slots + 260) (by omega) (by omega) ?_
  exact z_sub [2, 3, 4, 5, 6] rfl (kk _ hI2)
theorem lc_pass (C : Cx κ cL_law 7 wsL_law RL (some .boolean) rmL_law G base) (hN : NcA (ks κ)) (S : SCR κ base b Ln xs) (hi : i + 5 ≤ Ln) (hL : Ln ≤ 2560) (hI : INV G q x qo w) (h1 : cells + 100 ≤ 601024) (h2 : slots + 500 ≤ 7293034)
    (kk : ∀ w', INV G q x qo w' → Z κ 7 G base mc ms post exc (cells + 6) (slots + 260) 1936 [(4, .int (iI (i : Int))), (0, .ref b), (1, .ref x), (2, .ref (q 30)), (3, .ref qo)] [] w') : Z κ 7 G base mc ms post exc cells slots 412 [(4, .int (iI (i : Int))), (0, .ref b), (1, .ref x), (2, .ref (q 30)), (3, .ref qo)] [] w := by
  obtain ⟨V, n, m, t, fo, L, K, I, F, R, N, O, T, g, rfl, rfl, h, hw, hb⟩ := hI
  obtain ⟨a1, r1, e1⟩ := iI_ex (xs (i + 1))
  obtain ⟨postW, hM, hW⟩ := pr_pass (l := kl κ) (base := base) (q := q) (qo := qo) (fo := fo) r1 h hw hb
  refine z_aload_n C 2 rfl rfl dL_law_412 (rfl : 412 + 1 = 413) ?_
  refine z_aload_n C 1 rfl rfl dL_law_413 (rfl : 413 + 1 = 414) ?_
  refine z_iload C 0 rfl dL_law_414 (rfl : 414 + 2 = 416) ?_
  refine z_iconst C dL_law_416 (rfl : 416 + 1 = 417) ?_
  refine z_iadd C dL_law_417 (rfl : 417 + 1 = 418) rfl ?_
  refine z_sld C (x := iI a1) S ⟨by omega, by omega⟩ (by omega) (by rw [show ((i : Int) + 1).toNat = i + 1 from by omega]; exact e1) dL_law_418 (rfl : 418 + 1 = 419) ?_
  refine z_aload_n C 4 rfl rfl dL_law_419 (rfl : 419 + 1 = 420) ?_
  refine z_callW C hN (cells + 1) (slots + 6) hM gL_law_L_pass rfl hd83_L_pass ⟨Nat.le_of_ble_eq_true rfl, Nat.le_of_ble_eq_true rfl⟩ rfl (Nat.le_of_ble_eq_true rfl) dL_law_420 (rfl : 420 + 3 = 423) rfl rfl ⟨by show cells + 1 ≤ 601024; omega, by show slots + 6 ≤ 7293034; omega⟩ ?_ rfl
  intro v w1 hv
  obtain ⟨k, fo', V1, Z0, hk, rfl, rfl, postR, hR, hS⟩ := hW v w1 hv
  refine z_v1 ?_
  refine z_istore (lv' := [(5, _), (4, _), (0, _), (1, _), (2, _), (3, _)]) C dL_law_423 (rfl : 423 + 2 = 425) (by decide) rfl ?_
  refine z_aload_n C 4 rfl rfl dL_law_425 (rfl : 425 + 1 = 426) ?_
  refine z_aload_n C 2 rfl rfl dL_law_426 (rfl : 426 + 1 = 427) ?_
  refine z_iload C 1 rfl dL_law_427 (rfl : 427 + 2 = 429) ?_
  refine z_iconst C dL_law_429 (rfl : 429 + 1 = 430) ?_
  refine z_iadd C dL_law_430 (rfl : 430 + 1 = 431) rfl ?_
  refine z_sld C (x := iI a1) S ⟨by omega, by omega⟩ (by omega) (by rw [show ((i : Int) + 1).toNat = i + 1 from by omega]; exact e1) dL_law_431 (rfl : 431 + 1 = 432) ?_
  refine z_callV C (cells + 1) (slots + 6) hR gL_law_X6_pass rfl hd83_X6_pass ⟨Nat.le_of_ble_eq_true rfl, Nat.le_of_ble_eq_true rfl⟩ xmm rfl rfl (Nat.le_of_ble_eq_true rfl) dL_law_432 (rfl : 432 + 3 = 435) rfl rfl ⟨by show cells + 1 ≤ 601024; omega, by show slots + 6 ≤ 7293034; omega⟩ (fun _ _ h => h.elim) ?_ rfl
  intro v2 w2 hv2
  obtain ⟨bb, V2, rfl, rfl, hk25, hk0, hB, hI2⟩ := hS v2 w2 hv2
  refine z_v1 ?_
  refine z_istore (lv' := [(6, _), (5, _), (4, _), (0, _), (1, _), (2, _), (3, _)]) C dL_law_435 (rfl : 435 + 2 = 437) (by decide) rfl ?_
  refine z_aload_n C 5 rfl rfl dL_law_437 (rfl : 437 + 1 = 438) ?_
  refine z_callV C (cells + 1) (slots + 6) c_X6_thrown gL_law_X6_thrown rfl hd83_X6_thrown ⟨Nat.le_of_ble_eq_true rfl, Nat.le_of_ble_eq_true rfl⟩ xmm rfl rfl (Nat.le_of_ble_eq_true rfl) dL_law_438 (rfl : 438 + 3 = 441) rfl rfl ⟨by show cells + 1 ≤ 601024; omega, by show slots + 6 ≤ 7293034; omega⟩ (fun _ _ h => h.elim) ?_ rfl
  rintro _ _ ⟨rfl, rfl⟩
  refine z_v1 ?_
  rw [hk25]
  refine z_iload C 1 rfl dL_law_441 (rfl : 441 + 2 = 443) ?_
  refine z_icmp_eq (pt := 448) C dL_law_443 (by decide) (rfl : 443 + 3 = 446) (Iff.rfl).1 (fun q => mt (Iff.rfl).2 q) (fun c6 => ?_) (fun c6 => ?_)
  rotate_left
  · exact absurd rfl c6
  refine z_iload C 1 rfl dL_law_448 (rfl : 448 + 2 = 450) ?_
  refine z_if_ne (pt := 465) C dL_law_450 (by decide) (rfl : 450 + 3 = 453) (fun q => mt (iI_eq0 (by omega)).2 q) (iI_eq0 (by omega)).1 (fun c7 => ?_) (fun c7 => ?_)
  · refine z_goto (pc' := 1936) C dL_law_465 (by decide) ?_
    refine z_widen (k := cells + 6) (n := slots + 260) (by omega) (by omega) ?_
    exact z_sub [2, 3, 4, 5, 6] rfl (kk _ hI2)
  refine z_aload_n C 6 rfl rfl dL_law_453 (rfl : 453 + 1 = 454) ?_
  refine z_iconst C dL_law_454 (rfl : 454 + 1 = 455) ?_
  refine z_lald C (x := fo' 0) (List.mem_append_right _ List.mem_cons_self) ⟨by omega, by omega⟩ (by omega) rfl dL_law_455 (rfl : 455 + 1 = 456) ?_
  refine z_iload C 0 rfl dL_law_456 (rfl : 456 + 2 = 458) ?_
  refine z_i2l C rfl dL_law_458 (rfl : 458 + 1 = 459) ?_
  refine z_lcmp C dL_law_459 (rfl : 459 + 1 = 460) (fun _ => ?_) (fun c8 _ _ => absurd (hk0 c7) c8)
  refine z_if_eq (pt := 465) C dL_law_460 (by decide) (rfl : 460 + 3 = 463) (iI_eq0 (by decide)).1 (fun q => mt (iI_eq0 (by decide)).2 q) (fun c9 => ?_) (fun c9 => ?_)
  rotate_left
  · exact absurd rfl c9
  refine z_goto (pc' := 1936) C dL_law_465 (by decide) ?_
  refine z_widen (k := cells + 6) (n := slots + 260) (by omega) (by omega) ?_
  exact z_sub [2, 3, 4, 5, 6] rfl (kk _ hI2)
theorem lc_correct (C : Cx κ cL_law 7 wsL_law RL (some .boolean) rmL_law G base) (hN : NcA (ks κ)) (S : SCR κ base b Ln xs) (hi : i + 5 ≤ Ln) (hL : Ln ≤ 2560) (hI : INV G q x qo w) (h1 : cells + 100 ≤ 601024) (h2 : slots + 500 ≤ 7293034)
    (kk : ∀ w', INV G q x qo w' → Z κ 7 G base mc ms post exc (cells + 6) (slots + 260) 1936 [(4, .int (iI (i : Int))), (0, .ref b), (1, .ref x), (2, .ref (q 30)), (3, .ref qo)] [] w') : Z κ 7 G base mc ms post exc cells slots 468 [(4, .int (iI (i : Int))), (0, .ref b), (1, .ref x), (2, .ref (q 30)), (3, .ref qo)] [] w := by
  obtain ⟨V, n, m, t, fo, L, K, I, F, R, N, O, T, g, rfl, rfl, h, hw, hb⟩ := hI
  obtain ⟨a1, r1, e1⟩ := iI_ex (xs (i + 1))
  obtain ⟨a2, r2, e2⟩ := iI_ex (xs (i + 2))
  obtain ⟨a3, r3, e3⟩ := iI_ex (xs (i + 3))
  obtain ⟨a4, r4, e4⟩ := iI_ex (xs (i + 4))
  obtain ⟨postW, hM, hW⟩ := pr_correct (l := kl κ) (base := base) (q := q) (qo := qo) (fo := fo) r1 r2 r3 r4 h hw hb
  refine z_aload_n C 2 rfl rfl dL_law_468 (rfl : 468 + 1 = 469) ?_
  refine z_aload_n C 1 rfl rfl dL_law_469 (rfl : 469 + 1 = 470) ?_
  refine z_iload C 0 rfl dL_law_470 (rfl : 470 + 2 = 472) ?_
  refine z_iconst C dL_law_472 (rfl : 472 + 1 = 473) ?_
  refine z_iadd C dL_law_473 (rfl : 473 + 1 = 474) rfl ?_
  refine z_sld C (x := iI a1) S ⟨by omega, by omega⟩ (by omega) (by rw [show ((i : Int) + 1).toNat = i + 1 from by omega]; exact e1) dL_law_474 (rfl : 474 + 1 = 475) ?_
  refine z_aload_n C 1 rfl rfl dL_law_475 (rfl : 475 + 1 = 476) ?_
  refine z_iload C 0 rfl dL_law_476 (rfl : 476 + 2 = 478) ?_
  refine z_iconst C dL_law_478 (rfl : 478 + 1 = 479) ?_
  refine z_iadd C dL_law_479 (rfl : 479 + 1 = 480) rfl ?_
  refine z_sld C (x := iI a2) S ⟨by omega, by omega⟩ (by omega) (by rw [show ((i : Int) + 2).toNat = i + 2 from by omega]; exact e2) dL_law_480 (rfl : 480 + 1 = 481) ?_
  refine z_aload_n C 1 rfl rfl dL_law_481 (rfl : 481 + 1 = 482) ?_
  refine z_iload C 0 rfl dL_law_482 (rfl : 482 + 2 = 484) ?_
  refine z_iconst C dL_law_484 (rfl : 484 + 1 = 485) ?_
  refine z_iadd C dL_law_485 (rfl : 485 + 1 = 486) rfl ?_
  refine z_sld C (x := iI a3) S ⟨by omega, by omega⟩ (by omega) (by rw [show ((i : Int) + 3).toNat = i + 3 from by omega]; exact e3) dL_law_486 (rfl : 486 + 1 = 487) ?_
  refine z_aload_n C 1 rfl rfl dL_law_487 (rfl : 487 + 1 = 488) ?_
  refine z_iload C 0 rfl dL_law_488 (rfl : 488 + 2 = 490) ?_
  refine z_iconst C dL_law_490 (rfl : 490 + 1 = 491) ?_
  refine z_iadd C dL_law_491 (rfl : 491 + 1 = 492) rfl ?_
  refine z_sld C (x := iI a4) S ⟨by omega, by omega⟩ (by omega) (by rw [show ((i : Int) + 4).toNat = i + 4 from by omega]; exact e4) dL_law_492 (rfl : 492 + 1 = 493) ?_
  refine z_aload_n C 4 rfl rfl dL_law_493 (rfl : 493 + 1 = 494) ?_
  refine z_callW C hN (cells + 6) (slots + 240) hM gL_law_L_correct rfl hd83_L_correct ⟨Nat.le_of_ble_eq_true rfl, Nat.le_of_ble_eq_true rfl⟩ rfl (Nat.le_of_ble_eq_true rfl) dL_law_494 (rfl : 494 + 3 = 497) rfl rfl ⟨by show cells + 6 ≤ 601024; omega, by show slots + 240 ≤ 7293034; omega⟩ ?_ rfl
  intro v w1 hv
  obtain ⟨k, fo', V1, Z0, hk, rfl, rfl, postR, hR, hS⟩ := hW v w1 hv
  refine z_v1 ?_
  refine z_istore (lv' := [(5, _), (4, _), (0, _), (1, _), (2, _), (3, _)]) C dL_law_497 (rfl : 497 + 2 = 499) (by decide) rfl ?_
  refine z_aload_n C 4 rfl rfl dL_law_499 (rfl : 499 + 1 = 500) ?_
  refine z_aload_n C 2 rfl rfl dL_law_500 (rfl : 500 + 1 = 501) ?_
  refine z_iload C 1 rfl dL_law_501 (rfl : 501 + 2 = 503) ?_
  refine z_iconst C dL_law_503 (rfl : 503 + 1 = 504) ?_
  refine z_iadd C dL_law_504 (rfl : 504 + 1 = 505) rfl ?_
  refine z_sld C (x := iI a1) S ⟨by omega, by omega⟩ (by omega) (by rw [show ((i : Int) + 1).toNat = i + 1 from by omega]; exact e1) dL_law_505 (rfl : 505 + 1 = 506) ?_
  refine z_aload_n C 2 rfl rfl dL_law_506 (rfl : 506 + 1 = 507) ?_
  refine z_iload C 1 rfl dL_law_507 (rfl : 507 + 2 = 509) ?_
  refine z_iconst C dL_law_509 (rfl : 509 + 1 = 510) ?_
  refine z_iadd C dL_law_510 (rfl : 510 + 1 = 511) rfl ?_
  refine z_sld C (x := iI a2) S ⟨by omega, by omega⟩ (by omega) (by rw [show ((i : Int) + 2).toNat = i + 2 from by omega]; exact e2) dL_law_511 (rfl : 511 + 1 = 512) ?_
  refine z_aload_n C 2 rfl rfl dL_law_512 (rfl : 512 + 1 = 513) ?_
  refine z_iload C 1 rfl dL_law_513 (rfl : 513 + 2 = 515) ?_
  refine z_iconst C dL_law_515 (rfl : 515 + 1 = 516) ?_
  refine z_iadd C dL_law_516 (rfl : 516 + 1 = 517) rfl ?_
  refine z_sld C (x := iI a3) S ⟨by omega, by omega⟩ (by omega) (by rw [show ((i : Int) + 3).toNat = i + 3 from by omega]; exact e3) dL_law_517 (rfl : 517 + 1 = 518) ?_
  refine z_aload_n C 2 rfl rfl dL_law_518 (rfl : 518 + 1 = 519) ?_
  refine z_iload C 1 rfl dL_law_519 (rfl : 519 + 2 = 521) ?_
  refine z_iconst C dL_law_521 (rfl : 521 + 1 = 522) ?_
  refine z_iadd C dL_law_522 (rfl : 522 + 1 = 523) rfl ?_
  refine z_sld C (x := iI a4) S ⟨by omega, by omega⟩ (by omega) (by rw [show ((i : Int) + 4).toNat = i + 4 from by omega]; exact e4) dL_law_523 (rfl : 523 + 1 = 524) ?_
  refine z_callV C (cells + 6) (slots + 240) hR gL_law_X6_correct rfl hd83_X6_correct ⟨Nat.le_of_ble_eq_true rfl, Nat.le_of_ble_eq_true rfl⟩ xmm rfl rfl (Nat.le_of_ble_eq_true rfl) dL_law_524 (rfl : 524 + 3 = 527) rfl rfl ⟨by show cells + 6 ≤ 601024; omega, by show slots + 240 ≤ 7293034; omega⟩ (fun _ _ h => h.elim) ?_ rfl
  intro v2 w2 hv2
  obtain ⟨bb, V2, rfl, rfl, hk25, hk0, hB, hI2⟩ := hS v2 w2 hv2
  refine z_v1 ?_
  refine z_istore (lv' := [(6, _), (5, _), (4, _), (0, _), (1, _), (2, _), (3, _)]) C dL_law_527 (rfl : 527 + 2 = 529) (by decide) rfl ?_
  refine z_aload_n C 5 rfl rfl dL_law_529 (rfl : 529 + 1 = 530) ?_
  refine z_callV C (cells + 6) (slots + 240) c_X6_thrown gL_law_X6_thrown rfl hd83_X6_thrown ⟨Nat.le_of_ble_eq_true rfl, Nat.le_of_ble_eq_true rfl⟩ xmm rfl rfl (Nat.le_of_ble_eq_true rfl) dL_law_530 (rfl : 530 + 3 = 533) rfl rfl ⟨by show cells + 6 ≤ 601024; omega, by show slots + 240 ≤ 7293034; omega⟩ (fun _ _ h => h.elim) ?_ rfl
  rintro _ _ ⟨rfl, rfl⟩
  refine z_v1 ?_
  rw [hk25]
  refine z_iload C 1 rfl dL_law_533 (rfl : 533 + 2 = 535) ?_
  refine z_icmp_eq (pt := 540) C dL_law_535 (by decide) (rfl : 535 + 3 = 538) (Iff.rfl).1 (fun q => mt (Iff.rfl).2 q) (fun c6 => ?_) (fun c6 => ?_)
  rotate_left
  · exact absurd rfl c6
  refine z_iload C 1 rfl dL_law_540 (rfl : 540 + 2 = 542) ?_
  refine z_if_ne (pt := 557) C dL_law_542 (by decide) (rfl : 542 + 3 = 545) (fun q => mt (iI_eq0 (by omega)).2 q) (iI_eq0 (by omega)).1 (fun c7 => ?_) (fun c7 => ?_)
  · refine z_goto (pc' := 1936) C dL_law_557 (by decide) ?_
    refine z_widen (k := cells + 6) (n := slots + 260) (by omega) (by omega) ?_
    exact z_sub [2, 3, 4, 5, 6] rfl (kk _ hI2)
  refine z_aload_n C 6 rfl rfl dL_law_545 (rfl : 545 + 1 = 546) ?_
  refine z_iconst C dL_law_546 (rfl : 546 + 1 = 547) ?_
  refine z_lald C (x := fo' 0) (List.mem_append_right _ List.mem_cons_self) ⟨by omega, by omega⟩ (by omega) rfl dL_law_547 (rfl : 547 + 1 = 548) ?_
  refine z_iload C 0 rfl dL_law_548 (rfl : 548 + 2 = 550) ?_
  refine z_i2l C rfl dL_law_550 (rfl : 550 + 1 = 551) ?_
  refine z_lcmp C dL_law_551 (rfl : 551 + 1 = 552) (fun _ => ?_) (fun c8 _ _ => absurd (hk0 c7) c8)
  refine z_if_eq (pt := 557) C dL_law_552 (by decide) (rfl : 552 + 3 = 555) (iI_eq0 (by decide)).1 (fun q => mt (iI_eq0 (by decide)).2 q) (fun c9 => ?_) (fun c9 => ?_)
  rotate_left
  · exact absurd rfl c9
  refine z_goto (pc' := 1936) C dL_law_557 (by decide) ?_
  refine z_widen (k := cells + 6) (n := slots + 260) (by omega) (by omega) ?_
  exact z_sub [2, 3, 4, 5, 6] rfl (kk _ hI2)
theorem lc_workIn (C : Cx κ cL_law 7 wsL_law RL (some .boolean) rmL_law G base) (hN : NcA (ks κ)) (S : SCR κ base b Ln xs) (hi : i + 5 ≤ Ln) (hL : Ln ≤ 2560) (hI : INV G q x qo w) (h1 : cells + 100 ≤ 601024) (h2 : slots + 500 ≤ 7293034)
    (kk : ∀ w', INV G q x qo w' → Z κ 7 G base mc ms post exc (cells + 6) (slots + 260) 1936 [(4, .int (iI (i : Int))), (0, .ref b), (1, .ref x), (2, .ref (q 30)), (3, .ref qo)] [] w') : Z κ 7 G base mc ms post exc cells slots 560 [(4, .int (iI (i : Int))), (0, .ref b), (1, .ref x), (2, .ref (q 30)), (3, .ref qo)] [] w := by
  obtain ⟨V, n, m, t, fo, L, K, I, F, R, N, O, T, g, rfl, rfl, h, hw, hb⟩ := hI
  obtain ⟨a1, r1, e1⟩ := iI_ex (xs (i + 1))
  obtain ⟨a2, r2, e2⟩ := iI_ex (xs (i + 2))
  obtain ⟨postW, hM, hW⟩ := pr_workIn (l := kl κ) (base := base) (q := q) (qo := qo) (fo := fo) r1 r2 h hw hb
  refine z_aload_n C 2 rfl rfl dL_law_560 (rfl : 560 + 1 = 561) ?_
  refine z_aload_n C 1 rfl rfl dL_law_561 (rfl : 561 + 1 = 562) ?_
  refine z_iload C 0 rfl dL_law_562 (rfl : 562 + 2 = 564) ?_
  refine z_iconst C dL_law_564 (rfl : 564 + 1 = 565) ?_
  refine z_iadd C dL_law_565 (rfl : 565 + 1 = 566) rfl ?_
  refine z_sld C (x := iI a1) S ⟨by omega, by omega⟩ (by omega) (by rw [show ((i : Int) + 1).toNat = i + 1 from by omega]; exact e1) dL_law_566 (rfl : 566 + 1 = 567) ?_
  refine z_aload_n C 1 rfl rfl dL_law_567 (rfl : 567 + 1 = 568) ?_
  refine z_iload C 0 rfl dL_law_568 (rfl : 568 + 2 = 570) ?_
  refine z_iconst C dL_law_570 (rfl : 570 + 1 = 571) ?_
  refine z_iadd C dL_law_571 (rfl : 571 + 1 = 572) rfl ?_
  refine z_sld C (x := iI a2) S ⟨by omega, by omega⟩ (by omega) (by rw [show ((i : Int) + 2).toNat = i + 2 from by omega]; exact e2) dL_law_572 (rfl : 572 + 1 = 573) ?_
  refine z_aload_n C 4 rfl rfl dL_law_573 (rfl : 573 + 1 = 574) ?_
  refine z_callW C hN (cells + 3) (slots + 18) hM gL_law_L_workIn rfl hd83_L_workIn ⟨Nat.le_of_ble_eq_true rfl, Nat.le_of_ble_eq_true rfl⟩ rfl (Nat.le_of_ble_eq_true rfl) dL_law_574 (rfl : 574 + 3 = 577) rfl rfl ⟨by show cells + 3 ≤ 601024; omega, by show slots + 18 ≤ 7293034; omega⟩ ?_ rfl
  intro v w1 hv
  obtain ⟨k, fo', V1, Z0, hk, rfl, rfl, postR, hR, hS⟩ := hW v w1 hv
  refine z_v1 ?_
  refine z_istore (lv' := [(5, _), (4, _), (0, _), (1, _), (2, _), (3, _)]) C dL_law_577 (rfl : 577 + 2 = 579) (by decide) rfl ?_
  refine z_aload_n C 4 rfl rfl dL_law_579 (rfl : 579 + 1 = 580) ?_
  refine z_aload_n C 2 rfl rfl dL_law_580 (rfl : 580 + 1 = 581) ?_
  refine z_iload C 1 rfl dL_law_581 (rfl : 581 + 2 = 583) ?_
  refine z_iconst C dL_law_583 (rfl : 583 + 1 = 584) ?_
  refine z_iadd C dL_law_584 (rfl : 584 + 1 = 585) rfl ?_
  refine z_sld C (x := iI a1) S ⟨by omega, by omega⟩ (by omega) (by rw [show ((i : Int) + 1).toNat = i + 1 from by omega]; exact e1) dL_law_585 (rfl : 585 + 1 = 586) ?_
  refine z_aload_n C 2 rfl rfl dL_law_586 (rfl : 586 + 1 = 587) ?_
  refine z_iload C 1 rfl dL_law_587 (rfl : 587 + 2 = 589) ?_
  refine z_iconst C dL_law_589 (rfl : 589 + 1 = 590) ?_
  refine z_iadd C dL_law_590 (rfl : 590 + 1 = 591) rfl ?_
  refine z_sld C (x := iI a2) S ⟨by omega, by omega⟩ (by omega) (by rw [show ((i : Int) + 2).toNat = i + 2 from by omega]; exact e2) dL_law_591 (rfl : 591 + 1 = 592) ?_
  refine z_callV C (cells + 3) (slots + 18) hR gL_law_X6_workIn rfl hd83_X6_workIn ⟨Nat.le_of_ble_eq_true rfl, Nat.le_of_ble_eq_true rfl⟩ xmm rfl rfl (Nat.le_of_ble_eq_true rfl) dL_law_592 (rfl : 592 + 3 = 595) rfl rfl ⟨by show cells + 3 ≤ 601024; omega, by show slots + 18 ≤ 7293034; omega⟩ (fun _ _ h => h.elim) ?_ rfl
  intro v2 w2 hv2
  obtain ⟨bb, V2, rfl, rfl, hk25, hk0, hB, hI2⟩ := hS v2 w2 hv2
  refine z_v1 ?_
  refine z_istore (lv' := [(6, _), (5, _), (4, _), (0, _), (1, _), (2, _), (3, _)]) C dL_law_595 (rfl : 595 + 2 = 597) (by decide) rfl ?_
  refine z_aload_n C 5 rfl rfl dL_law_597 (rfl : 597 + 1 = 598) ?_
  refine z_callV C (cells + 3) (slots + 18) c_X6_thrown gL_law_X6_thrown rfl hd83_X6_thrown ⟨Nat.le_of_ble_eq_true rfl, Nat.le_of_ble_eq_true rfl⟩ xmm rfl rfl (Nat.le_of_ble_eq_true rfl) dL_law_598 (rfl : 598 + 3 = 601) rfl rfl ⟨by show cells + 3 ≤ 601024; omega, by show slots + 18 ≤ 7293034; omega⟩ (fun _ _ h => h.elim) ?_ rfl
  rintro _ _ ⟨rfl, rfl⟩
  refine z_v1 ?_
  rw [hk25]
  refine z_iload C 1 rfl dL_law_601 (rfl : 601 + 2 = 603) ?_
  refine z_icmp_eq (pt := 608) C dL_law_603 (by decide) (rfl : 603 + 3 = 606) (Iff.rfl).1 (fun q => mt (Iff.rfl).2 q) (fun c6 => ?_) (fun c6 => ?_)
  rotate_left
  · exact absurd rfl c6
  refine z_iload C 1 rfl dL_law_608 (rfl : 608 + 2 = 610) ?_
  refine z_if_ne (pt := 625) C dL_law_610 (by decide) (rfl : 610 + 3 = 613) (fun q => mt (iI_eq0 (by omega)).2 q) (iI_eq0 (by omega)).1 (fun c7 => ?_) (fun c7 => ?_)
  · refine z_goto (pc' := 1936) C dL_law_625 (by decide) ?_
    refine z_widen (k := cells + 6) (n := slots + 260) (by omega) (by omega) ?_
    exact z_sub [2, 3, 4, 5, 6] rfl (kk _ hI2)
  refine z_aload_n C 6 rfl rfl dL_law_613 (rfl : 613 + 1 = 614) ?_
  refine z_iconst C dL_law_614 (rfl : 614 + 1 = 615) ?_
  refine z_lald C (x := fo' 0) (List.mem_append_right _ List.mem_cons_self) ⟨by omega, by omega⟩ (by omega) rfl dL_law_615 (rfl : 615 + 1 = 616) ?_
  refine z_iload C 0 rfl dL_law_616 (rfl : 616 + 2 = 618) ?_
  refine z_i2l C rfl dL_law_618 (rfl : 618 + 1 = 619) ?_
  refine z_lcmp C dL_law_619 (rfl : 619 + 1 = 620) (fun _ => ?_) (fun c8 _ _ => absurd (hk0 c7) c8)
  refine z_if_eq (pt := 625) C dL_law_620 (by decide) (rfl : 620 + 3 = 623) (iI_eq0 (by decide)).1 (fun q => mt (iI_eq0 (by decide)).2 q) (fun c9 => ?_) (fun c9 => ?_)
  rotate_left
  · exact absurd rfl c9
  refine z_goto (pc' := 1936) C dL_law_625 (by decide) ?_
  refine z_widen (k := cells + 6) (n := slots + 260) (by omega) (by omega) ?_
  exact z_sub [2, 3, 4, 5, 6] rfl (kk _ hI2)
theorem lc_lend (C : Cx κ cL_law 7 wsL_law RL (some .boolean) rmL_law G base) (hN : NcA (ks κ)) (S : SCR κ base b Ln xs) (hi : i + 5 ≤ Ln) (hL : Ln ≤ 2560) (hI : INV G q x qo w) (h1 : cells + 100 ≤ 601024) (h2 : slots + 500 ≤ 7293034)
    (kk : ∀ w', INV G q x qo w' → Z κ 7 G base mc ms post exc (cells + 6) (slots + 260) 1936 [(4, .int (iI (i : Int))), (0, .ref b), (1, .ref x), (2, .ref (q 30)), (3, .ref qo)] [] w') : Z κ 7 G base mc ms post exc cells slots 628 [(4, .int (iI (i : Int))), (0, .ref b), (1, .ref x), (2, .ref (q 30)), (3, .ref qo)] [] w := by
  obtain ⟨V, n, m, t, fo, L, K, I, F, R, N, O, T, g, rfl, rfl, h, hw, hb⟩ := hI
  obtain ⟨a1, r1, e1⟩ := iI_ex (xs (i + 1))
  obtain ⟨a2, r2, e2⟩ := iI_ex (xs (i + 2))
  obtain ⟨a3, r3, e3⟩ := iI_ex (xs (i + 3))
  obtain ⟨a4, r4, e4⟩ := iI_ex (xs (i + 4))
  obtain ⟨postW, hM, hW⟩ := pr_lend (l := kl κ) (base := base) (q := q) (qo := qo) (fo := fo) r1 r2 r3 r4 h hw hb
  refine z_aload_n C 2 rfl rfl dL_law_628 (rfl : 628 + 1 = 629) ?_
  refine z_aload_n C 1 rfl rfl dL_law_629 (rfl : 629 + 1 = 630) ?_
  refine z_iload C 0 rfl dL_law_630 (rfl : 630 + 2 = 632) ?_
  refine z_iconst C dL_law_632 (rfl : 632 + 1 = 633) ?_
  refine z_iadd C dL_law_633 (rfl : 633 + 1 = 634) rfl ?_
  refine z_sld C (x := iI a1) S ⟨by omega, by omega⟩ (by omega) (by rw [show ((i : Int) + 1).toNat = i + 1 from by omega]; exact e1) dL_law_634 (rfl : 634 + 1 = 635) ?_
  refine z_aload_n C 1 rfl rfl dL_law_635 (rfl : 635 + 1 = 636) ?_
  refine z_iload C 0 rfl dL_law_636 (rfl : 636 + 2 = 638) ?_
  refine z_iconst C dL_law_638 (rfl : 638 + 1 = 639) ?_
  refine z_iadd C dL_law_639 (rfl : 639 + 1 = 640) rfl ?_
  refine z_sld C (x := iI a2) S ⟨by omega, by omega⟩ (by omega) (by rw [show ((i : Int) + 2).toNat = i + 2 from by omega]; exact e2) dL_law_640 (rfl : 640 + 1 = 641) ?_
  refine z_aload_n C 1 rfl rfl dL_law_641 (rfl : 641 + 1 = 642) ?_
  refine z_iload C 0 rfl dL_law_642 (rfl : 642 + 2 = 644) ?_
  refine z_iconst C dL_law_644 (rfl : 644 + 1 = 645) ?_
  refine z_iadd C dL_law_645 (rfl : 645 + 1 = 646) rfl ?_
  refine z_sld C (x := iI a3) S ⟨by omega, by omega⟩ (by omega) (by rw [show ((i : Int) + 3).toNat = i + 3 from by omega]; exact e3) dL_law_646 (rfl : 646 + 1 = 647) ?_
  refine z_aload_n C 1 rfl rfl dL_law_647 (rfl : 647 + 1 = 648) ?_
  refine z_iload C 0 rfl dL_law_648 (rfl : 648 + 2 = 650) ?_
  refine z_iconst C dL_law_650 (rfl : 650 + 1 = 651) ?_
  refine z_iadd C dL_law_651 (rfl : 651 + 1 = 652) rfl ?_
  refine z_sld C (x := iI a4) S ⟨by omega, by omega⟩ (by omega) (by rw [show ((i : Int) + 4).toNat = i + 4 from by omega]; exact e4) dL_law_652 (rfl : 652 + 1 = 653) ?_
  refine z_aload_n C 4 rfl rfl dL_law_653 (rfl : 653 + 1 = 654) ?_
  refine z_callW C hN (cells + 4) (slots + 240) hM gL_law_L_lend rfl hd83_L_lend ⟨Nat.le_of_ble_eq_true rfl, Nat.le_of_ble_eq_true rfl⟩ rfl (Nat.le_of_ble_eq_true rfl) dL_law_654 (rfl : 654 + 3 = 657) rfl rfl ⟨by show cells + 4 ≤ 601024; omega, by show slots + 240 ≤ 7293034; omega⟩ ?_ rfl
  intro v w1 hv
  obtain ⟨k, fo', V1, Z0, hk, rfl, rfl, postR, hR, hS⟩ := hW v w1 hv
  refine z_v1 ?_
  refine z_istore (lv' := [(5, _), (4, _), (0, _), (1, _), (2, _), (3, _)]) C dL_law_657 (rfl : 657 + 2 = 659) (by decide) rfl ?_
  refine z_aload_n C 4 rfl rfl dL_law_659 (rfl : 659 + 1 = 660) ?_
  refine z_aload_n C 2 rfl rfl dL_law_660 (rfl : 660 + 1 = 661) ?_
  refine z_iload C 1 rfl dL_law_661 (rfl : 661 + 2 = 663) ?_
  refine z_iconst C dL_law_663 (rfl : 663 + 1 = 664) ?_
  refine z_iadd C dL_law_664 (rfl : 664 + 1 = 665) rfl ?_
  refine z_sld C (x := iI a1) S ⟨by omega, by omega⟩ (by omega) (by rw [show ((i : Int) + 1).toNat = i + 1 from by omega]; exact e1) dL_law_665 (rfl : 665 + 1 = 666) ?_
  refine z_aload_n C 2 rfl rfl dL_law_666 (rfl : 666 + 1 = 667) ?_
  refine z_iload C 1 rfl dL_law_667 (rfl : 667 + 2 = 669) ?_
  refine z_iconst C dL_law_669 (rfl : 669 + 1 = 670) ?_
  refine z_iadd C dL_law_670 (rfl : 670 + 1 = 671) rfl ?_
  refine z_sld C (x := iI a2) S ⟨by omega, by omega⟩ (by omega) (by rw [show ((i : Int) + 2).toNat = i + 2 from by omega]; exact e2) dL_law_671 (rfl : 671 + 1 = 672) ?_
  refine z_aload_n C 2 rfl rfl dL_law_672 (rfl : 672 + 1 = 673) ?_
  refine z_iload C 1 rfl dL_law_673 (rfl : 673 + 2 = 675) ?_
  refine z_iconst C dL_law_675 (rfl : 675 + 1 = 676) ?_
  refine z_iadd C dL_law_676 (rfl : 676 + 1 = 677) rfl ?_
  refine z_sld C (x := iI a3) S ⟨by omega, by omega⟩ (by omega) (by rw [show ((i : Int) + 3).toNat = i + 3 from by omega]; exact e3) dL_law_677 (rfl : 677 + 1 = 678) ?_
  refine z_aload_n C 2 rfl rfl dL_law_678 (rfl : 678 + 1 = 679) ?_
  refine z_iload C 1 rfl dL_law_679 (rfl : 679 + 2 = 681) ?_
  refine z_iconst C dL_law_681 (rfl : 681 + 1 = 682) ?_
  refine z_iadd C dL_law_682 (rfl : 682 + 1 = 683) rfl ?_
  refine z_sld C (x := iI a4) S ⟨by omega, by omega⟩ (by omega) (by rw [show ((i : Int) + 4).toNat = i + 4 from by omega]; exact e4) dL_law_683 (rfl : 683 + 1 = 684) ?_
  refine z_callV C (cells + 4) (slots + 240) hR gL_law_X6_lend rfl hd83_X6_lend ⟨Nat.le_of_ble_eq_true rfl, Nat.le_of_ble_eq_true rfl⟩ xmm rfl rfl (Nat.le_of_ble_eq_true rfl) dL_law_684 (rfl : 684 + 3 = 687) rfl rfl ⟨by show cells + 4 ≤ 601024; omega, by show slots + 240 ≤ 7293034; omega⟩ (fun _ _ h => h.elim) ?_ rfl
  intro v2 w2 hv2
  obtain ⟨bb, V2, rfl, rfl, hk25, hk0, hB, hI2⟩ := hS v2 w2 hv2
  refine z_v1 ?_
  refine z_istore (lv' := [(6, _), (5, _), (4, _), (0, _), (1, _), (2, _), (3, _)]) C dL_law_687 (rfl : 687 + 2 = 689) (by decide) rfl ?_
  refine z_aload_n C 5 rfl rfl dL_law_689 (rfl : 689 + 1 = 690) ?_
  refine z_callV C (cells + 4) (slots + 240) c_X6_thrown gL_law_X6_thrown rfl hd83_X6_thrown ⟨Nat.le_of_ble_eq_true rfl, Nat.le_of_ble_eq_true rfl⟩ xmm rfl rfl (Nat.le_of_ble_eq_true rfl) dL_law_690 (rfl : 690 + 3 = 693) rfl rfl ⟨by show cells + 4 ≤ 601024; omega, by show slots + 240 ≤ 7293034; omega⟩ (fun _ _ h => h.elim) ?_ rfl
  rintro _ _ ⟨rfl, rfl⟩
  refine z_v1 ?_
  rw [hk25]
  refine z_iload C 1 rfl dL_law_693 (rfl : 693 + 2 = 695) ?_
  refine z_icmp_eq (pt := 700) C dL_law_695 (by decide) (rfl : 695 + 3 = 698) (Iff.rfl).1 (fun q => mt (Iff.rfl).2 q) (fun c6 => ?_) (fun c6 => ?_)
  rotate_left
  · exact absurd rfl c6
  refine z_iload C 1 rfl dL_law_700 (rfl : 700 + 2 = 702) ?_
  refine z_if_ne (pt := 717) C dL_law_702 (by decide) (rfl : 702 + 3 = 705) (fun q => mt (iI_eq0 (by omega)).2 q) (iI_eq0 (by omega)).1 (fun c7 => ?_) (fun c7 => ?_)
  · refine z_goto (pc' := 1936) C dL_law_717 (by decide) ?_
    refine z_widen (k := cells + 6) (n := slots + 260) (by omega) (by omega) ?_
    exact z_sub [2, 3, 4, 5, 6] rfl (kk _ hI2)
  refine z_aload_n C 6 rfl rfl dL_law_705 (rfl : 705 + 1 = 706) ?_
  refine z_iconst C dL_law_706 (rfl : 706 + 1 = 707) ?_
  refine z_lald C (x := fo' 0) (List.mem_append_right _ List.mem_cons_self) ⟨by omega, by omega⟩ (by omega) rfl dL_law_707 (rfl : 707 + 1 = 708) ?_
  refine z_iload C 0 rfl dL_law_708 (rfl : 708 + 2 = 710) ?_
  refine z_i2l C rfl dL_law_710 (rfl : 710 + 1 = 711) ?_
  refine z_lcmp C dL_law_711 (rfl : 711 + 1 = 712) (fun _ => ?_) (fun c8 _ _ => absurd (hk0 c7) c8)
  refine z_if_eq (pt := 717) C dL_law_712 (by decide) (rfl : 712 + 3 = 715) (iI_eq0 (by decide)).1 (fun q => mt (iI_eq0 (by decide)).2 q) (fun c9 => ?_) (fun c9 => ?_)
  rotate_left
  · exact absurd rfl c9
  refine z_goto (pc' := 1936) C dL_law_717 (by decide) ?_
  refine z_widen (k := cells + 6) (n := slots + 260) (by omega) (by omega) ?_
  exact z_sub [2, 3, 4, 5, 6] rfl (kk _ hI2)
theorem lc_giveBack (C : Cx κ cL_law 7 wsL_law RL (some .boolean) rmL_law G base) (hN : NcA (ks κ)) (S : SCR κ base b Ln xs) (hi : i + 5 ≤ Ln) (hL : Ln ≤ 2560) (hI : INV G q x qo w) (h1 : cells + 100 ≤ 601024) (h2 : slots + 500 ≤ 7293034)
    (kk : ∀ w', INV G q x qo w' → Z κ 7 G base mc ms post exc (cells + 6) (slots + 260) 1936 [(4, .int (iI (i : Int))), (0, .ref b), (1, .ref x), (2, .ref (q 30)), (3, .ref qo)] [] w') : Z κ 7 G base mc ms post exc cells slots 720 [(4, .int (iI (i : Int))), (0, .ref b), (1, .ref x), (2, .ref (q 30)), (3, .ref qo)] [] w := by
  obtain ⟨V, n, m, t, fo, L, K, I, F, R, N, O, T, g, rfl, rfl, h, hw, hb⟩ := hI
  obtain ⟨a1, r1, e1⟩ := iI_ex (xs (i + 1))
  obtain ⟨postW, hM, hW⟩ := pr_giveBack (l := kl κ) (base := base) (q := q) (qo := qo) (fo := fo) r1 h hw hb
  refine z_aload_n C 2 rfl rfl dL_law_720 (rfl : 720 + 1 = 721) ?_
  refine z_aload_n C 1 rfl rfl dL_law_721 (rfl : 721 + 1 = 722) ?_
  refine z_iload C 0 rfl dL_law_722 (rfl : 722 + 2 = 724) ?_
  refine z_iconst C dL_law_724 (rfl : 724 + 1 = 725) ?_
  refine z_iadd C dL_law_725 (rfl : 725 + 1 = 726) rfl ?_
  refine z_sld C (x := iI a1) S ⟨by omega, by omega⟩ (by omega) (by rw [show ((i : Int) + 1).toNat = i + 1 from by omega]; exact e1) dL_law_726 (rfl : 726 + 1 = 727) ?_
  refine z_aload_n C 4 rfl rfl dL_law_727 (rfl : 727 + 1 = 728) ?_
  refine z_callW C hN (cells + 2) (slots + 12) hM gL_law_L_giveBack rfl hd83_L_giveBack ⟨Nat.le_of_ble_eq_true rfl, Nat.le_of_ble_eq_true rfl⟩ rfl (Nat.le_of_ble_eq_true rfl) dL_law_728 (rfl : 728 + 3 = 731) rfl rfl ⟨by show cells + 2 ≤ 601024; omega, by show slots + 12 ≤ 7293034; omega⟩ ?_ rfl
  intro v w1 hv
  obtain ⟨k, fo', V1, Z0, hk, rfl, rfl, postR, hR, hS⟩ := hW v w1 hv
  refine z_v1 ?_
  refine z_istore (lv' := [(5, _), (4, _), (0, _), (1, _), (2, _), (3, _)]) C dL_law_731 (rfl : 731 + 2 = 733) (by decide) rfl ?_
  refine z_aload_n C 4 rfl rfl dL_law_733 (rfl : 733 + 1 = 734) ?_
  refine z_aload_n C 2 rfl rfl dL_law_734 (rfl : 734 + 1 = 735) ?_
  refine z_iload C 1 rfl dL_law_735 (rfl : 735 + 2 = 737) ?_
  refine z_iconst C dL_law_737 (rfl : 737 + 1 = 738) ?_
  refine z_iadd C dL_law_738 (rfl : 738 + 1 = 739) rfl ?_
  refine z_sld C (x := iI a1) S ⟨by omega, by omega⟩ (by omega) (by rw [show ((i : Int) + 1).toNat = i + 1 from by omega]; exact e1) dL_law_739 (rfl : 739 + 1 = 740) ?_
  refine z_callV C (cells + 2) (slots + 12) hR gL_law_X6_giveBack rfl hd83_X6_giveBack ⟨Nat.le_of_ble_eq_true rfl, Nat.le_of_ble_eq_true rfl⟩ xmm rfl rfl (Nat.le_of_ble_eq_true rfl) dL_law_740 (rfl : 740 + 3 = 743) rfl rfl ⟨by show cells + 2 ≤ 601024; omega, by show slots + 12 ≤ 7293034; omega⟩ (fun _ _ h => h.elim) ?_ rfl
  intro v2 w2 hv2
  obtain ⟨bb, V2, rfl, rfl, hk25, hk0, hB, hI2⟩ := hS v2 w2 hv2
  refine z_v1 ?_
  refine z_istore (lv' := [(6, _), (5, _), (4, _), (0, _), (1, _), (2, _), (3, _)]) C dL_law_743 (rfl : 743 + 2 = 745) (by decide) rfl ?_
  refine z_aload_n C 5 rfl rfl dL_law_745 (rfl : 745 + 1 = 746) ?_
  refine z_callV C (cells + 2) (slots + 12) c_X6_thrown gL_law_X6_thrown rfl hd83_X6_thrown ⟨Nat.le_of_ble_eq_true rfl, Nat.le_of_ble_eq_true rfl⟩ xmm rfl rfl (Nat.le_of_ble_eq_true rfl) dL_law_746 (rfl : 746 + 3 = 749) rfl rfl ⟨by show cells + 2 ≤ 601024; omega, by show slots + 12 ≤ 7293034; omega⟩ (fun _ _ h => h.elim) ?_ rfl
  rintro _ _ ⟨rfl, rfl⟩
  refine z_v1 ?_
  rw [hk25]
  refine z_iload C 1 rfl dL_law_749 (rfl : 749 + 2 = 751) ?_
  refine z_icmp_eq (pt := 756) C dL_law_751 (by decide) (rfl : 751 + 3 = 754) (Iff.rfl).1 (fun q => mt (Iff.rfl).2 q) (fun c6 => ?_) (fun c6 => ?_)
  rotate_left
  · exact absurd rfl c6
  refine z_iload C 1 rfl dL_law_756 (rfl : 756 + 2 = 758) ?_
  refine z_if_ne (pt := 773) C dL_law_758 (by decide) (rfl : 758 + 3 = 761) (fun q => mt (iI_eq0 (by omega)).2 q) (iI_eq0 (by omega)).1 (fun c7 => ?_) (fun c7 => ?_)
  · refine z_goto (pc' := 1936) C dL_law_773 (by decide) ?_
    refine z_widen (k := cells + 6) (n := slots + 260) (by omega) (by omega) ?_
    exact z_sub [2, 3, 4, 5, 6] rfl (kk _ hI2)
  refine z_aload_n C 6 rfl rfl dL_law_761 (rfl : 761 + 1 = 762) ?_
  refine z_iconst C dL_law_762 (rfl : 762 + 1 = 763) ?_
  refine z_lald C (x := fo' 0) (List.mem_append_right _ List.mem_cons_self) ⟨by omega, by omega⟩ (by omega) rfl dL_law_763 (rfl : 763 + 1 = 764) ?_
  refine z_iload C 0 rfl dL_law_764 (rfl : 764 + 2 = 766) ?_
  refine z_i2l C rfl dL_law_766 (rfl : 766 + 1 = 767) ?_
  refine z_lcmp C dL_law_767 (rfl : 767 + 1 = 768) (fun _ => ?_) (fun c8 _ _ => absurd (hk0 c7) c8)
  refine z_if_eq (pt := 773) C dL_law_768 (by decide) (rfl : 768 + 3 = 771) (iI_eq0 (by decide)).1 (fun q => mt (iI_eq0 (by decide)).2 q) (fun c9 => ?_) (fun c9 => ?_)
  rotate_left
  · exact absurd rfl c9
  refine z_goto (pc' := 1936) C dL_law_773 (by decide) ?_
  refine z_widen (k := cells + 6) (n := slots + 260) (by omega) (by omega) ?_
  exact z_sub [2, 3, 4, 5, 6] rfl (kk _ hI2)
theorem lc_day (C : Cx κ cL_law 7 wsL_law RL (some .boolean) rmL_law G base) (hN : NcA (ks κ)) (S : SCR κ base b Ln xs) (hi : i + 5 ≤ Ln) (hL : Ln ≤ 2560) (hI : INV G q x qo w) (h1 : cells + 100 ≤ 601024) (h2 : slots + 500 ≤ 7293034)
    (kk : ∀ w', INV G q x qo w' → Z κ 7 G base mc ms post exc (cells + 6) (slots + 260) 1936 [(4, .int (iI (i : Int))), (0, .ref b), (1, .ref x), (2, .ref (q 30)), (3, .ref qo)] [] w') : Z κ 7 G base mc ms post exc cells slots 776 [(4, .int (iI (i : Int))), (0, .ref b), (1, .ref x), (2, .ref (q 30)), (3, .ref qo)] [] w := by
  obtain ⟨V, n, m, t, fo, L, K, I, F, R, N, O, T, g, rfl, rfl, h, hw, hb⟩ := hI
  obtain ⟨postC, hM, hW⟩ := pr_day (l := kl κ) (base := base) (q := q) (qo := qo) (fo := fo) h hw hb
  refine z_aload_n C 2 rfl rfl dL_law_776 (rfl : 776 + 1 = 777) ?_
  refine z_callV C cells slots hM gL_law_X5_day rfl hd83_X5_day ⟨Nat.le_of_ble_eq_true rfl, Nat.le_of_ble_eq_true rfl⟩ (pwm_MC h.1.x8.1 h.1.x8.2.1) rfl rfl (Nat.le_of_ble_eq_true rfl) dL_law_777 (rfl : 777 + 3 = 780) rfl rfl ⟨by show cells ≤ 601024; omega, by show slots ≤ 7293034; omega⟩ (fun _ _ h => h.elim) ?_ rfl
  intro v w1 hv
  obtain ⟨ans, V1, Y, rfl, rfl, postR, hR, hS⟩ := hW v w1 hv
  refine z_v1 ?_
  refine z_aload_n C 3 rfl rfl dL_law_780 (rfl : 780 + 1 = 781) ?_
  refine z_callV C cells slots hR gL_law_X6_day rfl hd83_X6_day ⟨Nat.le_of_ble_eq_true rfl, Nat.le_of_ble_eq_true rfl⟩ xmm rfl rfl (Nat.le_of_ble_eq_true rfl) dL_law_781 (rfl : 781 + 3 = 784) rfl rfl ⟨by show cells ≤ 601024; omega, by show slots ≤ 7293034; omega⟩ (fun _ _ h => h.elim) ?_ rfl
  intro v2 w2 hv2
  obtain ⟨rfl, hI2⟩ := hS v2 w2 hv2
  refine z_v1 ?_
  refine z_icmp_eq (pt := 1936) C dL_law_784 (by decide) (rfl : 784 + 3 = 787) (Iff.rfl).1 (fun q => mt (Iff.rfl).2 q) (fun c6 => ?_) (fun c6 => ?_)
  rotate_left
  · exact absurd rfl c6
  refine z_widen (k := cells + 6) (n := slots + 260) (by omega) (by omega) ?_
  exact kk _ hI2
theorem lc_copies (C : Cx κ cL_law 7 wsL_law RL (some .boolean) rmL_law G base) (hN : NcA (ks κ)) (S : SCR κ base b Ln xs) (hi : i + 5 ≤ Ln) (hL : Ln ≤ 2560) (hI : INV G q x qo w) (h1 : cells + 100 ≤ 601024) (h2 : slots + 500 ≤ 7293034)
    (kk : ∀ w', INV G q x qo w' → Z κ 7 G base mc ms post exc (cells + 6) (slots + 260) 1936 [(4, .int (iI (i : Int))), (0, .ref b), (1, .ref x), (2, .ref (q 30)), (3, .ref qo)] [] w') : Z κ 7 G base mc ms post exc cells slots 789 [(4, .int (iI (i : Int))), (0, .ref b), (1, .ref x), (2, .ref (q 30)), (3, .ref qo)] [] w := by
  obtain ⟨V, n, m, t, fo, L, K, I, F, R, N, O, T, g, rfl, rfl, h, hw, hb⟩ := hI
  obtain ⟨postC, hM, hW⟩ := pr_copies (l := kl κ) (base := base) (q := q) (qo := qo) (fo := fo) h hw hb
  refine z_aload_n C 2 rfl rfl dL_law_789 (rfl : 789 + 1 = 790) ?_
  refine z_callV C cells slots hM gL_law_X5_copies rfl hd83_X5_copies ⟨Nat.le_of_ble_eq_true rfl, Nat.le_of_ble_eq_true rfl⟩ (pwm_MC h.1.x8.1 h.1.x8.2.1) rfl rfl (Nat.le_of_ble_eq_true rfl) dL_law_790 (rfl : 790 + 3 = 793) rfl rfl ⟨by show cells ≤ 601024; omega, by show slots ≤ 7293034; omega⟩ (fun _ _ h => h.elim) ?_ rfl
  intro v w1 hv
  obtain ⟨ans, V1, Y, rfl, rfl, postR, hR, hS⟩ := hW v w1 hv
  refine z_v1 ?_
  refine z_aload_n C 3 rfl rfl dL_law_793 (rfl : 793 + 1 = 794) ?_
  refine z_callV C cells slots hR gL_law_X6_copies rfl hd83_X6_copies ⟨Nat.le_of_ble_eq_true rfl, Nat.le_of_ble_eq_true rfl⟩ xmm rfl rfl (Nat.le_of_ble_eq_true rfl) dL_law_794 (rfl : 794 + 3 = 797) rfl rfl ⟨by show cells ≤ 601024; omega, by show slots ≤ 7293034; omega⟩ (fun _ _ h => h.elim) ?_ rfl
  intro v2 w2 hv2
  obtain ⟨rfl, hI2⟩ := hS v2 w2 hv2
  refine z_v1 ?_
  refine z_icmp_eq (pt := 1936) C dL_law_797 (by decide) (rfl : 797 + 3 = 800) (Iff.rfl).1 (fun q => mt (Iff.rfl).2 q) (fun c6 => ?_) (fun c6 => ?_)
  rotate_left
  · exact absurd rfl c6
  refine z_widen (k := cells + 6) (n := slots + 260) (by omega) (by omega) ?_
  exact kk _ hI2
theorem lc_reading (C : Cx κ cL_law 7 wsL_law RL (some .boolean) rmL_law G base) (hN : NcA (ks κ)) (S : SCR κ base b Ln xs) (hi : i + 5 ≤ Ln) (hL : Ln ≤ 2560) (hI : INV G q x qo w) (h1 : cells + 100 ≤ 601024) (h2 : slots + 500 ≤ 7293034)
    (kk : ∀ w', INV G q x qo w' → Z κ 7 G base mc ms post exc (cells + 6) (slots + 260) 1936 [(4, .int (iI (i : Int))), (0, .ref b), (1, .ref x), (2, .ref (q 30)), (3, .ref qo)] [] w') : Z κ 7 G base mc ms post exc cells slots 802 [(4, .int (iI (i : Int))), (0, .ref b), (1, .ref x), (2, .ref (q 30)), (3, .ref qo)] [] w := by
  obtain ⟨V, n, m, t, fo, L, K, I, F, R, N, O, T, g, rfl, rfl, h, hw, hb⟩ := hI
  obtain ⟨a1, r1, e1⟩ := iI_ex (xs (i + 1))
  obtain ⟨a2, r2, e2⟩ := iI_ex (xs (i + 2))
  obtain ⟨postW, hM, hW⟩ := pr_reading (l := kl κ) (base := base) (q := q) (qo := qo) (fo := fo) r1 r2 h hw hb
  refine z_aload_n C 2 rfl rfl dL_law_802 (rfl : 802 + 1 = 803) ?_
  refine z_aload_n C 1 rfl rfl dL_law_803 (rfl : 803 + 1 = 804) ?_
  refine z_iload C 0 rfl dL_law_804 (rfl : 804 + 2 = 806) ?_
  refine z_iconst C dL_law_806 (rfl : 806 + 1 = 807) ?_
  refine z_iadd C dL_law_807 (rfl : 807 + 1 = 808) rfl ?_
  refine z_sld C (x := iI a1) S ⟨by omega, by omega⟩ (by omega) (by rw [show ((i : Int) + 1).toNat = i + 1 from by omega]; exact e1) dL_law_808 (rfl : 808 + 1 = 809) ?_
  refine z_aload_n C 1 rfl rfl dL_law_809 (rfl : 809 + 1 = 810) ?_
  refine z_iload C 0 rfl dL_law_810 (rfl : 810 + 2 = 812) ?_
  refine z_iconst C dL_law_812 (rfl : 812 + 1 = 813) ?_
  refine z_iadd C dL_law_813 (rfl : 813 + 1 = 814) rfl ?_
  refine z_sld C (x := iI a2) S ⟨by omega, by omega⟩ (by omega) (by rw [show ((i : Int) + 2).toNat = i + 2 from by omega]; exact e2) dL_law_814 (rfl : 814 + 1 = 815) ?_
  refine z_aload_n C 4 rfl rfl dL_law_815 (rfl : 815 + 1 = 816) ?_
  refine z_callW C hN (cells + 2) (slots + 12) hM gL_law_L_reading rfl hd83_L_reading ⟨Nat.le_of_ble_eq_true rfl, Nat.le_of_ble_eq_true rfl⟩ rfl (Nat.le_of_ble_eq_true rfl) dL_law_816 (rfl : 816 + 3 = 819) rfl rfl ⟨by show cells + 2 ≤ 601024; omega, by show slots + 12 ≤ 7293034; omega⟩ ?_ rfl
  intro v w1 hv
  obtain ⟨k, fo', V1, Z0, hk, rfl, rfl, postR, hR, hS⟩ := hW v w1 hv
  refine z_v1 ?_
  refine z_istore (lv' := [(5, _), (4, _), (0, _), (1, _), (2, _), (3, _)]) C dL_law_819 (rfl : 819 + 2 = 821) (by decide) rfl ?_
  refine z_aload_n C 4 rfl rfl dL_law_821 (rfl : 821 + 1 = 822) ?_
  refine z_aload_n C 2 rfl rfl dL_law_822 (rfl : 822 + 1 = 823) ?_
  refine z_iload C 1 rfl dL_law_823 (rfl : 823 + 2 = 825) ?_
  refine z_iconst C dL_law_825 (rfl : 825 + 1 = 826) ?_
  refine z_iadd C dL_law_826 (rfl : 826 + 1 = 827) rfl ?_
  refine z_sld C (x := iI a1) S ⟨by omega, by omega⟩ (by omega) (by rw [show ((i : Int) + 1).toNat = i + 1 from by omega]; exact e1) dL_law_827 (rfl : 827 + 1 = 828) ?_
  refine z_aload_n C 2 rfl rfl dL_law_828 (rfl : 828 + 1 = 829) ?_
  refine z_iload C 1 rfl dL_law_829 (rfl : 829 + 2 = 831) ?_
  refine z_iconst C dL_law_831 (rfl : 831 + 1 = 832) ?_
  refine z_iadd C dL_law_832 (rfl : 832 + 1 = 833) rfl ?_
  refine z_sld C (x := iI a2) S ⟨by omega, by omega⟩ (by omega) (by rw [show ((i : Int) + 2).toNat = i + 2 from by omega]; exact e2) dL_law_833 (rfl : 833 + 1 = 834) ?_
  refine z_callV C (cells + 2) (slots + 12) hR gL_law_X6_reading rfl hd83_X6_reading ⟨Nat.le_of_ble_eq_true rfl, Nat.le_of_ble_eq_true rfl⟩ xmm rfl rfl (Nat.le_of_ble_eq_true rfl) dL_law_834 (rfl : 834 + 3 = 837) rfl rfl ⟨by show cells + 2 ≤ 601024; omega, by show slots + 12 ≤ 7293034; omega⟩ (fun _ _ h => h.elim) ?_ rfl
  intro v2 w2 hv2
  obtain ⟨bb, V2, rfl, rfl, hk25, hk0, hB, hI2⟩ := hS v2 w2 hv2
  refine z_v1 ?_
  refine z_istore (lv' := [(6, _), (5, _), (4, _), (0, _), (1, _), (2, _), (3, _)]) C dL_law_837 (rfl : 837 + 2 = 839) (by decide) rfl ?_
  refine z_aload_n C 5 rfl rfl dL_law_839 (rfl : 839 + 1 = 840) ?_
  refine z_callV C (cells + 2) (slots + 12) c_X6_thrown gL_law_X6_thrown rfl hd83_X6_thrown ⟨Nat.le_of_ble_eq_true rfl, Nat.le_of_ble_eq_true rfl⟩ xmm rfl rfl (Nat.le_of_ble_eq_true rfl) dL_law_840 (rfl : 840 + 3 = 843) rfl rfl ⟨by show cells + 2 ≤ 601024; omega, by show slots + 12 ≤ 7293034; omega⟩ (fun _ _ h => h.elim) ?_ rfl
  rintro _ _ ⟨rfl, rfl⟩
  refine z_v1 ?_
  rw [hk25]
  refine z_iload C 1 rfl dL_law_843 (rfl : 843 + 2 = 845) ?_
  refine z_icmp_eq (pt := 850) C dL_law_845 (by decide) (rfl : 845 + 3 = 848) (Iff.rfl).1 (fun q => mt (Iff.rfl).2 q) (fun c6 => ?_) (fun c6 => ?_)
  rotate_left
  · exact absurd rfl c6
  refine z_iload C 1 rfl dL_law_850 (rfl : 850 + 2 = 852) ?_
  refine z_if_ne (pt := 867) C dL_law_852 (by decide) (rfl : 852 + 3 = 855) (fun q => mt (iI_eq0 (by omega)).2 q) (iI_eq0 (by omega)).1 (fun c7 => ?_) (fun c7 => ?_)
  · refine z_goto (pc' := 1936) C dL_law_867 (by decide) ?_
    refine z_widen (k := cells + 6) (n := slots + 260) (by omega) (by omega) ?_
    exact z_sub [2, 3, 4, 5, 6] rfl (kk _ hI2)
  refine z_aload_n C 6 rfl rfl dL_law_855 (rfl : 855 + 1 = 856) ?_
  refine z_iconst C dL_law_856 (rfl : 856 + 1 = 857) ?_
  refine z_lald C (x := fo' 0) (List.mem_append_right _ List.mem_cons_self) ⟨by omega, by omega⟩ (by omega) rfl dL_law_857 (rfl : 857 + 1 = 858) ?_
  refine z_iload C 0 rfl dL_law_858 (rfl : 858 + 2 = 860) ?_
  refine z_i2l C rfl dL_law_860 (rfl : 860 + 1 = 861) ?_
  refine z_lcmp C dL_law_861 (rfl : 861 + 1 = 862) (fun _ => ?_) (fun c8 _ _ => absurd (hk0 c7) c8)
  refine z_if_eq (pt := 867) C dL_law_862 (by decide) (rfl : 862 + 3 = 865) (iI_eq0 (by decide)).1 (fun q => mt (iI_eq0 (by decide)).2 q) (fun c9 => ?_) (fun c9 => ?_)
  rotate_left
  · exact absurd rfl c9
  refine z_goto (pc' := 1936) C dL_law_867 (by decide) ?_
  refine z_widen (k := cells + 6) (n := slots + 260) (by omega) (by omega) ?_
  exact z_sub [2, 3, 4, 5, 6] rfl (kk _ hI2)
theorem lc_errors (C : Cx κ cL_law 7 wsL_law RL (some .boolean) rmL_law G base) (hN : NcA (ks κ)) (S : SCR κ base b Ln xs) (hi : i + 5 ≤ Ln) (hL : Ln ≤ 2560) (hI : INV G q x qo w) (h1 : cells + 100 ≤ 601024) (h2 : slots + 500 ≤ 7293034)
    (kk : ∀ w', INV G q x qo w' → Z κ 7 G base mc ms post exc (cells + 6) (slots + 260) 1936 [(4, .int (iI (i : Int))), (0, .ref b), (1, .ref x), (2, .ref (q 30)), (3, .ref qo)] [] w') : Z κ 7 G base mc ms post exc cells slots 870 [(4, .int (iI (i : Int))), (0, .ref b), (1, .ref x), (2, .ref (q 30)), (3, .ref qo)] [] w := by
  obtain ⟨V, n, m, t, fo, L, K, I, F, R, N, O, T, g, rfl, rfl, h, hw, hb⟩ := hI
  obtain ⟨a1, r1, e1⟩ := iI_ex (xs (i + 1))
  obtain ⟨postW, hM, hW⟩ := pr_errors (l := kl κ) (base := base) (q := q) (qo := qo) (fo := fo) r1 h hw hb
  refine z_aload_n C 2 rfl rfl dL_law_870 (rfl : 870 + 1 = 871) ?_
  refine z_aload_n C 1 rfl rfl dL_law_871 (rfl : 871 + 1 = 872) ?_
  refine z_iload C 0 rfl dL_law_872 (rfl : 872 + 2 = 874) ?_
  refine z_iconst C dL_law_874 (rfl : 874 + 1 = 875) ?_
  refine z_iadd C dL_law_875 (rfl : 875 + 1 = 876) rfl ?_
  refine z_sld C (x := iI a1) S ⟨by omega, by omega⟩ (by omega) (by rw [show ((i : Int) + 1).toNat = i + 1 from by omega]; exact e1) dL_law_876 (rfl : 876 + 1 = 877) ?_
  refine z_aload_n C 4 rfl rfl dL_law_877 (rfl : 877 + 1 = 878) ?_
  refine z_callW C hN (cells + 1) (slots + 6) hM gL_law_L_errors rfl hd83_L_errors ⟨Nat.le_of_ble_eq_true rfl, Nat.le_of_ble_eq_true rfl⟩ rfl (Nat.le_of_ble_eq_true rfl) dL_law_878 (rfl : 878 + 3 = 881) rfl rfl ⟨by show cells + 1 ≤ 601024; omega, by show slots + 6 ≤ 7293034; omega⟩ ?_ rfl
  intro v w1 hv
  obtain ⟨k, fo', V1, Z0, hk, rfl, rfl, postR, hR, hS⟩ := hW v w1 hv
  refine z_v1 ?_
  refine z_istore (lv' := [(5, _), (4, _), (0, _), (1, _), (2, _), (3, _)]) C dL_law_881 (rfl : 881 + 2 = 883) (by decide) rfl ?_
  refine z_aload_n C 4 rfl rfl dL_law_883 (rfl : 883 + 1 = 884) ?_
  refine z_aload_n C 2 rfl rfl dL_law_884 (rfl : 884 + 1 = 885) ?_
  refine z_iload C 1 rfl dL_law_885 (rfl : 885 + 2 = 887) ?_
  refine z_iconst C dL_law_887 (rfl : 887 + 1 = 888) ?_
  refine z_iadd C dL_law_888 (rfl : 888 + 1 = 889) rfl ?_
  refine z_sld C (x := iI a1) S ⟨by omega, by omega⟩ (by omega) (by rw [show ((i : Int) + 1).toNat = i + 1 from by omega]; exact e1) dL_law_889 (rfl : 889 + 1 = 890) ?_
  refine z_callV C (cells + 1) (slots + 6) hR gL_law_X6_errors rfl hd83_X6_errors ⟨Nat.le_of_ble_eq_true rfl, Nat.le_of_ble_eq_true rfl⟩ xmm rfl rfl (Nat.le_of_ble_eq_true rfl) dL_law_890 (rfl : 890 + 3 = 893) rfl rfl ⟨by show cells + 1 ≤ 601024; omega, by show slots + 6 ≤ 7293034; omega⟩ (fun _ _ h => h.elim) ?_ rfl
  intro v2 w2 hv2
  obtain ⟨bb, V2, rfl, rfl, hk25, hk0, hB, hI2⟩ := hS v2 w2 hv2
  refine z_v1 ?_
  refine z_istore (lv' := [(6, _), (5, _), (4, _), (0, _), (1, _), (2, _), (3, _)]) C dL_law_893 (rfl : 893 + 2 = 895) (by decide) rfl ?_
  refine z_aload_n C 5 rfl rfl dL_law_895 (rfl : 895 + 1 = 896) ?_
  refine z_callV C (cells + 1) (slots + 6) c_X6_thrown gL_law_X6_thrown rfl hd83_X6_thrown ⟨Nat.le_of_ble_eq_true rfl, Nat.le_of_ble_eq_true rfl⟩ xmm rfl rfl (Nat.le_of_ble_eq_true rfl) dL_law_896 (rfl : 896 + 3 = 899) rfl rfl ⟨by show cells + 1 ≤ 601024; omega, by show slots + 6 ≤ 7293034; omega⟩ (fun _ _ h => h.elim) ?_ rfl
  rintro _ _ ⟨rfl, rfl⟩
  refine z_v1 ?_
  rw [hk25]
  refine z_iload C 1 rfl dL_law_899 (rfl : 899 + 2 = 901) ?_
  refine z_icmp_eq (pt := 906) C dL_law_901 (by decide) (rfl : 901 + 3 = 904) (Iff.rfl).1 (fun q => mt (Iff.rfl).2 q) (fun c6 => ?_) (fun c6 => ?_)
  rotate_left
  · exact absurd rfl c6
  refine z_iload C 1 rfl dL_law_906 (rfl : 906 + 2 = 908) ?_
  refine z_if_ne (pt := 923) C dL_law_908 (by decide) (rfl : 908 + 3 = 911) (fun q => mt (iI_eq0 (by omega)).2 q) (iI_eq0 (by omega)).1 (fun c7 => ?_) (fun c7 => ?_)
  · refine z_goto (pc' := 1936) C dL_law_923 (by decide) ?_
    refine z_widen (k := cells + 6) (n := slots + 260) (by omega) (by omega) ?_
    exact z_sub [2, 3, 4, 5, 6] rfl (kk _ hI2)
  refine z_aload_n C 6 rfl rfl dL_law_911 (rfl : 911 + 1 = 912) ?_
  refine z_iconst C dL_law_912 (rfl : 912 + 1 = 913) ?_
  refine z_lald C (x := fo' 0) (List.mem_append_right _ List.mem_cons_self) ⟨by omega, by omega⟩ (by omega) rfl dL_law_913 (rfl : 913 + 1 = 914) ?_
  refine z_iload C 0 rfl dL_law_914 (rfl : 914 + 2 = 916) ?_
  refine z_i2l C rfl dL_law_916 (rfl : 916 + 1 = 917) ?_
  refine z_lcmp C dL_law_917 (rfl : 917 + 1 = 918) (fun _ => ?_) (fun c8 _ _ => absurd (hk0 c7) c8)
  refine z_if_eq (pt := 923) C dL_law_918 (by decide) (rfl : 918 + 3 = 921) (iI_eq0 (by decide)).1 (fun q => mt (iI_eq0 (by decide)).2 q) (fun c9 => ?_) (fun c9 => ?_)
  rotate_left
  · exact absurd rfl c9
  refine z_goto (pc' := 1936) C dL_law_923 (by decide) ?_
  refine z_widen (k := cells + 6) (n := slots + 260) (by omega) (by omega) ?_
  exact z_sub [2, 3, 4, 5, 6] rfl (kk _ hI2)
theorem lc_shared (C : Cx κ cL_law 7 wsL_law RL (some .boolean) rmL_law G base) (hN : NcA (ks κ)) (S : SCR κ base b Ln xs) (hi : i + 5 ≤ Ln) (hL : Ln ≤ 2560) (hI : INV G q x qo w) (h1 : cells + 100 ≤ 601024) (h2 : slots + 500 ≤ 7293034)
    (kk : ∀ w', INV G q x qo w' → Z κ 7 G base mc ms post exc (cells + 6) (slots + 260) 1936 [(4, .int (iI (i : Int))), (0, .ref b), (1, .ref x), (2, .ref (q 30)), (3, .ref qo)] [] w') : Z κ 7 G base mc ms post exc cells slots 926 [(4, .int (iI (i : Int))), (0, .ref b), (1, .ref x), (2, .ref (q 30)), (3, .ref qo)] [] w := by
  obtain ⟨V, n, m, t, fo, L, K, I, F, R, N, O, T, g, rfl, rfl, h, hw, hb⟩ := hI
  obtain ⟨a1, r1, e1⟩ := iI_ex (xs (i + 1))
  obtain ⟨a2, r2, e2⟩ := iI_ex (xs (i + 2))
  obtain ⟨postW, hM, hW⟩ := pr_shared (l := kl κ) (base := base) (q := q) (qo := qo) (fo := fo) r1 r2 h hw hb
  refine z_aload_n C 2 rfl rfl dL_law_926 (rfl : 926 + 1 = 927) ?_
  refine z_aload_n C 1 rfl rfl dL_law_927 (rfl : 927 + 1 = 928) ?_
  refine z_iload C 0 rfl dL_law_928 (rfl : 928 + 2 = 930) ?_
  refine z_iconst C dL_law_930 (rfl : 930 + 1 = 931) ?_
  refine z_iadd C dL_law_931 (rfl : 931 + 1 = 932) rfl ?_
  refine z_sld C (x := iI a1) S ⟨by omega, by omega⟩ (by omega) (by rw [show ((i : Int) + 1).toNat = i + 1 from by omega]; exact e1) dL_law_932 (rfl : 932 + 1 = 933) ?_
  refine z_aload_n C 1 rfl rfl dL_law_933 (rfl : 933 + 1 = 934) ?_
  refine z_iload C 0 rfl dL_law_934 (rfl : 934 + 2 = 936) ?_
  refine z_iconst C dL_law_936 (rfl : 936 + 1 = 937) ?_
  refine z_iadd C dL_law_937 (rfl : 937 + 1 = 938) rfl ?_
  refine z_sld C (x := iI a2) S ⟨by omega, by omega⟩ (by omega) (by rw [show ((i : Int) + 2).toNat = i + 2 from by omega]; exact e2) dL_law_938 (rfl : 938 + 1 = 939) ?_
  refine z_aload_n C 4 rfl rfl dL_law_939 (rfl : 939 + 1 = 940) ?_
  refine z_callW C hN (cells + 2) (slots + 12) hM gL_law_L_shared rfl hd83_L_shared ⟨Nat.le_of_ble_eq_true rfl, Nat.le_of_ble_eq_true rfl⟩ rfl (Nat.le_of_ble_eq_true rfl) dL_law_940 (rfl : 940 + 3 = 943) rfl rfl ⟨by show cells + 2 ≤ 601024; omega, by show slots + 12 ≤ 7293034; omega⟩ ?_ rfl
  intro v w1 hv
  obtain ⟨k, fo', V1, Z0, hk, rfl, rfl, postR, hR, hS⟩ := hW v w1 hv
  refine z_v1 ?_
  refine z_istore (lv' := [(5, _), (4, _), (0, _), (1, _), (2, _), (3, _)]) C dL_law_943 (rfl : 943 + 2 = 945) (by decide) rfl ?_
  refine z_aload_n C 4 rfl rfl dL_law_945 (rfl : 945 + 1 = 946) ?_
  refine z_aload_n C 2 rfl rfl dL_law_946 (rfl : 946 + 1 = 947) ?_
  refine z_iload C 1 rfl dL_law_947 (rfl : 947 + 2 = 949) ?_
  refine z_iconst C dL_law_949 (rfl : 949 + 1 = 950) ?_
  refine z_iadd C dL_law_950 (rfl : 950 + 1 = 951) rfl ?_
  refine z_sld C (x := iI a1) S ⟨by omega, by omega⟩ (by omega) (by rw [show ((i : Int) + 1).toNat = i + 1 from by omega]; exact e1) dL_law_951 (rfl : 951 + 1 = 952) ?_
  refine z_aload_n C 2 rfl rfl dL_law_952 (rfl : 952 + 1 = 953) ?_
  refine z_iload C 1 rfl dL_law_953 (rfl : 953 + 2 = 955) ?_
  refine z_iconst C dL_law_955 (rfl : 955 + 1 = 956) ?_
  refine z_iadd C dL_law_956 (rfl : 956 + 1 = 957) rfl ?_
  refine z_sld C (x := iI a2) S ⟨by omega, by omega⟩ (by omega) (by rw [show ((i : Int) + 2).toNat = i + 2 from by omega]; exact e2) dL_law_957 (rfl : 957 + 1 = 958) ?_
  refine z_callV C (cells + 2) (slots + 12) hR gL_law_X6_shared rfl hd83_X6_shared ⟨Nat.le_of_ble_eq_true rfl, Nat.le_of_ble_eq_true rfl⟩ xmm rfl rfl (Nat.le_of_ble_eq_true rfl) dL_law_958 (rfl : 958 + 3 = 961) rfl rfl ⟨by show cells + 2 ≤ 601024; omega, by show slots + 12 ≤ 7293034; omega⟩ (fun _ _ h => h.elim) ?_ rfl
  intro v2 w2 hv2
  obtain ⟨bb, V2, rfl, rfl, hk25, hk0, hB, hI2⟩ := hS v2 w2 hv2
  refine z_v1 ?_
  refine z_istore (lv' := [(6, _), (5, _), (4, _), (0, _), (1, _), (2, _), (3, _)]) C dL_law_961 (rfl : 961 + 2 = 963) (by decide) rfl ?_
  refine z_aload_n C 5 rfl rfl dL_law_963 (rfl : 963 + 1 = 964) ?_
  refine z_callV C (cells + 2) (slots + 12) c_X6_thrown gL_law_X6_thrown rfl hd83_X6_thrown ⟨Nat.le_of_ble_eq_true rfl, Nat.le_of_ble_eq_true rfl⟩ xmm rfl rfl (Nat.le_of_ble_eq_true rfl) dL_law_964 (rfl : 964 + 3 = 967) rfl rfl ⟨by show cells + 2 ≤ 601024; omega, by show slots + 12 ≤ 7293034; omega⟩ (fun _ _ h => h.elim) ?_ rfl
  rintro _ _ ⟨rfl, rfl⟩
  refine z_v1 ?_
  rw [hk25]
  refine z_iload C 1 rfl dL_law_967 (rfl : 967 + 2 = 969) ?_
  refine z_icmp_eq (pt := 974) C dL_law_969 (by decide) (rfl : 969 + 3 = 972) (Iff.rfl).1 (fun q => mt (Iff.rfl).2 q) (fun c6 => ?_) (fun c6 => ?_)
  rotate_left
  · exact absurd rfl c6
  refine z_iload C 1 rfl dL_law_974 (rfl : 974 + 2 = 976) ?_
  refine z_if_ne (pt := 991) C dL_law_976 (by decide) (rfl : 976 + 3 = 979) (fun q => mt (iI_eq0 (by omega)).2 q) (iI_eq0 (by omega)).1 (fun c7 => ?_) (fun c7 => ?_)
  · refine z_goto (pc' := 1936) C dL_law_991 (by decide) ?_
    refine z_widen (k := cells + 6) (n := slots + 260) (by omega) (by omega) ?_
    exact z_sub [2, 3, 4, 5, 6] rfl (kk _ hI2)
  refine z_aload_n C 6 rfl rfl dL_law_979 (rfl : 979 + 1 = 980) ?_
  refine z_iconst C dL_law_980 (rfl : 980 + 1 = 981) ?_
  refine z_lald C (x := fo' 0) (List.mem_append_right _ List.mem_cons_self) ⟨by omega, by omega⟩ (by omega) rfl dL_law_981 (rfl : 981 + 1 = 982) ?_
  refine z_iload C 0 rfl dL_law_982 (rfl : 982 + 2 = 984) ?_
  refine z_i2l C rfl dL_law_984 (rfl : 984 + 1 = 985) ?_
  refine z_lcmp C dL_law_985 (rfl : 985 + 1 = 986) (fun _ => ?_) (fun c8 _ _ => absurd (hk0 c7) c8)
  refine z_if_eq (pt := 991) C dL_law_986 (by decide) (rfl : 986 + 3 = 989) (iI_eq0 (by decide)).1 (fun q => mt (iI_eq0 (by decide)).2 q) (fun c9 => ?_) (fun c9 => ?_)
  rotate_left
  · exact absurd rfl c9
  refine z_goto (pc' := 1936) C dL_law_991 (by decide) ?_
  refine z_widen (k := cells + 6) (n := slots + 260) (by omega) (by omega) ?_
  exact z_sub [2, 3, 4, 5, 6] rfl (kk _ hI2)
theorem lc_houseOf (C : Cx κ cL_law 7 wsL_law RL (some .boolean) rmL_law G base) (hN : NcA (ks κ)) (S : SCR κ base b Ln xs) (hi : i + 5 ≤ Ln) (hL : Ln ≤ 2560) (hI : INV G q x qo w) (h1 : cells + 100 ≤ 601024) (h2 : slots + 500 ≤ 7293034)
    (kk : ∀ w', INV G q x qo w' → Z κ 7 G base mc ms post exc (cells + 6) (slots + 260) 1936 [(4, .int (iI (i : Int))), (0, .ref b), (1, .ref x), (2, .ref (q 30)), (3, .ref qo)] [] w') : Z κ 7 G base mc ms post exc cells slots 994 [(4, .int (iI (i : Int))), (0, .ref b), (1, .ref x), (2, .ref (q 30)), (3, .ref qo)] [] w := by
  obtain ⟨V, n, m, t, fo, L, K, I, F, R, N, O, T, g, rfl, rfl, h, hw, hb⟩ := hI
  obtain ⟨a1, r1, e1⟩ := iI_ex (xs (i + 1))
  obtain ⟨postW, hM, hW⟩ := pr_houseOf (l := kl κ) (base := base) (q := q) (qo := qo) (fo := fo) r1 h hw hb
  refine z_aload_n C 2 rfl rfl dL_law_994 (rfl : 994 + 1 = 995) ?_
  refine z_aload_n C 1 rfl rfl dL_law_995 (rfl : 995 + 1 = 996) ?_
  refine z_iload C 0 rfl dL_law_996 (rfl : 996 + 2 = 998) ?_
  refine z_iconst C dL_law_998 (rfl : 998 + 1 = 999) ?_
  refine z_iadd C dL_law_999 (rfl : 999 + 1 = 1000) rfl ?_
  refine z_sld C (x := iI a1) S ⟨by omega, by omega⟩ (by omega) (by rw [show ((i : Int) + 1).toNat = i + 1 from by omega]; exact e1) dL_law_1000 (rfl : 1000 + 1 = 1001) ?_
  refine z_aload_n C 4 rfl rfl dL_law_1001 (rfl : 1001 + 1 = 1002) ?_
  refine z_callW C hN (cells + 1) (slots + 6) hM gL_law_L_houseOf rfl hd83_L_houseOf ⟨Nat.le_of_ble_eq_true rfl, Nat.le_of_ble_eq_true rfl⟩ rfl (Nat.le_of_ble_eq_true rfl) dL_law_1002 (rfl : 1002 + 3 = 1005) rfl rfl ⟨by show cells + 1 ≤ 601024; omega, by show slots + 6 ≤ 7293034; omega⟩ ?_ rfl
  intro v w1 hv
  obtain ⟨k, fo', V1, Z0, hk, rfl, rfl, postR, hR, hS⟩ := hW v w1 hv
  refine z_v1 ?_
  refine z_istore (lv' := [(5, _), (4, _), (0, _), (1, _), (2, _), (3, _)]) C dL_law_1005 (rfl : 1005 + 2 = 1007) (by decide) rfl ?_
  refine z_aload_n C 4 rfl rfl dL_law_1007 (rfl : 1007 + 1 = 1008) ?_
  refine z_aload_n C 2 rfl rfl dL_law_1008 (rfl : 1008 + 1 = 1009) ?_
  refine z_iload C 1 rfl dL_law_1009 (rfl : 1009 + 2 = 1011) ?_
  refine z_iconst C dL_law_1011 (rfl : 1011 + 1 = 1012) ?_
  refine z_iadd C dL_law_1012 (rfl : 1012 + 1 = 1013) rfl ?_
  refine z_sld C (x := iI a1) S ⟨by omega, by omega⟩ (by omega) (by rw [show ((i : Int) + 1).toNat = i + 1 from by omega]; exact e1) dL_law_1013 (rfl : 1013 + 1 = 1014) ?_
  refine z_callV C (cells + 1) (slots + 6) hR gL_law_X6_houseOf rfl hd83_X6_houseOf ⟨Nat.le_of_ble_eq_true rfl, Nat.le_of_ble_eq_true rfl⟩ xmm rfl rfl (Nat.le_of_ble_eq_true rfl) dL_law_1014 (rfl : 1014 + 3 = 1017) rfl rfl ⟨by show cells + 1 ≤ 601024; omega, by show slots + 6 ≤ 7293034; omega⟩ (fun _ _ h => h.elim) ?_ rfl
  intro v2 w2 hv2
  obtain ⟨bb, V2, rfl, rfl, hk25, hk0, hB, hI2⟩ := hS v2 w2 hv2
  refine z_v1 ?_
  refine z_istore (lv' := [(6, _), (5, _), (4, _), (0, _), (1, _), (2, _), (3, _)]) C dL_law_1017 (rfl : 1017 + 2 = 1019) (by decide) rfl ?_
  refine z_aload_n C 5 rfl rfl dL_law_1019 (rfl : 1019 + 1 = 1020) ?_
  refine z_callV C (cells + 1) (slots + 6) c_X6_thrown gL_law_X6_thrown rfl hd83_X6_thrown ⟨Nat.le_of_ble_eq_true rfl, Nat.le_of_ble_eq_true rfl⟩ xmm rfl rfl (Nat.le_of_ble_eq_true rfl) dL_law_1020 (rfl : 1020 + 3 = 1023) rfl rfl ⟨by show cells + 1 ≤ 601024; omega, by show slots + 6 ≤ 7293034; omega⟩ (fun _ _ h => h.elim) ?_ rfl
  rintro _ _ ⟨rfl, rfl⟩
  refine z_v1 ?_
  rw [hk25]
  refine z_iload C 1 rfl dL_law_1023 (rfl : 1023 + 2 = 1025) ?_
  refine z_icmp_eq (pt := 1030) C dL_law_1025 (by decide) (rfl : 1025 + 3 = 1028) (Iff.rfl).1 (fun q => mt (Iff.rfl).2 q) (fun c6 => ?_) (fun c6 => ?_)
  rotate_left
  · exact absurd rfl c6
  refine z_iload C 1 rfl dL_law_1030 (rfl : 1030 + 2 = 1032) ?_
  refine z_if_ne (pt := 1047) C dL_law_1032 (by decide) (rfl : 1032 + 3 = 1035) (fun q => mt (iI_eq0 (by omega)).2 q) (iI_eq0 (by omega)).1 (fun c7 => ?_) (fun c7 => ?_)
  · refine z_goto (pc' := 1936) C dL_law_1047 (by decide) ?_
    refine z_widen (k := cells + 6) (n := slots + 260) (by omega) (by omega) ?_
    exact z_sub [2, 3, 4, 5, 6] rfl (kk _ hI2)
  refine z_aload_n C 6 rfl rfl dL_law_1035 (rfl : 1035 + 1 = 1036) ?_
  refine z_iconst C dL_law_1036 (rfl : 1036 + 1 = 1037) ?_
  refine z_lald C (x := fo' 0) (List.mem_append_right _ List.mem_cons_self) ⟨by omega, by omega⟩ (by omega) rfl dL_law_1037 (rfl : 1037 + 1 = 1038) ?_
  refine z_iload C 0 rfl dL_law_1038 (rfl : 1038 + 2 = 1040) ?_
  refine z_i2l C rfl dL_law_1040 (rfl : 1040 + 1 = 1041) ?_
  refine z_lcmp C dL_law_1041 (rfl : 1041 + 1 = 1042) (fun _ => ?_) (fun c8 _ _ => absurd (hk0 c7) c8)
  refine z_if_eq (pt := 1047) C dL_law_1042 (by decide) (rfl : 1042 + 3 = 1045) (iI_eq0 (by decide)).1 (fun q => mt (iI_eq0 (by decide)).2 q) (fun c9 => ?_) (fun c9 => ?_)
  rotate_left
  · exact absurd rfl c9
  refine z_goto (pc' := 1936) C dL_law_1047 (by decide) ?_
  refine z_widen (k := cells + 6) (n := slots + 260) (by omega) (by omega) ?_
  exact z_sub [2, 3, 4, 5, 6] rfl (kk _ hI2)
theorem lc_ownerOf (C : Cx κ cL_law 7 wsL_law RL (some .boolean) rmL_law G base) (hN : NcA (ks κ)) (S : SCR κ base b Ln xs) (hi : i + 5 ≤ Ln) (hL : Ln ≤ 2560) (hI : INV G q x qo w) (h1 : cells + 100 ≤ 601024) (h2 : slots + 500 ≤ 7293034)
    (kk : ∀ w', INV G q x qo w' → Z κ 7 G base mc ms post exc (cells + 6) (slots + 260) 1936 [(4, .int (iI (i : Int))), (0, .ref b), (1, .ref x), (2, .ref (q 30)), (3, .ref qo)] [] w') : Z κ 7 G base mc ms post exc cells slots 1050 [(4, .int (iI (i : Int))), (0, .ref b), (1, .ref x), (2, .ref (q 30)), (3, .ref qo)] [] w := by
  obtain ⟨V, n, m, t, fo, L, K, I, F, R, N, O, T, g, rfl, rfl, h, hw, hb⟩ := hI
  obtain ⟨a1, r1, e1⟩ := iI_ex (xs (i + 1))
  obtain ⟨postW, hM, hW⟩ := pr_ownerOf (l := kl κ) (base := base) (q := q) (qo := qo) (fo := fo) r1 h hw hb
  refine z_aload_n C 2 rfl rfl dL_law_1050 (rfl : 1050 + 1 = 1051) ?_
  refine z_aload_n C 1 rfl rfl dL_law_1051 (rfl : 1051 + 1 = 1052) ?_
  refine z_iload C 0 rfl dL_law_1052 (rfl : 1052 + 2 = 1054) ?_
  refine z_iconst C dL_law_1054 (rfl : 1054 + 1 = 1055) ?_
  refine z_iadd C dL_law_1055 (rfl : 1055 + 1 = 1056) rfl ?_
  refine z_sld C (x := iI a1) S ⟨by omega, by omega⟩ (by omega) (by rw [show ((i : Int) + 1).toNat = i + 1 from by omega]; exact e1) dL_law_1056 (rfl : 1056 + 1 = 1057) ?_
  refine z_aload_n C 4 rfl rfl dL_law_1057 (rfl : 1057 + 1 = 1058) ?_
  refine z_callW C hN (cells + 1) (slots + 6) hM gL_law_L_ownerOf rfl hd83_L_ownerOf ⟨Nat.le_of_ble_eq_true rfl, Nat.le_of_ble_eq_true rfl⟩ rfl (Nat.le_of_ble_eq_true rfl) dL_law_1058 (rfl : 1058 + 3 = 1061) rfl rfl ⟨by show cells + 1 ≤ 601024; omega, by show slots + 6 ≤ 7293034; omega⟩ ?_ rfl
  intro v w1 hv
  obtain ⟨k, fo', V1, Z0, hk, rfl, rfl, postR, hR, hS⟩ := hW v w1 hv
  refine z_v1 ?_
  refine z_istore (lv' := [(5, _), (4, _), (0, _), (1, _), (2, _), (3, _)]) C dL_law_1061 (rfl : 1061 + 2 = 1063) (by decide) rfl ?_
  refine z_aload_n C 4 rfl rfl dL_law_1063 (rfl : 1063 + 1 = 1064) ?_
  refine z_aload_n C 2 rfl rfl dL_law_1064 (rfl : 1064 + 1 = 1065) ?_
  refine z_iload C 1 rfl dL_law_1065 (rfl : 1065 + 2 = 1067) ?_
  refine z_iconst C dL_law_1067 (rfl : 1067 + 1 = 1068) ?_
  refine z_iadd C dL_law_1068 (rfl : 1068 + 1 = 1069) rfl ?_
  refine z_sld C (x := iI a1) S ⟨by omega, by omega⟩ (by omega) (by rw [show ((i : Int) + 1).toNat = i + 1 from by omega]; exact e1) dL_law_1069 (rfl : 1069 + 1 = 1070) ?_
  refine z_callV C (cells + 1) (slots + 6) hR gL_law_X6_ownerOf rfl hd83_X6_ownerOf ⟨Nat.le_of_ble_eq_true rfl, Nat.le_of_ble_eq_true rfl⟩ xmm rfl rfl (Nat.le_of_ble_eq_true rfl) dL_law_1070 (rfl : 1070 + 3 = 1073) rfl rfl ⟨by show cells + 1 ≤ 601024; omega, by show slots + 6 ≤ 7293034; omega⟩ (fun _ _ h => h.elim) ?_ rfl
  intro v2 w2 hv2
  obtain ⟨bb, V2, rfl, rfl, hk25, hk0, hB, hI2⟩ := hS v2 w2 hv2
  refine z_v1 ?_
  refine z_istore (lv' := [(6, _), (5, _), (4, _), (0, _), (1, _), (2, _), (3, _)]) C dL_law_1073 (rfl : 1073 + 2 = 1075) (by decide) rfl ?_
  refine z_aload_n C 5 rfl rfl dL_law_1075 (rfl : 1075 + 1 = 1076) ?_
  refine z_callV C (cells + 1) (slots + 6) c_X6_thrown gL_law_X6_thrown rfl hd83_X6_thrown ⟨Nat.le_of_ble_eq_true rfl, Nat.le_of_ble_eq_true rfl⟩ xmm rfl rfl (Nat.le_of_ble_eq_true rfl) dL_law_1076 (rfl : 1076 + 3 = 1079) rfl rfl ⟨by show cells + 1 ≤ 601024; omega, by show slots + 6 ≤ 7293034; omega⟩ (fun _ _ h => h.elim) ?_ rfl
  rintro _ _ ⟨rfl, rfl⟩
  refine z_v1 ?_
  rw [hk25]
  refine z_iload C 1 rfl dL_law_1079 (rfl : 1079 + 2 = 1081) ?_
  refine z_icmp_eq (pt := 1086) C dL_law_1081 (by decide) (rfl : 1081 + 3 = 1084) (Iff.rfl).1 (fun q => mt (Iff.rfl).2 q) (fun c6 => ?_) (fun c6 => ?_)
  rotate_left
  · exact absurd rfl c6
  refine z_iload C 1 rfl dL_law_1086 (rfl : 1086 + 2 = 1088) ?_
  refine z_if_ne (pt := 1103) C dL_law_1088 (by decide) (rfl : 1088 + 3 = 1091) (fun q => mt (iI_eq0 (by omega)).2 q) (iI_eq0 (by omega)).1 (fun c7 => ?_) (fun c7 => ?_)
  · refine z_goto (pc' := 1936) C dL_law_1103 (by decide) ?_
    refine z_widen (k := cells + 6) (n := slots + 260) (by omega) (by omega) ?_
    exact z_sub [2, 3, 4, 5, 6] rfl (kk _ hI2)
  refine z_aload_n C 6 rfl rfl dL_law_1091 (rfl : 1091 + 1 = 1092) ?_
  refine z_iconst C dL_law_1092 (rfl : 1092 + 1 = 1093) ?_
  refine z_lald C (x := fo' 0) (List.mem_append_right _ List.mem_cons_self) ⟨by omega, by omega⟩ (by omega) rfl dL_law_1093 (rfl : 1093 + 1 = 1094) ?_
  refine z_iload C 0 rfl dL_law_1094 (rfl : 1094 + 2 = 1096) ?_
  refine z_i2l C rfl dL_law_1096 (rfl : 1096 + 1 = 1097) ?_
  refine z_lcmp C dL_law_1097 (rfl : 1097 + 1 = 1098) (fun _ => ?_) (fun c8 _ _ => absurd (hk0 c7) c8)
  refine z_if_eq (pt := 1103) C dL_law_1098 (by decide) (rfl : 1098 + 3 = 1101) (iI_eq0 (by decide)).1 (fun q => mt (iI_eq0 (by decide)).2 q) (fun c9 => ?_) (fun c9 => ?_)
  rotate_left
  · exact absurd rfl c9
  refine z_goto (pc' := 1936) C dL_law_1103 (by decide) ?_
  refine z_widen (k := cells + 6) (n := slots + 260) (by omega) (by omega) ?_
  exact z_sub [2, 3, 4, 5, 6] rfl (kk _ hI2)
theorem lc_toldModel (C : Cx κ cL_law 7 wsL_law RL (some .boolean) rmL_law G base) (hN : NcA (ks κ)) (S : SCR κ base b Ln xs) (hi : i + 5 ≤ Ln) (hL : Ln ≤ 2560) (hI : INV G q x qo w) (h1 : cells + 100 ≤ 601024) (h2 : slots + 500 ≤ 7293034)
    (kk : ∀ w', INV G q x qo w' → Z κ 7 G base mc ms post exc (cells + 6) (slots + 260) 1936 [(4, .int (iI (i : Int))), (0, .ref b), (1, .ref x), (2, .ref (q 30)), (3, .ref qo)] [] w') : Z κ 7 G base mc ms post exc cells slots 1106 [(4, .int (iI (i : Int))), (0, .ref b), (1, .ref x), (2, .ref (q 30)), (3, .ref qo)] [] w := by
  obtain ⟨V, n, m, t, fo, L, K, I, F, R, N, O, T, g, rfl, rfl, h, hw, hb⟩ := hI
  obtain ⟨a1, r1, e1⟩ := iI_ex (xs (i + 1))
  obtain ⟨postW, hM, hW⟩ := pr_toldModel (l := kl κ) (base := base) (q := q) (qo := qo) (fo := fo) r1 h hw hb
  refine z_aload_n C 2 rfl rfl dL_law_1106 (rfl : 1106 + 1 = 1107) ?_
  refine z_aload_n C 1 rfl rfl dL_law_1107 (rfl : 1107 + 1 = 1108) ?_
  refine z_iload C 0 rfl dL_law_1108 (rfl : 1108 + 2 = 1110) ?_
  refine z_iconst C dL_law_1110 (rfl : 1110 + 1 = 1111) ?_
  refine z_iadd C dL_law_1111 (rfl : 1111 + 1 = 1112) rfl ?_
  refine z_sld C (x := iI a1) S ⟨by omega, by omega⟩ (by omega) (by rw [show ((i : Int) + 1).toNat = i + 1 from by omega]; exact e1) dL_law_1112 (rfl : 1112 + 1 = 1113) ?_
  refine z_aload_n C 4 rfl rfl dL_law_1113 (rfl : 1113 + 1 = 1114) ?_
  refine z_callW C hN (cells + 1) (slots + 6) hM gL_law_L_toldModel rfl hd83_L_toldModel ⟨Nat.le_of_ble_eq_true rfl, Nat.le_of_ble_eq_true rfl⟩ rfl (Nat.le_of_ble_eq_true rfl) dL_law_1114 (rfl : 1114 + 3 = 1117) rfl rfl ⟨by show cells + 1 ≤ 601024; omega, by show slots + 6 ≤ 7293034; omega⟩ ?_ rfl
  intro v w1 hv
  obtain ⟨k, fo', V1, Z0, hk, rfl, rfl, postR, hR, hS⟩ := hW v w1 hv
  refine z_v1 ?_
  refine z_istore (lv' := [(5, _), (4, _), (0, _), (1, _), (2, _), (3, _)]) C dL_law_1117 (rfl : 1117 + 2 = 1119) (by decide) rfl ?_
  refine z_aload_n C 4 rfl rfl dL_law_1119 (rfl : 1119 + 1 = 1120) ?_
  refine z_aload_n C 2 rfl rfl dL_law_1120 (rfl : 1120 + 1 = 1121) ?_
  refine z_iload C 1 rfl dL_law_1121 (rfl : 1121 + 2 = 1123) ?_
  refine z_iconst C dL_law_1123 (rfl : 1123 + 1 = 1124) ?_
  refine z_iadd C dL_law_1124 (rfl : 1124 + 1 = 1125) rfl ?_
  refine z_sld C (x := iI a1) S ⟨by omega, by omega⟩ (by omega) (by rw [show ((i : Int) + 1).toNat = i + 1 from by omega]; exact e1) dL_law_1125 (rfl : 1125 + 1 = 1126) ?_
  refine z_callV C (cells + 1) (slots + 6) hR gL_law_X6_toldModel rfl hd83_X6_toldModel ⟨Nat.le_of_ble_eq_true rfl, Nat.le_of_ble_eq_true rfl⟩ xmm rfl rfl (Nat.le_of_ble_eq_true rfl) dL_law_1126 (rfl : 1126 + 3 = 1129) rfl rfl ⟨by show cells + 1 ≤ 601024; omega, by show slots + 6 ≤ 7293034; omega⟩ (fun _ _ h => h.elim) ?_ rfl
  intro v2 w2 hv2
  obtain ⟨bb, V2, rfl, rfl, hk25, hk0, hB, hI2⟩ := hS v2 w2 hv2
  refine z_v1 ?_
  refine z_istore (lv' := [(6, _), (5, _), (4, _), (0, _), (1, _), (2, _), (3, _)]) C dL_law_1129 (rfl : 1129 + 2 = 1131) (by decide) rfl ?_
  refine z_aload_n C 5 rfl rfl dL_law_1131 (rfl : 1131 + 1 = 1132) ?_
  refine z_callV C (cells + 1) (slots + 6) c_X6_thrown gL_law_X6_thrown rfl hd83_X6_thrown ⟨Nat.le_of_ble_eq_true rfl, Nat.le_of_ble_eq_true rfl⟩ xmm rfl rfl (Nat.le_of_ble_eq_true rfl) dL_law_1132 (rfl : 1132 + 3 = 1135) rfl rfl ⟨by show cells + 1 ≤ 601024; omega, by show slots + 6 ≤ 7293034; omega⟩ (fun _ _ h => h.elim) ?_ rfl
  rintro _ _ ⟨rfl, rfl⟩
  refine z_v1 ?_
  rw [hk25]
  refine z_iload C 1 rfl dL_law_1135 (rfl : 1135 + 2 = 1137) ?_
  refine z_icmp_eq (pt := 1142) C dL_law_1137 (by decide) (rfl : 1137 + 3 = 1140) (Iff.rfl).1 (fun q => mt (Iff.rfl).2 q) (fun c6 => ?_) (fun c6 => ?_)
  rotate_left
  · exact absurd rfl c6
  refine z_iload C 1 rfl dL_law_1142 (rfl : 1142 + 2 = 1144) ?_
  refine z_if_ne (pt := 1159) C dL_law_1144 (by decide) (rfl : 1144 + 3 = 1147) (fun q => mt (iI_eq0 (by omega)).2 q) (iI_eq0 (by omega)).1 (fun c7 => ?_) (fun c7 => ?_)
  · refine z_goto (pc' := 1936) C dL_law_1159 (by decide) ?_
    refine z_widen (k := cells + 6) (n := slots + 260) (by omega) (by omega) ?_
    exact z_sub [2, 3, 4, 5, 6] rfl (kk _ hI2)
  refine z_aload_n C 6 rfl rfl dL_law_1147 (rfl : 1147 + 1 = 1148) ?_
  refine z_iconst C dL_law_1148 (rfl : 1148 + 1 = 1149) ?_
  refine z_lald C (x := fo' 0) (List.mem_append_right _ List.mem_cons_self) ⟨by omega, by omega⟩ (by omega) rfl dL_law_1149 (rfl : 1149 + 1 = 1150) ?_
  refine z_iload C 0 rfl dL_law_1150 (rfl : 1150 + 2 = 1152) ?_
  refine z_i2l C rfl dL_law_1152 (rfl : 1152 + 1 = 1153) ?_
  refine z_lcmp C dL_law_1153 (rfl : 1153 + 1 = 1154) (fun _ => ?_) (fun c8 _ _ => absurd (hk0 c7) c8)
  refine z_if_eq (pt := 1159) C dL_law_1154 (by decide) (rfl : 1154 + 3 = 1157) (iI_eq0 (by decide)).1 (fun q => mt (iI_eq0 (by decide)).2 q) (fun c9 => ?_) (fun c9 => ?_)
  rotate_left
  · exact absurd rfl c9
  refine z_goto (pc' := 1936) C dL_law_1159 (by decide) ?_
  refine z_widen (k := cells + 6) (n := slots + 260) (by omega) (by omega) ?_
  exact z_sub [2, 3, 4, 5, 6] rfl (kk _ hI2)
theorem lc_slips (C : Cx κ cL_law 7 wsL_law RL (some .boolean) rmL_law G base) (hN : NcA (ks κ)) (S : SCR κ base b Ln xs) (hi : i + 5 ≤ Ln) (hL : Ln ≤ 2560) (hI : INV G q x qo w) (h1 : cells + 100 ≤ 601024) (h2 : slots + 500 ≤ 7293034)
    (kk : ∀ w', INV G q x qo w' → Z κ 7 G base mc ms post exc (cells + 6) (slots + 260) 1936 [(4, .int (iI (i : Int))), (0, .ref b), (1, .ref x), (2, .ref (q 30)), (3, .ref qo)] [] w') : Z κ 7 G base mc ms post exc cells slots 1162 [(4, .int (iI (i : Int))), (0, .ref b), (1, .ref x), (2, .ref (q 30)), (3, .ref qo)] [] w := by
  obtain ⟨V, n, m, t, fo, L, K, I, F, R, N, O, T, g, rfl, rfl, h, hw, hb⟩ := hI
  obtain ⟨a1, r1, e1⟩ := iI_ex (xs (i + 1))
  obtain ⟨postW, hM, hW⟩ := pr_slips (l := kl κ) (base := base) (q := q) (qo := qo) (fo := fo) r1 h hw hb
  refine z_aload_n C 2 rfl rfl dL_law_1162 (rfl : 1162 + 1 = 1163) ?_
  refine z_aload_n C 1 rfl rfl dL_law_1163 (rfl : 1163 + 1 = 1164) ?_
  refine z_iload C 0 rfl dL_law_1164 (rfl : 1164 + 2 = 1166) ?_
  refine z_iconst C dL_law_1166 (rfl : 1166 + 1 = 1167) ?_
  refine z_iadd C dL_law_1167 (rfl : 1167 + 1 = 1168) rfl ?_
  refine z_sld C (x := iI a1) S ⟨by omega, by omega⟩ (by omega) (by rw [show ((i : Int) + 1).toNat = i + 1 from by omega]; exact e1) dL_law_1168 (rfl : 1168 + 1 = 1169) ?_
  refine z_aload_n C 4 rfl rfl dL_law_1169 (rfl : 1169 + 1 = 1170) ?_
  refine z_callW C hN (cells + 1) (slots + 6) hM gL_law_L_slips rfl hd83_L_slips ⟨Nat.le_of_ble_eq_true rfl, Nat.le_of_ble_eq_true rfl⟩ rfl (Nat.le_of_ble_eq_true rfl) dL_law_1170 (rfl : 1170 + 3 = 1173) rfl rfl ⟨by show cells + 1 ≤ 601024; omega, by show slots + 6 ≤ 7293034; omega⟩ ?_ rfl
  intro v w1 hv
  obtain ⟨k, fo', V1, Z0, hk, rfl, rfl, postR, hR, hS⟩ := hW v w1 hv
  refine z_v1 ?_
  refine z_istore (lv' := [(5, _), (4, _), (0, _), (1, _), (2, _), (3, _)]) C dL_law_1173 (rfl : 1173 + 2 = 1175) (by decide) rfl ?_
  refine z_aload_n C 4 rfl rfl dL_law_1175 (rfl : 1175 + 1 = 1176) ?_
  refine z_aload_n C 2 rfl rfl dL_law_1176 (rfl : 1176 + 1 = 1177) ?_
  refine z_iload C 1 rfl dL_law_1177 (rfl : 1177 + 2 = 1179) ?_
  refine z_iconst C dL_law_1179 (rfl : 1179 + 1 = 1180) ?_
  refine z_iadd C dL_law_1180 (rfl : 1180 + 1 = 1181) rfl ?_
  refine z_sld C (x := iI a1) S ⟨by omega, by omega⟩ (by omega) (by rw [show ((i : Int) + 1).toNat = i + 1 from by omega]; exact e1) dL_law_1181 (rfl : 1181 + 1 = 1182) ?_
  refine z_callV C (cells + 1) (slots + 6) hR gL_law_X6_slips rfl hd83_X6_slips ⟨Nat.le_of_ble_eq_true rfl, Nat.le_of_ble_eq_true rfl⟩ xmm rfl rfl (Nat.le_of_ble_eq_true rfl) dL_law_1182 (rfl : 1182 + 3 = 1185) rfl rfl ⟨by show cells + 1 ≤ 601024; omega, by show slots + 6 ≤ 7293034; omega⟩ (fun _ _ h => h.elim) ?_ rfl
  intro v2 w2 hv2
  obtain ⟨bb, V2, rfl, rfl, hk25, hk0, hB, hI2⟩ := hS v2 w2 hv2
  refine z_v1 ?_
  refine z_istore (lv' := [(6, _), (5, _), (4, _), (0, _), (1, _), (2, _), (3, _)]) C dL_law_1185 (rfl : 1185 + 2 = 1187) (by decide) rfl ?_
  refine z_aload_n C 5 rfl rfl dL_law_1187 (rfl : 1187 + 1 = 1188) ?_
  refine z_callV C (cells + 1) (slots + 6) c_X6_thrown gL_law_X6_thrown rfl hd83_X6_thrown ⟨Nat.le_of_ble_eq_true rfl, Nat.le_of_ble_eq_true rfl⟩ xmm rfl rfl (Nat.le_of_ble_eq_true rfl) dL_law_1188 (rfl : 1188 + 3 = 1191) rfl rfl ⟨by show cells + 1 ≤ 601024; omega, by show slots + 6 ≤ 7293034; omega⟩ (fun _ _ h => h.elim) ?_ rfl
  rintro _ _ ⟨rfl, rfl⟩
  refine z_v1 ?_
  rw [hk25]
  refine z_iload C 1 rfl dL_law_1191 (rfl : 1191 + 2 = 1193) ?_
  refine z_icmp_eq (pt := 1198) C dL_law_1193 (by decide) (rfl : 1193 + 3 = 1196) (Iff.rfl).1 (fun q => mt (Iff.rfl).2 q) (fun c6 => ?_) (fun c6 => ?_)
  rotate_left
  · exact absurd rfl c6
  refine z_iload C 1 rfl dL_law_1198 (rfl : 1198 + 2 = 1200) ?_
  refine z_if_ne (pt := 1215) C dL_law_1200 (by decide) (rfl : 1200 + 3 = 1203) (fun q => mt (iI_eq0 (by omega)).2 q) (iI_eq0 (by omega)).1 (fun c7 => ?_) (fun c7 => ?_)
  · refine z_goto (pc' := 1936) C dL_law_1215 (by decide) ?_
    refine z_widen (k := cells + 6) (n := slots + 260) (by omega) (by omega) ?_
    exact z_sub [2, 3, 4, 5, 6] rfl (kk _ hI2)
  refine z_aload_n C 6 rfl rfl dL_law_1203 (rfl : 1203 + 1 = 1204) ?_
  refine z_iconst C dL_law_1204 (rfl : 1204 + 1 = 1205) ?_
  refine z_lald C (x := fo' 0) (List.mem_append_right _ List.mem_cons_self) ⟨by omega, by omega⟩ (by omega) rfl dL_law_1205 (rfl : 1205 + 1 = 1206) ?_
  refine z_iload C 0 rfl dL_law_1206 (rfl : 1206 + 2 = 1208) ?_
  refine z_i2l C rfl dL_law_1208 (rfl : 1208 + 1 = 1209) ?_
  refine z_lcmp C dL_law_1209 (rfl : 1209 + 1 = 1210) (fun _ => ?_) (fun c8 _ _ => absurd (hk0 c7) c8)
  refine z_if_eq (pt := 1215) C dL_law_1210 (by decide) (rfl : 1210 + 3 = 1213) (iI_eq0 (by decide)).1 (fun q => mt (iI_eq0 (by decide)).2 q) (fun c9 => ?_) (fun c9 => ?_)
  rotate_left
  · exact absurd rfl c9
  refine z_goto (pc' := 1936) C dL_law_1215 (by decide) ?_
  refine z_widen (k := cells + 6) (n := slots + 260) (by omega) (by omega) ?_
  exact z_sub [2, 3, 4, 5, 6] rfl (kk _ hI2)
theorem lc_family (C : Cx κ cL_law 7 wsL_law RL (some .boolean) rmL_law G base) (hN : NcA (ks κ)) (S : SCR κ base b Ln xs) (hi : i + 5 ≤ Ln) (hL : Ln ≤ 2560) (hI : INV G q x qo w) (h1 : cells + 100 ≤ 601024) (h2 : slots + 500 ≤ 7293034)
    (kk : ∀ w', INV G q x qo w' → Z κ 7 G base mc ms post exc (cells + 6) (slots + 260) 1936 [(4, .int (iI (i : Int))), (0, .ref b), (1, .ref x), (2, .ref (q 30)), (3, .ref qo)] [] w') : Z κ 7 G base mc ms post exc cells slots 1218 [(4, .int (iI (i : Int))), (0, .ref b), (1, .ref x), (2, .ref (q 30)), (3, .ref qo)] [] w := by
  obtain ⟨V, n, m, t, fo, L, K, I, F, R, N, O, T, g, rfl, rfl, h, hw, hb⟩ := hI
  obtain ⟨a1, r1, e1⟩ := iI_ex (xs (i + 1))
  obtain ⟨postW, hM, hW⟩ := pr_family (l := kl κ) (base := base) (q := q) (qo := qo) (fo := fo) r1 h hw hb
  refine z_aload_n C 2 rfl rfl dL_law_1218 (rfl : 1218 + 1 = 1219) ?_
  refine z_aload_n C 1 rfl rfl dL_law_1219 (rfl : 1219 + 1 = 1220) ?_
  refine z_iload C 0 rfl dL_law_1220 (rfl : 1220 + 2 = 1222) ?_
  refine z_iconst C dL_law_1222 (rfl : 1222 + 1 = 1223) ?_
  refine z_iadd C dL_law_1223 (rfl : 1223 + 1 = 1224) rfl ?_
  refine z_sld C (x := iI a1) S ⟨by omega, by omega⟩ (by omega) (by rw [show ((i : Int) + 1).toNat = i + 1 from by omega]; exact e1) dL_law_1224 (rfl : 1224 + 1 = 1225) ?_
  refine z_aload_n C 4 rfl rfl dL_law_1225 (rfl : 1225 + 1 = 1226) ?_
  refine z_callW C hN (cells + 1) (slots + 6) hM gL_law_L_family rfl hd83_L_family ⟨Nat.le_of_ble_eq_true rfl, Nat.le_of_ble_eq_true rfl⟩ rfl (Nat.le_of_ble_eq_true rfl) dL_law_1226 (rfl : 1226 + 3 = 1229) rfl rfl ⟨by show cells + 1 ≤ 601024; omega, by show slots + 6 ≤ 7293034; omega⟩ ?_ rfl
  intro v w1 hv
  obtain ⟨k, fo', V1, Z0, hk, rfl, rfl, postR, hR, hS⟩ := hW v w1 hv
  refine z_v1 ?_
  refine z_istore (lv' := [(5, _), (4, _), (0, _), (1, _), (2, _), (3, _)]) C dL_law_1229 (rfl : 1229 + 2 = 1231) (by decide) rfl ?_
  refine z_aload_n C 4 rfl rfl dL_law_1231 (rfl : 1231 + 1 = 1232) ?_
  refine z_aload_n C 2 rfl rfl dL_law_1232 (rfl : 1232 + 1 = 1233) ?_
  refine z_iload C 1 rfl dL_law_1233 (rfl : 1233 + 2 = 1235) ?_
  refine z_iconst C dL_law_1235 (rfl : 1235 + 1 = 1236) ?_
  refine z_iadd C dL_law_1236 (rfl : 1236 + 1 = 1237) rfl ?_
  refine z_sld C (x := iI a1) S ⟨by omega, by omega⟩ (by omega) (by rw [show ((i : Int) + 1).toNat = i + 1 from by omega]; exact e1) dL_law_1237 (rfl : 1237 + 1 = 1238) ?_
  refine z_callV C (cells + 1) (slots + 6) hR gL_law_X6_family rfl hd83_X6_family ⟨Nat.le_of_ble_eq_true rfl, Nat.le_of_ble_eq_true rfl⟩ xmm rfl rfl (Nat.le_of_ble_eq_true rfl) dL_law_1238 (rfl : 1238 + 3 = 1241) rfl rfl ⟨by show cells + 1 ≤ 601024; omega, by show slots + 6 ≤ 7293034; omega⟩ (fun _ _ h => h.elim) ?_ rfl
  intro v2 w2 hv2
  obtain ⟨bb, V2, rfl, rfl, hk25, hk0, hB, hI2⟩ := hS v2 w2 hv2
  refine z_v1 ?_
  refine z_istore (lv' := [(6, _), (5, _), (4, _), (0, _), (1, _), (2, _), (3, _)]) C dL_law_1241 (rfl : 1241 + 2 = 1243) (by decide) rfl ?_
  refine z_aload_n C 5 rfl rfl dL_law_1243 (rfl : 1243 + 1 = 1244) ?_
  refine z_callV C (cells + 1) (slots + 6) c_X6_thrown gL_law_X6_thrown rfl hd83_X6_thrown ⟨Nat.le_of_ble_eq_true rfl, Nat.le_of_ble_eq_true rfl⟩ xmm rfl rfl (Nat.le_of_ble_eq_true rfl) dL_law_1244 (rfl : 1244 + 3 = 1247) rfl rfl ⟨by show cells + 1 ≤ 601024; omega, by show slots + 6 ≤ 7293034; omega⟩ (fun _ _ h => h.elim) ?_ rfl
  rintro _ _ ⟨rfl, rfl⟩
  refine z_v1 ?_
  rw [hk25]
  refine z_iload C 1 rfl dL_law_1247 (rfl : 1247 + 2 = 1249) ?_
  refine z_icmp_eq (pt := 1254) C dL_law_1249 (by decide) (rfl : 1249 + 3 = 1252) (Iff.rfl).1 (fun q => mt (Iff.rfl).2 q) (fun c6 => ?_) (fun c6 => ?_)
  rotate_left
  · exact absurd rfl c6
  refine z_iload C 1 rfl dL_law_1254 (rfl : 1254 + 2 = 1256) ?_
  refine z_if_ne (pt := 1271) C dL_law_1256 (by decide) (rfl : 1256 + 3 = 1259) (fun q => mt (iI_eq0 (by omega)).2 q) (iI_eq0 (by omega)).1 (fun c7 => ?_) (fun c7 => ?_)
  · refine z_goto (pc' := 1936) C dL_law_1271 (by decide) ?_
    refine z_widen (k := cells + 6) (n := slots + 260) (by omega) (by omega) ?_
    exact z_sub [2, 3, 4, 5, 6] rfl (kk _ hI2)
  refine z_aload_n C 6 rfl rfl dL_law_1259 (rfl : 1259 + 1 = 1260) ?_
  refine z_iconst C dL_law_1260 (rfl : 1260 + 1 = 1261) ?_
  refine z_lald C (x := fo' 0) (List.mem_append_right _ List.mem_cons_self) ⟨by omega, by omega⟩ (by omega) rfl dL_law_1261 (rfl : 1261 + 1 = 1262) ?_
  refine z_iload C 0 rfl dL_law_1262 (rfl : 1262 + 2 = 1264) ?_
  refine z_i2l C rfl dL_law_1264 (rfl : 1264 + 1 = 1265) ?_
  refine z_lcmp C dL_law_1265 (rfl : 1265 + 1 = 1266) (fun _ => ?_) (fun c8 _ _ => absurd (hk0 c7) c8)
  refine z_if_eq (pt := 1271) C dL_law_1266 (by decide) (rfl : 1266 + 3 = 1269) (iI_eq0 (by decide)).1 (fun q => mt (iI_eq0 (by decide)).2 q) (fun c9 => ?_) (fun c9 => ?_)
  rotate_left
  · exact absurd rfl c9
  refine z_goto (pc' := 1936) C dL_law_1271 (by decide) ?_
  refine z_widen (k := cells + 6) (n := slots + 260) (by omega) (by omega) ?_
  exact z_sub [2, 3, 4, 5, 6] rfl (kk _ hI2)
theorem lc_familyByErrors (C : Cx κ cL_law 7 wsL_law RL (some .boolean) rmL_law G base) (hN : NcA (ks κ)) (S : SCR κ base b Ln xs) (hi : i + 5 ≤ Ln) (hL : Ln ≤ 2560) (hI : INV G q x qo w) (h1 : cells + 100 ≤ 601024) (h2 : slots + 500 ≤ 7293034)
    (kk : ∀ w', INV G q x qo w' → Z κ 7 G base mc ms post exc (cells + 6) (slots + 260) 1936 [(4, .int (iI (i : Int))), (0, .ref b), (1, .ref x), (2, .ref (q 30)), (3, .ref qo)] [] w') : Z κ 7 G base mc ms post exc cells slots 1274 [(4, .int (iI (i : Int))), (0, .ref b), (1, .ref x), (2, .ref (q 30)), (3, .ref qo)] [] w := by
  obtain ⟨V, n, m, t, fo, L, K, I, F, R, N, O, T, g, rfl, rfl, h, hw, hb⟩ := hI
  obtain ⟨a1, r1, e1⟩ := iI_ex (xs (i + 1))
  obtain ⟨postW, hM, hW⟩ := pr_familyByErrors (l := kl κ) (base := base) (q := q) (qo := qo) (fo := fo) r1 h hw hb
  refine z_aload_n C 2 rfl rfl dL_law_1274 (rfl : 1274 + 1 = 1275) ?_
  refine z_aload_n C 1 rfl rfl dL_law_1275 (rfl : 1275 + 1 = 1276) ?_
  refine z_iload C 0 rfl dL_law_1276 (rfl : 1276 + 2 = 1278) ?_
  refine z_iconst C dL_law_1278 (rfl : 1278 + 1 = 1279) ?_
  refine z_iadd C dL_law_1279 (rfl : 1279 + 1 = 1280) rfl ?_
  refine z_sld C (x := iI a1) S ⟨by omega, by omega⟩ (by omega) (by rw [show ((i : Int) + 1).toNat = i + 1 from by omega]; exact e1) dL_law_1280 (rfl : 1280 + 1 = 1281) ?_
  refine z_aload_n C 4 rfl rfl dL_law_1281 (rfl : 1281 + 1 = 1282) ?_
  refine z_callW C hN (cells + 1) (slots + 6) hM gL_law_L_familyByErrors rfl hd83_L_familyByErrors ⟨Nat.le_of_ble_eq_true rfl, Nat.le_of_ble_eq_true rfl⟩ rfl (Nat.le_of_ble_eq_true rfl) dL_law_1282 (rfl : 1282 + 3 = 1285) rfl rfl ⟨by show cells + 1 ≤ 601024; omega, by show slots + 6 ≤ 7293034; omega⟩ ?_ rfl
  intro v w1 hv
  obtain ⟨k, fo', V1, Z0, hk, rfl, rfl, postR, hR, hS⟩ := hW v w1 hv
  refine z_v1 ?_
  refine z_istore (lv' := [(5, _), (4, _), (0, _), (1, _), (2, _), (3, _)]) C dL_law_1285 (rfl : 1285 + 2 = 1287) (by decide) rfl ?_
  refine z_aload_n C 4 rfl rfl dL_law_1287 (rfl : 1287 + 1 = 1288) ?_
  refine z_aload_n C 2 rfl rfl dL_law_1288 (rfl : 1288 + 1 = 1289) ?_
  refine z_iload C 1 rfl dL_law_1289 (rfl : 1289 + 2 = 1291) ?_
  refine z_iconst C dL_law_1291 (rfl : 1291 + 1 = 1292) ?_
  refine z_iadd C dL_law_1292 (rfl : 1292 + 1 = 1293) rfl ?_
  refine z_sld C (x := iI a1) S ⟨by omega, by omega⟩ (by omega) (by rw [show ((i : Int) + 1).toNat = i + 1 from by omega]; exact e1) dL_law_1293 (rfl : 1293 + 1 = 1294) ?_
  refine z_callV C (cells + 1) (slots + 6) hR gL_law_X6_familyByErrors rfl hd83_X6_familyByErrors ⟨Nat.le_of_ble_eq_true rfl, Nat.le_of_ble_eq_true rfl⟩ xmm rfl rfl (Nat.le_of_ble_eq_true rfl) dL_law_1294 (rfl : 1294 + 3 = 1297) rfl rfl ⟨by show cells + 1 ≤ 601024; omega, by show slots + 6 ≤ 7293034; omega⟩ (fun _ _ h => h.elim) ?_ rfl
  intro v2 w2 hv2
  obtain ⟨bb, V2, rfl, rfl, hk25, hk0, hB, hI2⟩ := hS v2 w2 hv2
  refine z_v1 ?_
  refine z_istore (lv' := [(6, _), (5, _), (4, _), (0, _), (1, _), (2, _), (3, _)]) C dL_law_1297 (rfl : 1297 + 2 = 1299) (by decide) rfl ?_
  refine z_aload_n C 5 rfl rfl dL_law_1299 (rfl : 1299 + 1 = 1300) ?_
  refine z_callV C (cells + 1) (slots + 6) c_X6_thrown gL_law_X6_thrown rfl hd83_X6_thrown ⟨Nat.le_of_ble_eq_true rfl, Nat.le_of_ble_eq_true rfl⟩ xmm rfl rfl (Nat.le_of_ble_eq_true rfl) dL_law_1300 (rfl : 1300 + 3 = 1303) rfl rfl ⟨by show cells + 1 ≤ 601024; omega, by show slots + 6 ≤ 7293034; omega⟩ (fun _ _ h => h.elim) ?_ rfl
  rintro _ _ ⟨rfl, rfl⟩
  refine z_v1 ?_
  rw [hk25]
  refine z_iload C 1 rfl dL_law_1303 (rfl : 1303 + 2 = 1305) ?_
  refine z_icmp_eq (pt := 1310) C dL_law_1305 (by decide) (rfl : 1305 + 3 = 1308) (Iff.rfl).1 (fun q => mt (Iff.rfl).2 q) (fun c6 => ?_) (fun c6 => ?_)
  rotate_left
  · exact absurd rfl c6
  refine z_iload C 1 rfl dL_law_1310 (rfl : 1310 + 2 = 1312) ?_
  refine z_if_ne (pt := 1327) C dL_law_1312 (by decide) (rfl : 1312 + 3 = 1315) (fun q => mt (iI_eq0 (by omega)).2 q) (iI_eq0 (by omega)).1 (fun c7 => ?_) (fun c7 => ?_)
  · refine z_goto (pc' := 1936) C dL_law_1327 (by decide) ?_
    refine z_widen (k := cells + 6) (n := slots + 260) (by omega) (by omega) ?_
    exact z_sub [2, 3, 4, 5, 6] rfl (kk _ hI2)
  refine z_aload_n C 6 rfl rfl dL_law_1315 (rfl : 1315 + 1 = 1316) ?_
  refine z_iconst C dL_law_1316 (rfl : 1316 + 1 = 1317) ?_
  refine z_lald C (x := fo' 0) (List.mem_append_right _ List.mem_cons_self) ⟨by omega, by omega⟩ (by omega) rfl dL_law_1317 (rfl : 1317 + 1 = 1318) ?_
  refine z_iload C 0 rfl dL_law_1318 (rfl : 1318 + 2 = 1320) ?_
  refine z_i2l C rfl dL_law_1320 (rfl : 1320 + 1 = 1321) ?_
  refine z_lcmp C dL_law_1321 (rfl : 1321 + 1 = 1322) (fun _ => ?_) (fun c8 _ _ => absurd (hk0 c7) c8)
  refine z_if_eq (pt := 1327) C dL_law_1322 (by decide) (rfl : 1322 + 3 = 1325) (iI_eq0 (by decide)).1 (fun q => mt (iI_eq0 (by decide)).2 q) (fun c9 => ?_) (fun c9 => ?_)
  rotate_left
  · exact absurd rfl c9
  refine z_goto (pc' := 1936) C dL_law_1327 (by decide) ?_
  refine z_widen (k := cells + 6) (n := slots + 260) (by omega) (by omega) ?_
  exact z_sub [2, 3, 4, 5, 6] rfl (kk _ hI2)
theorem lc_families (C : Cx κ cL_law 7 wsL_law RL (some .boolean) rmL_law G base) (hN : NcA (ks κ)) (S : SCR κ base b Ln xs) (hi : i + 5 ≤ Ln) (hL : Ln ≤ 2560) (hI : INV G q x qo w) (h1 : cells + 100 ≤ 601024) (h2 : slots + 500 ≤ 7293034)
    (kk : ∀ w', INV G q x qo w' → Z κ 7 G base mc ms post exc (cells + 6) (slots + 260) 1936 [(4, .int (iI (i : Int))), (0, .ref b), (1, .ref x), (2, .ref (q 30)), (3, .ref qo)] [] w') : Z κ 7 G base mc ms post exc cells slots 1330 [(4, .int (iI (i : Int))), (0, .ref b), (1, .ref x), (2, .ref (q 30)), (3, .ref qo)] [] w := by
  obtain ⟨V, n, m, t, fo, L, K, I, F, R, N, O, T, g, rfl, rfl, h, hw, hb⟩ := hI
  obtain ⟨postC, hM, hW⟩ := pr_families (l := kl κ) (base := base) (q := q) (qo := qo) (fo := fo) h hw hb
  refine z_aload_n C 2 rfl rfl dL_law_1330 (rfl : 1330 + 1 = 1331) ?_
  refine z_callV C cells slots hM gL_law_X5_families rfl hd83_X5_families ⟨Nat.le_of_ble_eq_true rfl, Nat.le_of_ble_eq_true rfl⟩ (pwm_MC h.1.x8.1 h.1.x8.2.1) rfl rfl (Nat.le_of_ble_eq_true rfl) dL_law_1331 (rfl : 1331 + 3 = 1334) rfl rfl ⟨by show cells ≤ 601024; omega, by show slots ≤ 7293034; omega⟩ (fun _ _ h => h.elim) ?_ rfl
  intro v w1 hv
  obtain ⟨ans, V1, Y, rfl, rfl, postR, hR, hS⟩ := hW v w1 hv
  refine z_v1 ?_
  refine z_aload_n C 3 rfl rfl dL_law_1334 (rfl : 1334 + 1 = 1335) ?_
  refine z_callV C cells slots hR gL_law_X6_families rfl hd83_X6_families ⟨Nat.le_of_ble_eq_true rfl, Nat.le_of_ble_eq_true rfl⟩ xmm rfl rfl (Nat.le_of_ble_eq_true rfl) dL_law_1335 (rfl : 1335 + 3 = 1338) rfl rfl ⟨by show cells ≤ 601024; omega, by show slots ≤ 7293034; omega⟩ (fun _ _ h => h.elim) ?_ rfl
  intro v2 w2 hv2
  obtain ⟨rfl, hI2⟩ := hS v2 w2 hv2
  refine z_v1 ?_
  refine z_icmp_eq (pt := 1936) C dL_law_1338 (by decide) (rfl : 1338 + 3 = 1341) (Iff.rfl).1 (fun q => mt (Iff.rfl).2 q) (fun c6 => ?_) (fun c6 => ?_)
  rotate_left
  · exact absurd rfl c6
  refine z_widen (k := cells + 6) (n := slots + 260) (by omega) (by omega) ?_
  exact kk _ hI2
theorem lc_guess (C : Cx κ cL_law 7 wsL_law RL (some .boolean) rmL_law G base) (hN : NcA (ks κ)) (S : SCR κ base b Ln xs) (hi : i + 5 ≤ Ln) (hL : Ln ≤ 2560) (hI : INV G q x qo w) (h1 : cells + 100 ≤ 601024) (h2 : slots + 500 ≤ 7293034)
    (kk : ∀ w', INV G q x qo w' → Z κ 7 G base mc ms post exc (cells + 6) (slots + 260) 1936 [(4, .int (iI (i : Int))), (0, .ref b), (1, .ref x), (2, .ref (q 30)), (3, .ref qo)] [] w') : Z κ 7 G base mc ms post exc cells slots 1343 [(4, .int (iI (i : Int))), (0, .ref b), (1, .ref x), (2, .ref (q 30)), (3, .ref qo)] [] w := by
  obtain ⟨V, n, m, t, fo, L, K, I, F, R, N, O, T, g, rfl, rfl, h, hw, hb⟩ := hI
  obtain ⟨a1, r1, e1⟩ := iI_ex (xs (i + 1))
  obtain ⟨postW, hM, hW⟩ := pr_guess (l := kl κ) (base := base) (q := q) (qo := qo) (fo := fo) r1 h hw hb
  refine z_aload_n C 2 rfl rfl dL_law_1343 (rfl : 1343 + 1 = 1344) ?_
  refine z_aload_n C 1 rfl rfl dL_law_1344 (rfl : 1344 + 1 = 1345) ?_
  refine z_iload C 0 rfl dL_law_1345 (rfl : 1345 + 2 = 1347) ?_
  refine z_iconst C dL_law_1347 (rfl : 1347 + 1 = 1348) ?_
  refine z_iadd C dL_law_1348 (rfl : 1348 + 1 = 1349) rfl ?_
  refine z_sld C (x := iI a1) S ⟨by omega, by omega⟩ (by omega) (by rw [show ((i : Int) + 1).toNat = i + 1 from by omega]; exact e1) dL_law_1349 (rfl : 1349 + 1 = 1350) ?_
  refine z_aload_n C 4 rfl rfl dL_law_1350 (rfl : 1350 + 1 = 1351) ?_
  refine z_callW C hN (cells + 1) (slots + 6) hM gL_law_L_guess rfl hd83_L_guess ⟨Nat.le_of_ble_eq_true rfl, Nat.le_of_ble_eq_true rfl⟩ rfl (Nat.le_of_ble_eq_true rfl) dL_law_1351 (rfl : 1351 + 3 = 1354) rfl rfl ⟨by show cells + 1 ≤ 601024; omega, by show slots + 6 ≤ 7293034; omega⟩ ?_ rfl
  intro v w1 hv
  obtain ⟨k, fo', V1, Z0, hk, rfl, rfl, postR, hR, hS⟩ := hW v w1 hv
  refine z_v1 ?_
  refine z_istore (lv' := [(5, _), (4, _), (0, _), (1, _), (2, _), (3, _)]) C dL_law_1354 (rfl : 1354 + 2 = 1356) (by decide) rfl ?_
  refine z_aload_n C 4 rfl rfl dL_law_1356 (rfl : 1356 + 1 = 1357) ?_
  refine z_aload_n C 2 rfl rfl dL_law_1357 (rfl : 1357 + 1 = 1358) ?_
  refine z_iload C 1 rfl dL_law_1358 (rfl : 1358 + 2 = 1360) ?_
  refine z_iconst C dL_law_1360 (rfl : 1360 + 1 = 1361) ?_
  refine z_iadd C dL_law_1361 (rfl : 1361 + 1 = 1362) rfl ?_
  refine z_sld C (x := iI a1) S ⟨by omega, by omega⟩ (by omega) (by rw [show ((i : Int) + 1).toNat = i + 1 from by omega]; exact e1) dL_law_1362 (rfl : 1362 + 1 = 1363) ?_
  refine z_callV C (cells + 1) (slots + 6) hR gL_law_X6_guess rfl hd83_X6_guess ⟨Nat.le_of_ble_eq_true rfl, Nat.le_of_ble_eq_true rfl⟩ xmm rfl rfl (Nat.le_of_ble_eq_true rfl) dL_law_1363 (rfl : 1363 + 3 = 1366) rfl rfl ⟨by show cells + 1 ≤ 601024; omega, by show slots + 6 ≤ 7293034; omega⟩ (fun _ _ h => h.elim) ?_ rfl
  intro v2 w2 hv2
  obtain ⟨bb, V2, rfl, rfl, hk25, hk0, hB, hI2⟩ := hS v2 w2 hv2
  refine z_v1 ?_
  refine z_istore (lv' := [(6, _), (5, _), (4, _), (0, _), (1, _), (2, _), (3, _)]) C dL_law_1366 (rfl : 1366 + 2 = 1368) (by decide) rfl ?_
  refine z_aload_n C 5 rfl rfl dL_law_1368 (rfl : 1368 + 1 = 1369) ?_
  refine z_callV C (cells + 1) (slots + 6) c_X6_thrown gL_law_X6_thrown rfl hd83_X6_thrown ⟨Nat.le_of_ble_eq_true rfl, Nat.le_of_ble_eq_true rfl⟩ xmm rfl rfl (Nat.le_of_ble_eq_true rfl) dL_law_1369 (rfl : 1369 + 3 = 1372) rfl rfl ⟨by show cells + 1 ≤ 601024; omega, by show slots + 6 ≤ 7293034; omega⟩ (fun _ _ h => h.elim) ?_ rfl
  rintro _ _ ⟨rfl, rfl⟩
  refine z_v1 ?_
  rw [hk25]
  refine z_iload C 1 rfl dL_law_1372 (rfl : 1372 + 2 = 1374) ?_
  refine z_icmp_eq (pt := 1379) C dL_law_1374 (by decide) (rfl : 1374 + 3 = 1377) (Iff.rfl).1 (fun q => mt (Iff.rfl).2 q) (fun c6 => ?_) (fun c6 => ?_)
  rotate_left
  · exact absurd rfl c6
  refine z_iload C 1 rfl dL_law_1379 (rfl : 1379 + 2 = 1381) ?_
  refine z_if_ne (pt := 1396) C dL_law_1381 (by decide) (rfl : 1381 + 3 = 1384) (fun q => mt (iI_eq0 (by omega)).2 q) (iI_eq0 (by omega)).1 (fun c7 => ?_) (fun c7 => ?_)
  · refine z_goto (pc' := 1936) C dL_law_1396 (by decide) ?_
    refine z_widen (k := cells + 6) (n := slots + 260) (by omega) (by omega) ?_
    exact z_sub [2, 3, 4, 5, 6] rfl (kk _ hI2)
  refine z_aload_n C 6 rfl rfl dL_law_1384 (rfl : 1384 + 1 = 1385) ?_
  refine z_iconst C dL_law_1385 (rfl : 1385 + 1 = 1386) ?_
  refine z_lald C (x := fo' 0) (List.mem_append_right _ List.mem_cons_self) ⟨by omega, by omega⟩ (by omega) rfl dL_law_1386 (rfl : 1386 + 1 = 1387) ?_
  refine z_iload C 0 rfl dL_law_1387 (rfl : 1387 + 2 = 1389) ?_
  refine z_i2l C rfl dL_law_1389 (rfl : 1389 + 1 = 1390) ?_
  refine z_lcmp C dL_law_1390 (rfl : 1390 + 1 = 1391) (fun _ => ?_) (fun c8 _ _ => absurd (hk0 c7) c8)
  refine z_if_eq (pt := 1396) C dL_law_1391 (by decide) (rfl : 1391 + 3 = 1394) (iI_eq0 (by decide)).1 (fun q => mt (iI_eq0 (by decide)).2 q) (fun c9 => ?_) (fun c9 => ?_)
  rotate_left
  · exact absurd rfl c9
  refine z_goto (pc' := 1936) C dL_law_1396 (by decide) ?_
  refine z_widen (k := cells + 6) (n := slots + 260) (by omega) (by omega) ?_
  exact z_sub [2, 3, 4, 5, 6] rfl (kk _ hI2)
theorem lc_rightGuesses (C : Cx κ cL_law 7 wsL_law RL (some .boolean) rmL_law G base) (hN : NcA (ks κ)) (S : SCR κ base b Ln xs) (hi : i + 5 ≤ Ln) (hL : Ln ≤ 2560) (hI : INV G q x qo w) (h1 : cells + 100 ≤ 601024) (h2 : slots + 500 ≤ 7293034)
    (kk : ∀ w', INV G q x qo w' → Z κ 7 G base mc ms post exc (cells + 6) (slots + 260) 1936 [(4, .int (iI (i : Int))), (0, .ref b), (1, .ref x), (2, .ref (q 30)), (3, .ref qo)] [] w') : Z κ 7 G base mc ms post exc cells slots 1399 [(4, .int (iI (i : Int))), (0, .ref b), (1, .ref x), (2, .ref (q 30)), (3, .ref qo)] [] w := by
  obtain ⟨V, n, m, t, fo, L, K, I, F, R, N, O, T, g, rfl, rfl, h, hw, hb⟩ := hI
  obtain ⟨postC, hM, hW⟩ := pr_rightGuesses (l := kl κ) (base := base) (q := q) (qo := qo) (fo := fo) h hw hb
  refine z_aload_n C 2 rfl rfl dL_law_1399 (rfl : 1399 + 1 = 1400) ?_
  refine z_callV C cells slots hM gL_law_X5_rightGuesses rfl hd83_X5_rightGuesses ⟨Nat.le_of_ble_eq_true rfl, Nat.le_of_ble_eq_true rfl⟩ (pwm_MC h.1.x8.1 h.1.x8.2.1) rfl rfl (Nat.le_of_ble_eq_true rfl) dL_law_1400 (rfl : 1400 + 3 = 1403) rfl rfl ⟨by show cells ≤ 601024; omega, by show slots ≤ 7293034; omega⟩ (fun _ _ h => h.elim) ?_ rfl
  intro v w1 hv
  obtain ⟨ans, V1, Y, rfl, rfl, postR, hR, hS⟩ := hW v w1 hv
  refine z_v1 ?_
  refine z_aload_n C 3 rfl rfl dL_law_1403 (rfl : 1403 + 1 = 1404) ?_
  refine z_callV C cells slots hR gL_law_X6_rightGuesses rfl hd83_X6_rightGuesses ⟨Nat.le_of_ble_eq_true rfl, Nat.le_of_ble_eq_true rfl⟩ xmm rfl rfl (Nat.le_of_ble_eq_true rfl) dL_law_1404 (rfl : 1404 + 3 = 1407) rfl rfl ⟨by show cells ≤ 601024; omega, by show slots ≤ 7293034; omega⟩ (fun _ _ h => h.elim) ?_ rfl
  intro v2 w2 hv2
  obtain ⟨rfl, hI2⟩ := hS v2 w2 hv2
  refine z_v1 ?_
  refine z_icmp_eq (pt := 1936) C dL_law_1407 (by decide) (rfl : 1407 + 3 = 1410) (Iff.rfl).1 (fun q => mt (Iff.rfl).2 q) (fun c6 => ?_) (fun c6 => ?_)
  rotate_left
  · exact absurd rfl c6
  refine z_widen (k := cells + 6) (n := slots + 260) (by omega) (by omega) ?_
  exact kk _ hI2
theorem lc_spread (C : Cx κ cL_law 7 wsL_law RL (some .boolean) rmL_law G base) (hN : NcA (ks κ)) (S : SCR κ base b Ln xs) (hi : i + 5 ≤ Ln) (hL : Ln ≤ 2560) (hI : INV G q x qo w) (h1 : cells + 100 ≤ 601024) (h2 : slots + 500 ≤ 7293034)
    (kk : ∀ w', INV G q x qo w' → Z κ 7 G base mc ms post exc (cells + 6) (slots + 260) 1936 [(4, .int (iI (i : Int))), (0, .ref b), (1, .ref x), (2, .ref (q 30)), (3, .ref qo)] [] w') : Z κ 7 G base mc ms post exc cells slots 1412 [(4, .int (iI (i : Int))), (0, .ref b), (1, .ref x), (2, .ref (q 30)), (3, .ref qo)] [] w := by
  obtain ⟨V, n, m, t, fo, L, K, I, F, R, N, O, T, g, rfl, rfl, h, hw, hb⟩ := hI
  obtain ⟨a1, r1, e1⟩ := iI_ex (xs (i + 1))
  obtain ⟨a2, r2, e2⟩ := iI_ex (xs (i + 2))
  obtain ⟨postW, hM, hW⟩ := pr_spread (l := kl κ) (base := base) (q := q) (qo := qo) (fo := fo) r1 r2 h hw hb
  refine z_aload_n C 2 rfl rfl dL_law_1412 (rfl : 1412 + 1 = 1413) ?_
  refine z_aload_n C 1 rfl rfl dL_law_1413 (rfl : 1413 + 1 = 1414) ?_
  refine z_iload C 0 rfl dL_law_1414 (rfl : 1414 + 2 = 1416) ?_
  refine z_iconst C dL_law_1416 (rfl : 1416 + 1 = 1417) ?_
  refine z_iadd C dL_law_1417 (rfl : 1417 + 1 = 1418) rfl ?_
  refine z_sld C (x := iI a1) S ⟨by omega, by omega⟩ (by omega) (by rw [show ((i : Int) + 1).toNat = i + 1 from by omega]; exact e1) dL_law_1418 (rfl : 1418 + 1 = 1419) ?_
  refine z_aload_n C 1 rfl rfl dL_law_1419 (rfl : 1419 + 1 = 1420) ?_
  refine z_iload C 0 rfl dL_law_1420 (rfl : 1420 + 2 = 1422) ?_
  refine z_iconst C dL_law_1422 (rfl : 1422 + 1 = 1423) ?_
  refine z_iadd C dL_law_1423 (rfl : 1423 + 1 = 1424) rfl ?_
  refine z_sld C (x := iI a2) S ⟨by omega, by omega⟩ (by omega) (by rw [show ((i : Int) + 2).toNat = i + 2 from by omega]; exact e2) dL_law_1424 (rfl : 1424 + 1 = 1425) ?_
  refine z_aload_n C 4 rfl rfl dL_law_1425 (rfl : 1425 + 1 = 1426) ?_
  refine z_callW C hN (cells + 2) (slots + 12) hM gL_law_L_spread rfl hd83_L_spread ⟨Nat.le_of_ble_eq_true rfl, Nat.le_of_ble_eq_true rfl⟩ rfl (Nat.le_of_ble_eq_true rfl) dL_law_1426 (rfl : 1426 + 3 = 1429) rfl rfl ⟨by show cells + 2 ≤ 601024; omega, by show slots + 12 ≤ 7293034; omega⟩ ?_ rfl
  intro v w1 hv
  obtain ⟨k, fo', V1, Z0, hk, rfl, rfl, postR, hR, hS⟩ := hW v w1 hv
  refine z_v1 ?_
  refine z_istore (lv' := [(5, _), (4, _), (0, _), (1, _), (2, _), (3, _)]) C dL_law_1429 (rfl : 1429 + 2 = 1431) (by decide) rfl ?_
  refine z_aload_n C 4 rfl rfl dL_law_1431 (rfl : 1431 + 1 = 1432) ?_
  refine z_aload_n C 2 rfl rfl dL_law_1432 (rfl : 1432 + 1 = 1433) ?_
  refine z_iload C 1 rfl dL_law_1433 (rfl : 1433 + 2 = 1435) ?_
  refine z_iconst C dL_law_1435 (rfl : 1435 + 1 = 1436) ?_
  refine z_iadd C dL_law_1436 (rfl : 1436 + 1 = 1437) rfl ?_
  refine z_sld C (x := iI a1) S ⟨by omega, by omega⟩ (by omega) (by rw [show ((i : Int) + 1).toNat = i + 1 from by omega]; exact e1) dL_law_1437 (rfl : 1437 + 1 = 1438) ?_
  refine z_aload_n C 2 rfl rfl dL_law_1438 (rfl : 1438 + 1 = 1439) ?_
  refine z_iload C 1 rfl dL_law_1439 (rfl : 1439 + 2 = 1441) ?_
  refine z_iconst C dL_law_1441 (rfl : 1441 + 1 = 1442) ?_
  refine z_iadd C dL_law_1442 (rfl : 1442 + 1 = 1443) rfl ?_
  refine z_sld C (x := iI a2) S ⟨by omega, by omega⟩ (by omega) (by rw [show ((i : Int) + 2).toNat = i + 2 from by omega]; exact e2) dL_law_1443 (rfl : 1443 + 1 = 1444) ?_
  refine z_callV C (cells + 2) (slots + 12) hR gL_law_X6_spread rfl hd83_X6_spread ⟨Nat.le_of_ble_eq_true rfl, Nat.le_of_ble_eq_true rfl⟩ xmm rfl rfl (Nat.le_of_ble_eq_true rfl) dL_law_1444 (rfl : 1444 + 3 = 1447) rfl rfl ⟨by show cells + 2 ≤ 601024; omega, by show slots + 12 ≤ 7293034; omega⟩ (fun _ _ h => h.elim) ?_ rfl
  intro v2 w2 hv2
  obtain ⟨bb, V2, rfl, rfl, hk25, hk0, hB, hI2⟩ := hS v2 w2 hv2
  refine z_v1 ?_
  refine z_istore (lv' := [(6, _), (5, _), (4, _), (0, _), (1, _), (2, _), (3, _)]) C dL_law_1447 (rfl : 1447 + 2 = 1449) (by decide) rfl ?_
  refine z_aload_n C 5 rfl rfl dL_law_1449 (rfl : 1449 + 1 = 1450) ?_
  refine z_callV C (cells + 2) (slots + 12) c_X6_thrown gL_law_X6_thrown rfl hd83_X6_thrown ⟨Nat.le_of_ble_eq_true rfl, Nat.le_of_ble_eq_true rfl⟩ xmm rfl rfl (Nat.le_of_ble_eq_true rfl) dL_law_1450 (rfl : 1450 + 3 = 1453) rfl rfl ⟨by show cells + 2 ≤ 601024; omega, by show slots + 12 ≤ 7293034; omega⟩ (fun _ _ h => h.elim) ?_ rfl
  rintro _ _ ⟨rfl, rfl⟩
  refine z_v1 ?_
  rw [hk25]
  refine z_iload C 1 rfl dL_law_1453 (rfl : 1453 + 2 = 1455) ?_
  refine z_icmp_eq (pt := 1460) C dL_law_1455 (by decide) (rfl : 1455 + 3 = 1458) (Iff.rfl).1 (fun q => mt (Iff.rfl).2 q) (fun c6 => ?_) (fun c6 => ?_)
  rotate_left
  · exact absurd rfl c6
  refine z_iload C 1 rfl dL_law_1460 (rfl : 1460 + 2 = 1462) ?_
  refine z_if_ne (pt := 1477) C dL_law_1462 (by decide) (rfl : 1462 + 3 = 1465) (fun q => mt (iI_eq0 (by omega)).2 q) (iI_eq0 (by omega)).1 (fun c7 => ?_) (fun c7 => ?_)
  · refine z_goto (pc' := 1936) C dL_law_1477 (by decide) ?_
    refine z_widen (k := cells + 6) (n := slots + 260) (by omega) (by omega) ?_
    exact z_sub [2, 3, 4, 5, 6] rfl (kk _ hI2)
  refine z_aload_n C 6 rfl rfl dL_law_1465 (rfl : 1465 + 1 = 1466) ?_
  refine z_iconst C dL_law_1466 (rfl : 1466 + 1 = 1467) ?_
  refine z_lald C (x := fo' 0) (List.mem_append_right _ List.mem_cons_self) ⟨by omega, by omega⟩ (by omega) rfl dL_law_1467 (rfl : 1467 + 1 = 1468) ?_
  refine z_iload C 0 rfl dL_law_1468 (rfl : 1468 + 2 = 1470) ?_
  refine z_i2l C rfl dL_law_1470 (rfl : 1470 + 1 = 1471) ?_
  refine z_lcmp C dL_law_1471 (rfl : 1471 + 1 = 1472) (fun _ => ?_) (fun c8 _ _ => absurd (hk0 c7) c8)
  refine z_if_eq (pt := 1477) C dL_law_1472 (by decide) (rfl : 1472 + 3 = 1475) (iI_eq0 (by decide)).1 (fun q => mt (iI_eq0 (by decide)).2 q) (fun c9 => ?_) (fun c9 => ?_)
  rotate_left
  · exact absurd rfl c9
  refine z_goto (pc' := 1936) C dL_law_1477 (by decide) ?_
  refine z_widen (k := cells + 6) (n := slots + 260) (by omega) (by omega) ?_
  exact z_sub [2, 3, 4, 5, 6] rfl (kk _ hI2)
theorem lc_sources (C : Cx κ cL_law 7 wsL_law RL (some .boolean) rmL_law G base) (hN : NcA (ks κ)) (S : SCR κ base b Ln xs) (hi : i + 5 ≤ Ln) (hL : Ln ≤ 2560) (hI : INV G q x qo w) (h1 : cells + 100 ≤ 601024) (h2 : slots + 500 ≤ 7293034)
    (kk : ∀ w', INV G q x qo w' → Z κ 7 G base mc ms post exc (cells + 6) (slots + 260) 1936 [(4, .int (iI (i : Int))), (0, .ref b), (1, .ref x), (2, .ref (q 30)), (3, .ref qo)] [] w') : Z κ 7 G base mc ms post exc cells slots 1480 [(4, .int (iI (i : Int))), (0, .ref b), (1, .ref x), (2, .ref (q 30)), (3, .ref qo)] [] w := by
  obtain ⟨V, n, m, t, fo, L, K, I, F, R, N, O, T, g, rfl, rfl, h, hw, hb⟩ := hI
  obtain ⟨a1, r1, e1⟩ := iI_ex (xs (i + 1))
  obtain ⟨a2, r2, e2⟩ := iI_ex (xs (i + 2))
  obtain ⟨postW, hM, hW⟩ := pr_sources (l := kl κ) (base := base) (q := q) (qo := qo) (fo := fo) r1 r2 h hw hb
  refine z_aload_n C 2 rfl rfl dL_law_1480 (rfl : 1480 + 1 = 1481) ?_
  refine z_aload_n C 1 rfl rfl dL_law_1481 (rfl : 1481 + 1 = 1482) ?_
  refine z_iload C 0 rfl dL_law_1482 (rfl : 1482 + 2 = 1484) ?_
  refine z_iconst C dL_law_1484 (rfl : 1484 + 1 = 1485) ?_
  refine z_iadd C dL_law_1485 (rfl : 1485 + 1 = 1486) rfl ?_
  refine z_sld C (x := iI a1) S ⟨by omega, by omega⟩ (by omega) (by rw [show ((i : Int) + 1).toNat = i + 1 from by omega]; exact e1) dL_law_1486 (rfl : 1486 + 1 = 1487) ?_
  refine z_aload_n C 1 rfl rfl dL_law_1487 (rfl : 1487 + 1 = 1488) ?_
  refine z_iload C 0 rfl dL_law_1488 (rfl : 1488 + 2 = 1490) ?_
  refine z_iconst C dL_law_1490 (rfl : 1490 + 1 = 1491) ?_
  refine z_iadd C dL_law_1491 (rfl : 1491 + 1 = 1492) rfl ?_
  refine z_sld C (x := iI a2) S ⟨by omega, by omega⟩ (by omega) (by rw [show ((i : Int) + 2).toNat = i + 2 from by omega]; exact e2) dL_law_1492 (rfl : 1492 + 1 = 1493) ?_
  refine z_aload_n C 4 rfl rfl dL_law_1493 (rfl : 1493 + 1 = 1494) ?_
  refine z_callW C hN (cells + 2) (slots + 12) hM gL_law_L_sources rfl hd83_L_sources ⟨Nat.le_of_ble_eq_true rfl, Nat.le_of_ble_eq_true rfl⟩ rfl (Nat.le_of_ble_eq_true rfl) dL_law_1494 (rfl : 1494 + 3 = 1497) rfl rfl ⟨by show cells + 2 ≤ 601024; omega, by show slots + 12 ≤ 7293034; omega⟩ ?_ rfl
  intro v w1 hv
  obtain ⟨k, fo', V1, Z0, hk, rfl, rfl, postR, hR, hS⟩ := hW v w1 hv
  refine z_v1 ?_
  refine z_istore (lv' := [(5, _), (4, _), (0, _), (1, _), (2, _), (3, _)]) C dL_law_1497 (rfl : 1497 + 2 = 1499) (by decide) rfl ?_
  refine z_aload_n C 4 rfl rfl dL_law_1499 (rfl : 1499 + 1 = 1500) ?_
  refine z_aload_n C 2 rfl rfl dL_law_1500 (rfl : 1500 + 1 = 1501) ?_
  refine z_iload C 1 rfl dL_law_1501 (rfl : 1501 + 2 = 1503) ?_
  refine z_iconst C dL_law_1503 (rfl : 1503 + 1 = 1504) ?_
  refine z_iadd C dL_law_1504 (rfl : 1504 + 1 = 1505) rfl ?_
  refine z_sld C (x := iI a1) S ⟨by omega, by omega⟩ (by omega) (by rw [show ((i : Int) + 1).toNat = i + 1 from by omega]; exact e1) dL_law_1505 (rfl : 1505 + 1 = 1506) ?_
  refine z_aload_n C 2 rfl rfl dL_law_1506 (rfl : 1506 + 1 = 1507) ?_
  refine z_iload C 1 rfl dL_law_1507 (rfl : 1507 + 2 = 1509) ?_
  refine z_iconst C dL_law_1509 (rfl : 1509 + 1 = 1510) ?_
  refine z_iadd C dL_law_1510 (rfl : 1510 + 1 = 1511) rfl ?_
  refine z_sld C (x := iI a2) S ⟨by omega, by omega⟩ (by omega) (by rw [show ((i : Int) + 2).toNat = i + 2 from by omega]; exact e2) dL_law_1511 (rfl : 1511 + 1 = 1512) ?_
  refine z_callV C (cells + 2) (slots + 12) hR gL_law_X6_sources rfl hd83_X6_sources ⟨Nat.le_of_ble_eq_true rfl, Nat.le_of_ble_eq_true rfl⟩ xmm rfl rfl (Nat.le_of_ble_eq_true rfl) dL_law_1512 (rfl : 1512 + 3 = 1515) rfl rfl ⟨by show cells + 2 ≤ 601024; omega, by show slots + 12 ≤ 7293034; omega⟩ (fun _ _ h => h.elim) ?_ rfl
  intro v2 w2 hv2
  obtain ⟨bb, V2, rfl, rfl, hk25, hk0, hB, hI2⟩ := hS v2 w2 hv2
  refine z_v1 ?_
  refine z_istore (lv' := [(6, _), (5, _), (4, _), (0, _), (1, _), (2, _), (3, _)]) C dL_law_1515 (rfl : 1515 + 2 = 1517) (by decide) rfl ?_
  refine z_aload_n C 5 rfl rfl dL_law_1517 (rfl : 1517 + 1 = 1518) ?_
  refine z_callV C (cells + 2) (slots + 12) c_X6_thrown gL_law_X6_thrown rfl hd83_X6_thrown ⟨Nat.le_of_ble_eq_true rfl, Nat.le_of_ble_eq_true rfl⟩ xmm rfl rfl (Nat.le_of_ble_eq_true rfl) dL_law_1518 (rfl : 1518 + 3 = 1521) rfl rfl ⟨by show cells + 2 ≤ 601024; omega, by show slots + 12 ≤ 7293034; omega⟩ (fun _ _ h => h.elim) ?_ rfl
  rintro _ _ ⟨rfl, rfl⟩
  refine z_v1 ?_
  rw [hk25]
  refine z_iload C 1 rfl dL_law_1521 (rfl : 1521 + 2 = 1523) ?_
  refine z_icmp_eq (pt := 1528) C dL_law_1523 (by decide) (rfl : 1523 + 3 = 1526) (Iff.rfl).1 (fun q => mt (Iff.rfl).2 q) (fun c6 => ?_) (fun c6 => ?_)
  rotate_left
  · exact absurd rfl c6
  refine z_iload C 1 rfl dL_law_1528 (rfl : 1528 + 2 = 1530) ?_
  refine z_if_ne (pt := 1545) C dL_law_1530 (by decide) (rfl : 1530 + 3 = 1533) (fun q => mt (iI_eq0 (by omega)).2 q) (iI_eq0 (by omega)).1 (fun c7 => ?_) (fun c7 => ?_)
  · refine z_goto (pc' := 1936) C dL_law_1545 (by decide) ?_
    refine z_widen (k := cells + 6) (n := slots + 260) (by omega) (by omega) ?_
    exact z_sub [2, 3, 4, 5, 6] rfl (kk _ hI2)
  refine z_aload_n C 6 rfl rfl dL_law_1533 (rfl : 1533 + 1 = 1534) ?_
  refine z_iconst C dL_law_1534 (rfl : 1534 + 1 = 1535) ?_
  refine z_lald C (x := fo' 0) (List.mem_append_right _ List.mem_cons_self) ⟨by omega, by omega⟩ (by omega) rfl dL_law_1535 (rfl : 1535 + 1 = 1536) ?_
  refine z_iload C 0 rfl dL_law_1536 (rfl : 1536 + 2 = 1538) ?_
  refine z_i2l C rfl dL_law_1538 (rfl : 1538 + 1 = 1539) ?_
  refine z_lcmp C dL_law_1539 (rfl : 1539 + 1 = 1540) (fun _ => ?_) (fun c8 _ _ => absurd (hk0 c7) c8)
  refine z_if_eq (pt := 1545) C dL_law_1540 (by decide) (rfl : 1540 + 3 = 1543) (iI_eq0 (by decide)).1 (fun q => mt (iI_eq0 (by decide)).2 q) (fun c9 => ?_) (fun c9 => ?_)
  rotate_left
  · exact absurd rfl c9
  refine z_goto (pc' := 1936) C dL_law_1545 (by decide) ?_
  refine z_widen (k := cells + 6) (n := slots + 260) (by omega) (by omega) ?_
  exact z_sub [2, 3, 4, 5, 6] rfl (kk _ hI2)
theorem lc_letters (C : Cx κ cL_law 7 wsL_law RL (some .boolean) rmL_law G base) (hN : NcA (ks κ)) (S : SCR κ base b Ln xs) (hi : i + 5 ≤ Ln) (hL : Ln ≤ 2560) (hI : INV G q x qo w) (h1 : cells + 100 ≤ 601024) (h2 : slots + 500 ≤ 7293034)
    (kk : ∀ w', INV G q x qo w' → Z κ 7 G base mc ms post exc (cells + 6) (slots + 260) 1936 [(4, .int (iI (i : Int))), (0, .ref b), (1, .ref x), (2, .ref (q 30)), (3, .ref qo)] [] w') : Z κ 7 G base mc ms post exc cells slots 1548 [(4, .int (iI (i : Int))), (0, .ref b), (1, .ref x), (2, .ref (q 30)), (3, .ref qo)] [] w := by
  obtain ⟨V, n, m, t, fo, L, K, I, F, R, N, O, T, g, rfl, rfl, h, hw, hb⟩ := hI
  obtain ⟨postC, hM, hW⟩ := pr_letters (l := kl κ) (base := base) (q := q) (qo := qo) (fo := fo) h hw hb
  refine z_aload_n C 2 rfl rfl dL_law_1548 (rfl : 1548 + 1 = 1549) ?_
  refine z_callV C cells slots hM gL_law_X5_letters rfl hd83_X5_letters ⟨Nat.le_of_ble_eq_true rfl, Nat.le_of_ble_eq_true rfl⟩ (pwm_MC h.1.x8.1 h.1.x8.2.1) rfl rfl (Nat.le_of_ble_eq_true rfl) dL_law_1549 (rfl : 1549 + 3 = 1552) rfl rfl ⟨by show cells ≤ 601024; omega, by show slots ≤ 7293034; omega⟩ (fun _ _ h => h.elim) ?_ rfl
  intro v w1 hv
  obtain ⟨ans, V1, Y, rfl, rfl, postR, hR, hS⟩ := hW v w1 hv
  refine z_v1 ?_
  refine z_aload_n C 3 rfl rfl dL_law_1552 (rfl : 1552 + 1 = 1553) ?_
  refine z_callV C cells slots hR gL_law_X6_letters rfl hd83_X6_letters ⟨Nat.le_of_ble_eq_true rfl, Nat.le_of_ble_eq_true rfl⟩ xmm rfl rfl (Nat.le_of_ble_eq_true rfl) dL_law_1553 (rfl : 1553 + 3 = 1556) rfl rfl ⟨by show cells ≤ 601024; omega, by show slots ≤ 7293034; omega⟩ (fun _ _ h => h.elim) ?_ rfl
  intro v2 w2 hv2
  obtain ⟨rfl, hI2⟩ := hS v2 w2 hv2
  refine z_v1 ?_
  refine z_icmp_eq (pt := 1936) C dL_law_1556 (by decide) (rfl : 1556 + 3 = 1559) (Iff.rfl).1 (fun q => mt (Iff.rfl).2 q) (fun c6 => ?_) (fun c6 => ?_)
  rotate_left
  · exact absurd rfl c6
  refine z_widen (k := cells + 6) (n := slots + 260) (by omega) (by omega) ?_
  exact kk _ hI2
theorem lc_hasLetter (C : Cx κ cL_law 7 wsL_law RL (some .boolean) rmL_law G base) (hN : NcA (ks κ)) (S : SCR κ base b Ln xs) (hi : i + 5 ≤ Ln) (hL : Ln ≤ 2560) (hI : INV G q x qo w) (h1 : cells + 100 ≤ 601024) (h2 : slots + 500 ≤ 7293034)
    (kk : ∀ w', INV G q x qo w' → Z κ 7 G base mc ms post exc (cells + 6) (slots + 260) 1936 [(4, .int (iI (i : Int))), (0, .ref b), (1, .ref x), (2, .ref (q 30)), (3, .ref qo)] [] w') : Z κ 7 G base mc ms post exc cells slots 1561 [(4, .int (iI (i : Int))), (0, .ref b), (1, .ref x), (2, .ref (q 30)), (3, .ref qo)] [] w := by
  obtain ⟨V, n, m, t, fo, L, K, I, F, R, N, O, T, g, rfl, rfl, h, hw, hb⟩ := hI
  obtain ⟨a1, r1, e1⟩ := iI_ex (xs (i + 1))
  obtain ⟨a2, r2, e2⟩ := iI_ex (xs (i + 2))
  obtain ⟨postW, hM, hW⟩ := pr_hasLetter (l := kl κ) (base := base) (q := q) (qo := qo) (fo := fo) r1 r2 h hw hb
  refine z_aload_n C 2 rfl rfl dL_law_1561 (rfl : 1561 + 1 = 1562) ?_
  refine z_aload_n C 1 rfl rfl dL_law_1562 (rfl : 1562 + 1 = 1563) ?_
  refine z_iload C 0 rfl dL_law_1563 (rfl : 1563 + 2 = 1565) ?_
  refine z_iconst C dL_law_1565 (rfl : 1565 + 1 = 1566) ?_
  refine z_iadd C dL_law_1566 (rfl : 1566 + 1 = 1567) rfl ?_
  refine z_sld C (x := iI a1) S ⟨by omega, by omega⟩ (by omega) (by rw [show ((i : Int) + 1).toNat = i + 1 from by omega]; exact e1) dL_law_1567 (rfl : 1567 + 1 = 1568) ?_
  refine z_aload_n C 1 rfl rfl dL_law_1568 (rfl : 1568 + 1 = 1569) ?_
  refine z_iload C 0 rfl dL_law_1569 (rfl : 1569 + 2 = 1571) ?_
  refine z_iconst C dL_law_1571 (rfl : 1571 + 1 = 1572) ?_
  refine z_iadd C dL_law_1572 (rfl : 1572 + 1 = 1573) rfl ?_
  refine z_sld C (x := iI a2) S ⟨by omega, by omega⟩ (by omega) (by rw [show ((i : Int) + 2).toNat = i + 2 from by omega]; exact e2) dL_law_1573 (rfl : 1573 + 1 = 1574) ?_
  refine z_aload_n C 4 rfl rfl dL_law_1574 (rfl : 1574 + 1 = 1575) ?_
  refine z_callW C hN (cells + 2) (slots + 12) hM gL_law_L_hasLetter rfl hd83_L_hasLetter ⟨Nat.le_of_ble_eq_true rfl, Nat.le_of_ble_eq_true rfl⟩ rfl (Nat.le_of_ble_eq_true rfl) dL_law_1575 (rfl : 1575 + 3 = 1578) rfl rfl ⟨by show cells + 2 ≤ 601024; omega, by show slots + 12 ≤ 7293034; omega⟩ ?_ rfl
  intro v w1 hv
  obtain ⟨k, fo', V1, Z0, hk, rfl, rfl, postR, hR, hS⟩ := hW v w1 hv
  refine z_v1 ?_
  refine z_istore (lv' := [(5, _), (4, _), (0, _), (1, _), (2, _), (3, _)]) C dL_law_1578 (rfl : 1578 + 2 = 1580) (by decide) rfl ?_
  refine z_aload_n C 4 rfl rfl dL_law_1580 (rfl : 1580 + 1 = 1581) ?_
  refine z_aload_n C 2 rfl rfl dL_law_1581 (rfl : 1581 + 1 = 1582) ?_
  refine z_iload C 1 rfl dL_law_1582 (rfl : 1582 + 2 = 1584) ?_
  refine z_iconst C dL_law_1584 (rfl : 1584 + 1 = 1585) ?_
  refine z_iadd C dL_law_1585 (rfl : 1585 + 1 = 1586) rfl ?_
  refine z_sld C (x := iI a1) S ⟨by omega, by omega⟩ (by omega) (by rw [show ((i : Int) + 1).toNat = i + 1 from by omega]; exact e1) dL_law_1586 (rfl : 1586 + 1 = 1587) ?_
  refine z_aload_n C 2 rfl rfl dL_law_1587 (rfl : 1587 + 1 = 1588) ?_
  refine z_iload C 1 rfl dL_law_1588 (rfl : 1588 + 2 = 1590) ?_
  refine z_iconst C dL_law_1590 (rfl : 1590 + 1 = 1591) ?_
  refine z_iadd C dL_law_1591 (rfl : 1591 + 1 = 1592) rfl ?_
  refine z_sld C (x := iI a2) S ⟨by omega, by omega⟩ (by omega) (by rw [show ((i : Int) + 2).toNat = i + 2 from by omega]; exact e2) dL_law_1592 (rfl : 1592 + 1 = 1593) ?_
  refine z_callV C (cells + 2) (slots + 12) hR gL_law_X6_hasLetter rfl hd83_X6_hasLetter ⟨Nat.le_of_ble_eq_true rfl, Nat.le_of_ble_eq_true rfl⟩ xmm rfl rfl (Nat.le_of_ble_eq_true rfl) dL_law_1593 (rfl : 1593 + 3 = 1596) rfl rfl ⟨by show cells + 2 ≤ 601024; omega, by show slots + 12 ≤ 7293034; omega⟩ (fun _ _ h => h.elim) ?_ rfl
  intro v2 w2 hv2
  obtain ⟨bb, V2, rfl, rfl, hk25, hk0, hB, hI2⟩ := hS v2 w2 hv2
  refine z_v1 ?_
  refine z_istore (lv' := [(6, _), (5, _), (4, _), (0, _), (1, _), (2, _), (3, _)]) C dL_law_1596 (rfl : 1596 + 2 = 1598) (by decide) rfl ?_
  refine z_aload_n C 5 rfl rfl dL_law_1598 (rfl : 1598 + 1 = 1599) ?_
  refine z_callV C (cells + 2) (slots + 12) c_X6_thrown gL_law_X6_thrown rfl hd83_X6_thrown ⟨Nat.le_of_ble_eq_true rfl, Nat.le_of_ble_eq_true rfl⟩ xmm rfl rfl (Nat.le_of_ble_eq_true rfl) dL_law_1599 (rfl : 1599 + 3 = 1602) rfl rfl ⟨by show cells + 2 ≤ 601024; omega, by show slots + 12 ≤ 7293034; omega⟩ (fun _ _ h => h.elim) ?_ rfl
  rintro _ _ ⟨rfl, rfl⟩
  refine z_v1 ?_
  rw [hk25]
  refine z_iload C 1 rfl dL_law_1602 (rfl : 1602 + 2 = 1604) ?_
  refine z_icmp_eq (pt := 1609) C dL_law_1604 (by decide) (rfl : 1604 + 3 = 1607) (Iff.rfl).1 (fun q => mt (Iff.rfl).2 q) (fun c6 => ?_) (fun c6 => ?_)
  rotate_left
  · exact absurd rfl c6
  refine z_iload C 1 rfl dL_law_1609 (rfl : 1609 + 2 = 1611) ?_
  refine z_if_ne (pt := 1633) C dL_law_1611 (by decide) (rfl : 1611 + 3 = 1614) (fun q => mt (iI_eq0 (by omega)).2 q) (iI_eq0 (by omega)).1 (fun c7 => ?_) (fun c7 => ?_)
  · refine z_goto (pc' := 1936) C dL_law_1633 (by decide) ?_
    refine z_widen (k := cells + 6) (n := slots + 260) (by omega) (by omega) ?_
    exact z_sub [2, 3, 4, 5, 6] rfl (kk _ hI2)
  refine z_aload_n C 6 rfl rfl dL_law_1614 (rfl : 1614 + 1 = 1615) ?_
  refine z_iconst C dL_law_1615 (rfl : 1615 + 1 = 1616) ?_
  refine z_lald C (x := fo' 0) (List.mem_append_right _ List.mem_cons_self) ⟨by omega, by omega⟩ (by omega) rfl dL_law_1616 (rfl : 1616 + 1 = 1617) ?_
  refine z_iload C 0 rfl dL_law_1617 (rfl : 1617 + 2 = 1619) ?_
  have hb7 := hB c7
  have h07 := hk0 c7
  rcases hb7 with rfl | rfl
  · refine z_if_eq (pt := 1626) C dL_law_1619 (by decide) (rfl : 1619 + 3 = 1622) (iI_eq0 (by decide)).1 (fun q => mt (iI_eq0 (by decide)).2 q) (fun cb => ?_) (fun cb => ?_)
    rotate_left
    · exact absurd rfl cb
    refine z_lconst (v := 0) C (by decide) dL_law_1626 (rfl : 1626 + 1 = 1627) ?_
    refine z_lcmp C dL_law_1627 (rfl : 1627 + 1 = 1628) (fun _ => ?_) (fun c8 _ _ => absurd (h07.trans i64_0.symm) c8)
    refine z_if_eq (pt := 1633) C dL_law_1628 (by decide) (rfl : 1628 + 3 = 1631) (iI_eq0 (by decide)).1 (fun q => mt (iI_eq0 (by decide)).2 q) (fun c9 => ?_) (fun c9 => ?_)
    rotate_left
    · exact absurd rfl c9
    refine z_goto (pc' := 1936) C dL_law_1633 (by decide) ?_
    refine z_widen (k := cells + 6) (n := slots + 260) (by omega) (by omega) ?_
    exact z_sub [2, 3, 4, 5, 6] rfl (kk _ hI2)
  · refine z_if_eq (pt := 1626) C dL_law_1619 (by decide) (rfl : 1619 + 3 = 1622) (iI_eq0 (by decide)).1 (fun q => mt (iI_eq0 (by decide)).2 q) (fun cb => ?_) (fun cb => ?_)
    · exact absurd cb (by decide)
    refine z_lconst (v := 1) C (by decide) dL_law_1622 (rfl : 1622 + 1 = 1623) ?_
    refine z_goto (pc' := 1627) C dL_law_1623 (by decide) ?_
    refine z_lcmp C dL_law_1627 (rfl : 1627 + 1 = 1628) (fun _ => ?_) (fun c8 _ _ => absurd (h07.trans i64_1.symm) c8)
    refine z_if_eq (pt := 1633) C dL_law_1628 (by decide) (rfl : 1628 + 3 = 1631) (iI_eq0 (by decide)).1 (fun q => mt (iI_eq0 (by decide)).2 q) (fun c9 => ?_) (fun c9 => ?_)
    rotate_left
    · exact absurd rfl c9
    refine z_goto (pc' := 1936) C dL_law_1633 (by decide) ?_
    refine z_widen (k := cells + 6) (n := slots + 260) (by omega) (by omega) ?_
    exact z_sub [2, 3, 4, 5, 6] rfl (kk _ hI2)
theorem lc_letter (C : Cx κ cL_law 7 wsL_law RL (some .boolean) rmL_law G base) (hN : NcA (ks κ)) (S : SCR κ base b Ln xs) (hi : i + 5 ≤ Ln) (hL : Ln ≤ 2560) (hI : INV G q x qo w) (h1 : cells + 100 ≤ 601024) (h2 : slots + 500 ≤ 7293034)
    (kk : ∀ w', INV G q x qo w' → Z κ 7 G base mc ms post exc (cells + 6) (slots + 260) 1936 [(4, .int (iI (i : Int))), (0, .ref b), (1, .ref x), (2, .ref (q 30)), (3, .ref qo)] [] w') : Z κ 7 G base mc ms post exc cells slots 1636 [(4, .int (iI (i : Int))), (0, .ref b), (1, .ref x), (2, .ref (q 30)), (3, .ref qo)] [] w := by
  obtain ⟨V, n, m, t, fo, L, K, I, F, R, N, O, T, g, rfl, rfl, h, hw, hb⟩ := hI
  obtain ⟨a1, r1, e1⟩ := iI_ex (xs (i + 1))
  obtain ⟨postW, hM, hW⟩ := pr_letter (l := kl κ) (base := base) (q := q) (qo := qo) (fo := fo) r1 h hw hb
  refine z_aload_n C 2 rfl rfl dL_law_1636 (rfl : 1636 + 1 = 1637) ?_
  refine z_aload_n C 1 rfl rfl dL_law_1637 (rfl : 1637 + 1 = 1638) ?_
  refine z_iload C 0 rfl dL_law_1638 (rfl : 1638 + 2 = 1640) ?_
  refine z_iconst C dL_law_1640 (rfl : 1640 + 1 = 1641) ?_
  refine z_iadd C dL_law_1641 (rfl : 1641 + 1 = 1642) rfl ?_
  refine z_sld C (x := iI a1) S ⟨by omega, by omega⟩ (by omega) (by rw [show ((i : Int) + 1).toNat = i + 1 from by omega]; exact e1) dL_law_1642 (rfl : 1642 + 1 = 1643) ?_
  refine z_aload_n C 4 rfl rfl dL_law_1643 (rfl : 1643 + 1 = 1644) ?_
  refine z_callW C hN (cells + 1) (slots + 6) hM gL_law_L_letter rfl hd83_L_letter ⟨Nat.le_of_ble_eq_true rfl, Nat.le_of_ble_eq_true rfl⟩ rfl (Nat.le_of_ble_eq_true rfl) dL_law_1644 (rfl : 1644 + 3 = 1647) rfl rfl ⟨by show cells + 1 ≤ 601024; omega, by show slots + 6 ≤ 7293034; omega⟩ ?_ rfl
  intro v w1 hv
  obtain ⟨k, fo', V1, Z0, hk, rfl, rfl, postR, hR, hS⟩ := hW v w1 hv
  refine z_v1 ?_
  refine z_istore (lv' := [(5, _), (4, _), (0, _), (1, _), (2, _), (3, _)]) C dL_law_1647 (rfl : 1647 + 2 = 1649) (by decide) rfl ?_
  refine z_aload_n C 4 rfl rfl dL_law_1649 (rfl : 1649 + 1 = 1650) ?_
  refine z_aload_n C 2 rfl rfl dL_law_1650 (rfl : 1650 + 1 = 1651) ?_
  refine z_iload C 1 rfl dL_law_1651 (rfl : 1651 + 2 = 1653) ?_
  refine z_iconst C dL_law_1653 (rfl : 1653 + 1 = 1654) ?_
  refine z_iadd C dL_law_1654 (rfl : 1654 + 1 = 1655) rfl ?_
  refine z_sld C (x := iI a1) S ⟨by omega, by omega⟩ (by omega) (by rw [show ((i : Int) + 1).toNat = i + 1 from by omega]; exact e1) dL_law_1655 (rfl : 1655 + 1 = 1656) ?_
  refine z_callV C (cells + 1) (slots + 6) hR gL_law_X6_letter rfl hd83_X6_letter ⟨Nat.le_of_ble_eq_true rfl, Nat.le_of_ble_eq_true rfl⟩ xmm rfl rfl (Nat.le_of_ble_eq_true rfl) dL_law_1656 (rfl : 1656 + 3 = 1659) rfl rfl ⟨by show cells + 1 ≤ 601024; omega, by show slots + 6 ≤ 7293034; omega⟩ (fun _ _ h => h.elim) ?_ rfl
  intro v2 w2 hv2
  obtain ⟨bb, V2, rfl, rfl, hk25, hk0, hB, hI2⟩ := hS v2 w2 hv2
  refine z_v1 ?_
  refine z_istore (lv' := [(6, _), (5, _), (4, _), (0, _), (1, _), (2, _), (3, _)]) C dL_law_1659 (rfl : 1659 + 2 = 1661) (by decide) rfl ?_
  refine z_aload_n C 5 rfl rfl dL_law_1661 (rfl : 1661 + 1 = 1662) ?_
  refine z_callV C (cells + 1) (slots + 6) c_X6_thrown gL_law_X6_thrown rfl hd83_X6_thrown ⟨Nat.le_of_ble_eq_true rfl, Nat.le_of_ble_eq_true rfl⟩ xmm rfl rfl (Nat.le_of_ble_eq_true rfl) dL_law_1662 (rfl : 1662 + 3 = 1665) rfl rfl ⟨by show cells + 1 ≤ 601024; omega, by show slots + 6 ≤ 7293034; omega⟩ (fun _ _ h => h.elim) ?_ rfl
  rintro _ _ ⟨rfl, rfl⟩
  refine z_v1 ?_
  rw [hk25]
  refine z_iload C 1 rfl dL_law_1665 (rfl : 1665 + 2 = 1667) ?_
  refine z_icmp_eq (pt := 1672) C dL_law_1667 (by decide) (rfl : 1667 + 3 = 1670) (Iff.rfl).1 (fun q => mt (Iff.rfl).2 q) (fun c6 => ?_) (fun c6 => ?_)
  rotate_left
  · exact absurd rfl c6
  refine z_iload C 1 rfl dL_law_1672 (rfl : 1672 + 2 = 1674) ?_
  refine z_if_ne (pt := 1689) C dL_law_1674 (by decide) (rfl : 1674 + 3 = 1677) (fun q => mt (iI_eq0 (by omega)).2 q) (iI_eq0 (by omega)).1 (fun c7 => ?_) (fun c7 => ?_)
  · refine z_goto (pc' := 1936) C dL_law_1689 (by decide) ?_
    refine z_widen (k := cells + 6) (n := slots + 260) (by omega) (by omega) ?_
    exact z_sub [2, 3, 4, 5, 6] rfl (kk _ hI2)
  refine z_aload_n C 6 rfl rfl dL_law_1677 (rfl : 1677 + 1 = 1678) ?_
  refine z_iconst C dL_law_1678 (rfl : 1678 + 1 = 1679) ?_
  refine z_lald C (x := fo' 0) (List.mem_append_right _ List.mem_cons_self) ⟨by omega, by omega⟩ (by omega) rfl dL_law_1679 (rfl : 1679 + 1 = 1680) ?_
  refine z_iload C 0 rfl dL_law_1680 (rfl : 1680 + 2 = 1682) ?_
  refine z_i2l C rfl dL_law_1682 (rfl : 1682 + 1 = 1683) ?_
  refine z_lcmp C dL_law_1683 (rfl : 1683 + 1 = 1684) (fun _ => ?_) (fun c8 _ _ => absurd (hk0 c7) c8)
  refine z_if_eq (pt := 1689) C dL_law_1684 (by decide) (rfl : 1684 + 3 = 1687) (iI_eq0 (by decide)).1 (fun q => mt (iI_eq0 (by decide)).2 q) (fun c9 => ?_) (fun c9 => ?_)
  rotate_left
  · exact absurd rfl c9
  refine z_goto (pc' := 1936) C dL_law_1689 (by decide) ?_
  refine z_widen (k := cells + 6) (n := slots + 260) (by omega) (by omega) ?_
  exact z_sub [2, 3, 4, 5, 6] rfl (kk _ hI2)
theorem lc_loans (C : Cx κ cL_law 7 wsL_law RL (some .boolean) rmL_law G base) (hN : NcA (ks κ)) (S : SCR κ base b Ln xs) (hi : i + 5 ≤ Ln) (hL : Ln ≤ 2560) (hI : INV G q x qo w) (h1 : cells + 100 ≤ 601024) (h2 : slots + 500 ≤ 7293034)
    (kk : ∀ w', INV G q x qo w' → Z κ 7 G base mc ms post exc (cells + 6) (slots + 260) 1936 [(4, .int (iI (i : Int))), (0, .ref b), (1, .ref x), (2, .ref (q 30)), (3, .ref qo)] [] w') : Z κ 7 G base mc ms post exc cells slots 1692 [(4, .int (iI (i : Int))), (0, .ref b), (1, .ref x), (2, .ref (q 30)), (3, .ref qo)] [] w := by
  obtain ⟨V, n, m, t, fo, L, K, I, F, R, N, O, T, g, rfl, rfl, h, hw, hb⟩ := hI
  obtain ⟨postC, hM, hW⟩ := pr_loans (l := kl κ) (base := base) (q := q) (qo := qo) (fo := fo) h hw hb
  refine z_aload_n C 2 rfl rfl dL_law_1692 (rfl : 1692 + 1 = 1693) ?_
  refine z_callV C cells slots hM gL_law_X5_loans rfl hd83_X5_loans ⟨Nat.le_of_ble_eq_true rfl, Nat.le_of_ble_eq_true rfl⟩ (pwm_MC h.1.x8.1 h.1.x8.2.1) rfl rfl (Nat.le_of_ble_eq_true rfl) dL_law_1693 (rfl : 1693 + 3 = 1696) rfl rfl ⟨by show cells ≤ 601024; omega, by show slots ≤ 7293034; omega⟩ (fun _ _ h => h.elim) ?_ rfl
  intro v w1 hv
  obtain ⟨ans, V1, Y, rfl, rfl, postR, hR, hS⟩ := hW v w1 hv
  refine z_v1 ?_
  refine z_aload_n C 3 rfl rfl dL_law_1696 (rfl : 1696 + 1 = 1697) ?_
  refine z_callV C cells slots hR gL_law_X6_loans rfl hd83_X6_loans ⟨Nat.le_of_ble_eq_true rfl, Nat.le_of_ble_eq_true rfl⟩ xmm rfl rfl (Nat.le_of_ble_eq_true rfl) dL_law_1697 (rfl : 1697 + 3 = 1700) rfl rfl ⟨by show cells ≤ 601024; omega, by show slots ≤ 7293034; omega⟩ (fun _ _ h => h.elim) ?_ rfl
  intro v2 w2 hv2
  obtain ⟨rfl, hI2⟩ := hS v2 w2 hv2
  refine z_v1 ?_
  refine z_icmp_eq (pt := 1936) C dL_law_1700 (by decide) (rfl : 1700 + 3 = 1703) (Iff.rfl).1 (fun q => mt (Iff.rfl).2 q) (fun c6 => ?_) (fun c6 => ?_)
  rotate_left
  · exact absurd rfl c6
  refine z_widen (k := cells + 6) (n := slots + 260) (by omega) (by omega) ?_
  exact kk _ hI2
theorem lc_isBack (C : Cx κ cL_law 7 wsL_law RL (some .boolean) rmL_law G base) (hN : NcA (ks κ)) (S : SCR κ base b Ln xs) (hi : i + 5 ≤ Ln) (hL : Ln ≤ 2560) (hI : INV G q x qo w) (h1 : cells + 100 ≤ 601024) (h2 : slots + 500 ≤ 7293034)
    (kk : ∀ w', INV G q x qo w' → Z κ 7 G base mc ms post exc (cells + 6) (slots + 260) 1936 [(4, .int (iI (i : Int))), (0, .ref b), (1, .ref x), (2, .ref (q 30)), (3, .ref qo)] [] w') : Z κ 7 G base mc ms post exc cells slots 1705 [(4, .int (iI (i : Int))), (0, .ref b), (1, .ref x), (2, .ref (q 30)), (3, .ref qo)] [] w := by
  obtain ⟨V, n, m, t, fo, L, K, I, F, R, N, O, T, g, rfl, rfl, h, hw, hb⟩ := hI
  obtain ⟨a1, r1, e1⟩ := iI_ex (xs (i + 1))
  obtain ⟨postW, hM, hW⟩ := pr_isBack (l := kl κ) (base := base) (q := q) (qo := qo) (fo := fo) r1 h hw hb
  refine z_aload_n C 2 rfl rfl dL_law_1705 (rfl : 1705 + 1 = 1706) ?_
  refine z_aload_n C 1 rfl rfl dL_law_1706 (rfl : 1706 + 1 = 1707) ?_
  refine z_iload C 0 rfl dL_law_1707 (rfl : 1707 + 2 = 1709) ?_
  refine z_iconst C dL_law_1709 (rfl : 1709 + 1 = 1710) ?_
  refine z_iadd C dL_law_1710 (rfl : 1710 + 1 = 1711) rfl ?_
  refine z_sld C (x := iI a1) S ⟨by omega, by omega⟩ (by omega) (by rw [show ((i : Int) + 1).toNat = i + 1 from by omega]; exact e1) dL_law_1711 (rfl : 1711 + 1 = 1712) ?_
  refine z_aload_n C 4 rfl rfl dL_law_1712 (rfl : 1712 + 1 = 1713) ?_
  refine z_callW C hN (cells + 1) (slots + 6) hM gL_law_L_isBack rfl hd83_L_isBack ⟨Nat.le_of_ble_eq_true rfl, Nat.le_of_ble_eq_true rfl⟩ rfl (Nat.le_of_ble_eq_true rfl) dL_law_1713 (rfl : 1713 + 3 = 1716) rfl rfl ⟨by show cells + 1 ≤ 601024; omega, by show slots + 6 ≤ 7293034; omega⟩ ?_ rfl
  intro v w1 hv
  obtain ⟨k, fo', V1, Z0, hk, rfl, rfl, postR, hR, hS⟩ := hW v w1 hv
  refine z_v1 ?_
  refine z_istore (lv' := [(5, _), (4, _), (0, _), (1, _), (2, _), (3, _)]) C dL_law_1716 (rfl : 1716 + 2 = 1718) (by decide) rfl ?_
  refine z_aload_n C 4 rfl rfl dL_law_1718 (rfl : 1718 + 1 = 1719) ?_
  refine z_aload_n C 2 rfl rfl dL_law_1719 (rfl : 1719 + 1 = 1720) ?_
  refine z_iload C 1 rfl dL_law_1720 (rfl : 1720 + 2 = 1722) ?_
  refine z_iconst C dL_law_1722 (rfl : 1722 + 1 = 1723) ?_
  refine z_iadd C dL_law_1723 (rfl : 1723 + 1 = 1724) rfl ?_
  refine z_sld C (x := iI a1) S ⟨by omega, by omega⟩ (by omega) (by rw [show ((i : Int) + 1).toNat = i + 1 from by omega]; exact e1) dL_law_1724 (rfl : 1724 + 1 = 1725) ?_
  refine z_callV C (cells + 1) (slots + 6) hR gL_law_X6_isBack rfl hd83_X6_isBack ⟨Nat.le_of_ble_eq_true rfl, Nat.le_of_ble_eq_true rfl⟩ xmm rfl rfl (Nat.le_of_ble_eq_true rfl) dL_law_1725 (rfl : 1725 + 3 = 1728) rfl rfl ⟨by show cells + 1 ≤ 601024; omega, by show slots + 6 ≤ 7293034; omega⟩ (fun _ _ h => h.elim) ?_ rfl
  intro v2 w2 hv2
  obtain ⟨bb, V2, rfl, rfl, hk25, hk0, hB, hI2⟩ := hS v2 w2 hv2
  refine z_v1 ?_
  refine z_istore (lv' := [(6, _), (5, _), (4, _), (0, _), (1, _), (2, _), (3, _)]) C dL_law_1728 (rfl : 1728 + 2 = 1730) (by decide) rfl ?_
  refine z_aload_n C 5 rfl rfl dL_law_1730 (rfl : 1730 + 1 = 1731) ?_
  refine z_callV C (cells + 1) (slots + 6) c_X6_thrown gL_law_X6_thrown rfl hd83_X6_thrown ⟨Nat.le_of_ble_eq_true rfl, Nat.le_of_ble_eq_true rfl⟩ xmm rfl rfl (Nat.le_of_ble_eq_true rfl) dL_law_1731 (rfl : 1731 + 3 = 1734) rfl rfl ⟨by show cells + 1 ≤ 601024; omega, by show slots + 6 ≤ 7293034; omega⟩ (fun _ _ h => h.elim) ?_ rfl
  rintro _ _ ⟨rfl, rfl⟩
  refine z_v1 ?_
  rw [hk25]
  refine z_iload C 1 rfl dL_law_1734 (rfl : 1734 + 2 = 1736) ?_
  refine z_icmp_eq (pt := 1741) C dL_law_1736 (by decide) (rfl : 1736 + 3 = 1739) (Iff.rfl).1 (fun q => mt (Iff.rfl).2 q) (fun c6 => ?_) (fun c6 => ?_)
  rotate_left
  · exact absurd rfl c6
  refine z_iload C 1 rfl dL_law_1741 (rfl : 1741 + 2 = 1743) ?_
  refine z_if_ne (pt := 1765) C dL_law_1743 (by decide) (rfl : 1743 + 3 = 1746) (fun q => mt (iI_eq0 (by omega)).2 q) (iI_eq0 (by omega)).1 (fun c7 => ?_) (fun c7 => ?_)
  · refine z_goto (pc' := 1936) C dL_law_1765 (by decide) ?_
    refine z_widen (k := cells + 6) (n := slots + 260) (by omega) (by omega) ?_
    exact z_sub [2, 3, 4, 5, 6] rfl (kk _ hI2)
  refine z_aload_n C 6 rfl rfl dL_law_1746 (rfl : 1746 + 1 = 1747) ?_
  refine z_iconst C dL_law_1747 (rfl : 1747 + 1 = 1748) ?_
  refine z_lald C (x := fo' 0) (List.mem_append_right _ List.mem_cons_self) ⟨by omega, by omega⟩ (by omega) rfl dL_law_1748 (rfl : 1748 + 1 = 1749) ?_
  refine z_iload C 0 rfl dL_law_1749 (rfl : 1749 + 2 = 1751) ?_
  have hb7 := hB c7
  have h07 := hk0 c7
  rcases hb7 with rfl | rfl
  · refine z_if_eq (pt := 1758) C dL_law_1751 (by decide) (rfl : 1751 + 3 = 1754) (iI_eq0 (by decide)).1 (fun q => mt (iI_eq0 (by decide)).2 q) (fun cb => ?_) (fun cb => ?_)
    rotate_left
    · exact absurd rfl cb
    refine z_lconst (v := 0) C (by decide) dL_law_1758 (rfl : 1758 + 1 = 1759) ?_
    refine z_lcmp C dL_law_1759 (rfl : 1759 + 1 = 1760) (fun _ => ?_) (fun c8 _ _ => absurd (h07.trans i64_0.symm) c8)
    refine z_if_eq (pt := 1765) C dL_law_1760 (by decide) (rfl : 1760 + 3 = 1763) (iI_eq0 (by decide)).1 (fun q => mt (iI_eq0 (by decide)).2 q) (fun c9 => ?_) (fun c9 => ?_)
    rotate_left
    · exact absurd rfl c9
    refine z_goto (pc' := 1936) C dL_law_1765 (by decide) ?_
    refine z_widen (k := cells + 6) (n := slots + 260) (by omega) (by omega) ?_
    exact z_sub [2, 3, 4, 5, 6] rfl (kk _ hI2)
  · refine z_if_eq (pt := 1758) C dL_law_1751 (by decide) (rfl : 1751 + 3 = 1754) (iI_eq0 (by decide)).1 (fun q => mt (iI_eq0 (by decide)).2 q) (fun cb => ?_) (fun cb => ?_)
    · exact absurd cb (by decide)
    refine z_lconst (v := 1) C (by decide) dL_law_1754 (rfl : 1754 + 1 = 1755) ?_
    refine z_goto (pc' := 1759) C dL_law_1755 (by decide) ?_
    refine z_lcmp C dL_law_1759 (rfl : 1759 + 1 = 1760) (fun _ => ?_) (fun c8 _ _ => absurd (h07.trans i64_1.symm) c8)
    refine z_if_eq (pt := 1765) C dL_law_1760 (by decide) (rfl : 1760 + 3 = 1763) (iI_eq0 (by decide)).1 (fun q => mt (iI_eq0 (by decide)).2 q) (fun c9 => ?_) (fun c9 => ?_)
    rotate_left
    · exact absurd rfl c9
    refine z_goto (pc' := 1936) C dL_law_1765 (by decide) ?_
    refine z_widen (k := cells + 6) (n := slots + 260) (by omega) (by omega) ?_
    exact z_sub [2, 3, 4, 5, 6] rfl (kk _ hI2)
theorem lc_late (C : Cx κ cL_law 7 wsL_law RL (some .boolean) rmL_law G base) (hN : NcA (ks κ)) (S : SCR κ base b Ln xs) (hi : i + 5 ≤ Ln) (hL : Ln ≤ 2560) (hI : INV G q x qo w) (h1 : cells + 100 ≤ 601024) (h2 : slots + 500 ≤ 7293034)
    (kk : ∀ w', INV G q x qo w' → Z κ 7 G base mc ms post exc (cells + 6) (slots + 260) 1936 [(4, .int (iI (i : Int))), (0, .ref b), (1, .ref x), (2, .ref (q 30)), (3, .ref qo)] [] w') : Z κ 7 G base mc ms post exc cells slots 1768 [(4, .int (iI (i : Int))), (0, .ref b), (1, .ref x), (2, .ref (q 30)), (3, .ref qo)] [] w := by
  obtain ⟨V, n, m, t, fo, L, K, I, F, R, N, O, T, g, rfl, rfl, h, hw, hb⟩ := hI
  obtain ⟨a1, r1, e1⟩ := iI_ex (xs (i + 1))
  obtain ⟨postW, hM, hW⟩ := pr_late (l := kl κ) (base := base) (q := q) (qo := qo) (fo := fo) r1 h hw hb
  refine z_aload_n C 2 rfl rfl dL_law_1768 (rfl : 1768 + 1 = 1769) ?_
  refine z_aload_n C 1 rfl rfl dL_law_1769 (rfl : 1769 + 1 = 1770) ?_
  refine z_iload C 0 rfl dL_law_1770 (rfl : 1770 + 2 = 1772) ?_
  refine z_iconst C dL_law_1772 (rfl : 1772 + 1 = 1773) ?_
  refine z_iadd C dL_law_1773 (rfl : 1773 + 1 = 1774) rfl ?_
  refine z_sld C (x := iI a1) S ⟨by omega, by omega⟩ (by omega) (by rw [show ((i : Int) + 1).toNat = i + 1 from by omega]; exact e1) dL_law_1774 (rfl : 1774 + 1 = 1775) ?_
  refine z_aload_n C 4 rfl rfl dL_law_1775 (rfl : 1775 + 1 = 1776) ?_
  refine z_callW C hN (cells + 1) (slots + 6) hM gL_law_L_late rfl hd83_L_late ⟨Nat.le_of_ble_eq_true rfl, Nat.le_of_ble_eq_true rfl⟩ rfl (Nat.le_of_ble_eq_true rfl) dL_law_1776 (rfl : 1776 + 3 = 1779) rfl rfl ⟨by show cells + 1 ≤ 601024; omega, by show slots + 6 ≤ 7293034; omega⟩ ?_ rfl
  intro v w1 hv
  obtain ⟨k, fo', V1, Z0, hk, rfl, rfl, postR, hR, hS⟩ := hW v w1 hv
  refine z_v1 ?_
  refine z_istore (lv' := [(5, _), (4, _), (0, _), (1, _), (2, _), (3, _)]) C dL_law_1779 (rfl : 1779 + 2 = 1781) (by decide) rfl ?_
  refine z_aload_n C 4 rfl rfl dL_law_1781 (rfl : 1781 + 1 = 1782) ?_
  refine z_aload_n C 2 rfl rfl dL_law_1782 (rfl : 1782 + 1 = 1783) ?_
  refine z_iload C 1 rfl dL_law_1783 (rfl : 1783 + 2 = 1785) ?_
  refine z_iconst C dL_law_1785 (rfl : 1785 + 1 = 1786) ?_
  refine z_iadd C dL_law_1786 (rfl : 1786 + 1 = 1787) rfl ?_
  refine z_sld C (x := iI a1) S ⟨by omega, by omega⟩ (by omega) (by rw [show ((i : Int) + 1).toNat = i + 1 from by omega]; exact e1) dL_law_1787 (rfl : 1787 + 1 = 1788) ?_
  refine z_callV C (cells + 1) (slots + 6) hR gL_law_X6_late rfl hd83_X6_late ⟨Nat.le_of_ble_eq_true rfl, Nat.le_of_ble_eq_true rfl⟩ xmm rfl rfl (Nat.le_of_ble_eq_true rfl) dL_law_1788 (rfl : 1788 + 3 = 1791) rfl rfl ⟨by show cells + 1 ≤ 601024; omega, by show slots + 6 ≤ 7293034; omega⟩ (fun _ _ h => h.elim) ?_ rfl
  intro v2 w2 hv2
  obtain ⟨bb, V2, rfl, rfl, hk25, hk0, hB, hI2⟩ := hS v2 w2 hv2
  refine z_v1 ?_
  refine z_istore (lv' := [(6, _), (5, _), (4, _), (0, _), (1, _), (2, _), (3, _)]) C dL_law_1791 (rfl : 1791 + 2 = 1793) (by decide) rfl ?_
  refine z_aload_n C 5 rfl rfl dL_law_1793 (rfl : 1793 + 1 = 1794) ?_
  refine z_callV C (cells + 1) (slots + 6) c_X6_thrown gL_law_X6_thrown rfl hd83_X6_thrown ⟨Nat.le_of_ble_eq_true rfl, Nat.le_of_ble_eq_true rfl⟩ xmm rfl rfl (Nat.le_of_ble_eq_true rfl) dL_law_1794 (rfl : 1794 + 3 = 1797) rfl rfl ⟨by show cells + 1 ≤ 601024; omega, by show slots + 6 ≤ 7293034; omega⟩ (fun _ _ h => h.elim) ?_ rfl
  rintro _ _ ⟨rfl, rfl⟩
  refine z_v1 ?_
  rw [hk25]
  refine z_iload C 1 rfl dL_law_1797 (rfl : 1797 + 2 = 1799) ?_
  refine z_icmp_eq (pt := 1804) C dL_law_1799 (by decide) (rfl : 1799 + 3 = 1802) (Iff.rfl).1 (fun q => mt (Iff.rfl).2 q) (fun c6 => ?_) (fun c6 => ?_)
  rotate_left
  · exact absurd rfl c6
  refine z_iload C 1 rfl dL_law_1804 (rfl : 1804 + 2 = 1806) ?_
  refine z_if_ne (pt := 1821) C dL_law_1806 (by decide) (rfl : 1806 + 3 = 1809) (fun q => mt (iI_eq0 (by omega)).2 q) (iI_eq0 (by omega)).1 (fun c7 => ?_) (fun c7 => ?_)
  · refine z_goto (pc' := 1936) C dL_law_1821 (by decide) ?_
    refine z_widen (k := cells + 6) (n := slots + 260) (by omega) (by omega) ?_
    exact z_sub [2, 3, 4, 5, 6] rfl (kk _ hI2)
  refine z_aload_n C 6 rfl rfl dL_law_1809 (rfl : 1809 + 1 = 1810) ?_
  refine z_iconst C dL_law_1810 (rfl : 1810 + 1 = 1811) ?_
  refine z_lald C (x := fo' 0) (List.mem_append_right _ List.mem_cons_self) ⟨by omega, by omega⟩ (by omega) rfl dL_law_1811 (rfl : 1811 + 1 = 1812) ?_
  refine z_iload C 0 rfl dL_law_1812 (rfl : 1812 + 2 = 1814) ?_
  refine z_i2l C rfl dL_law_1814 (rfl : 1814 + 1 = 1815) ?_
  refine z_lcmp C dL_law_1815 (rfl : 1815 + 1 = 1816) (fun _ => ?_) (fun c8 _ _ => absurd (hk0 c7) c8)
  refine z_if_eq (pt := 1821) C dL_law_1816 (by decide) (rfl : 1816 + 3 = 1819) (iI_eq0 (by decide)).1 (fun q => mt (iI_eq0 (by decide)).2 q) (fun c9 => ?_) (fun c9 => ?_)
  rotate_left
  · exact absurd rfl c9
  refine z_goto (pc' := 1936) C dL_law_1821 (by decide) ?_
  refine z_widen (k := cells + 6) (n := slots + 260) (by omega) (by omega) ?_
  exact z_sub [2, 3, 4, 5, 6] rfl (kk _ hI2)
theorem lc_coins (C : Cx κ cL_law 7 wsL_law RL (some .boolean) rmL_law G base) (hN : NcA (ks κ)) (S : SCR κ base b Ln xs) (hi : i + 5 ≤ Ln) (hL : Ln ≤ 2560) (hI : INV G q x qo w) (h1 : cells + 100 ≤ 601024) (h2 : slots + 500 ≤ 7293034)
    (kk : ∀ w', INV G q x qo w' → Z κ 7 G base mc ms post exc (cells + 6) (slots + 260) 1936 [(4, .int (iI (i : Int))), (0, .ref b), (1, .ref x), (2, .ref (q 30)), (3, .ref qo)] [] w') : Z κ 7 G base mc ms post exc cells slots 1824 [(4, .int (iI (i : Int))), (0, .ref b), (1, .ref x), (2, .ref (q 30)), (3, .ref qo)] [] w := by
  obtain ⟨V, n, m, t, fo, L, K, I, F, R, N, O, T, g, rfl, rfl, h, hw, hb⟩ := hI
  obtain ⟨a1, r1, e1⟩ := iI_ex (xs (i + 1))
  obtain ⟨postW, hM, hW⟩ := pr_coins (l := kl κ) (base := base) (q := q) (qo := qo) (fo := fo) r1 h hw hb
  refine z_aload_n C 2 rfl rfl dL_law_1824 (rfl : 1824 + 1 = 1825) ?_
  refine z_aload_n C 1 rfl rfl dL_law_1825 (rfl : 1825 + 1 = 1826) ?_
  refine z_iload C 0 rfl dL_law_1826 (rfl : 1826 + 2 = 1828) ?_
  refine z_iconst C dL_law_1828 (rfl : 1828 + 1 = 1829) ?_
  refine z_iadd C dL_law_1829 (rfl : 1829 + 1 = 1830) rfl ?_
  refine z_sld C (x := iI a1) S ⟨by omega, by omega⟩ (by omega) (by rw [show ((i : Int) + 1).toNat = i + 1 from by omega]; exact e1) dL_law_1830 (rfl : 1830 + 1 = 1831) ?_
  refine z_aload_n C 4 rfl rfl dL_law_1831 (rfl : 1831 + 1 = 1832) ?_
  refine z_callW C hN (cells + 1) (slots + 6) hM gL_law_L_coins rfl hd83_L_coins ⟨Nat.le_of_ble_eq_true rfl, Nat.le_of_ble_eq_true rfl⟩ rfl (Nat.le_of_ble_eq_true rfl) dL_law_1832 (rfl : 1832 + 3 = 1835) rfl rfl ⟨by show cells + 1 ≤ 601024; omega, by show slots + 6 ≤ 7293034; omega⟩ ?_ rfl
  intro v w1 hv
  obtain ⟨k, fo', V1, Z0, hk, rfl, rfl, postR, hR, hS⟩ := hW v w1 hv
  refine z_v1 ?_
  refine z_istore (lv' := [(5, _), (4, _), (0, _), (1, _), (2, _), (3, _)]) C dL_law_1835 (rfl : 1835 + 2 = 1837) (by decide) rfl ?_
  refine z_aload_n C 4 rfl rfl dL_law_1837 (rfl : 1837 + 1 = 1838) ?_
  refine z_aload_n C 2 rfl rfl dL_law_1838 (rfl : 1838 + 1 = 1839) ?_
  refine z_iload C 1 rfl dL_law_1839 (rfl : 1839 + 2 = 1841) ?_
  refine z_iconst C dL_law_1841 (rfl : 1841 + 1 = 1842) ?_
  refine z_iadd C dL_law_1842 (rfl : 1842 + 1 = 1843) rfl ?_
  refine z_sld C (x := iI a1) S ⟨by omega, by omega⟩ (by omega) (by rw [show ((i : Int) + 1).toNat = i + 1 from by omega]; exact e1) dL_law_1843 (rfl : 1843 + 1 = 1844) ?_
  refine z_callV C (cells + 1) (slots + 6) hR gL_law_X6_coins rfl hd83_X6_coins ⟨Nat.le_of_ble_eq_true rfl, Nat.le_of_ble_eq_true rfl⟩ xmm rfl rfl (Nat.le_of_ble_eq_true rfl) dL_law_1844 (rfl : 1844 + 3 = 1847) rfl rfl ⟨by show cells + 1 ≤ 601024; omega, by show slots + 6 ≤ 7293034; omega⟩ (fun _ _ h => h.elim) ?_ rfl
  intro v2 w2 hv2
  obtain ⟨bb, V2, rfl, rfl, hk25, hk0, hB, hI2⟩ := hS v2 w2 hv2
  refine z_v1 ?_
  refine z_istore (lv' := [(6, _), (5, _), (4, _), (0, _), (1, _), (2, _), (3, _)]) C dL_law_1847 (rfl : 1847 + 2 = 1849) (by decide) rfl ?_
  refine z_aload_n C 5 rfl rfl dL_law_1849 (rfl : 1849 + 1 = 1850) ?_
  refine z_callV C (cells + 1) (slots + 6) c_X6_thrown gL_law_X6_thrown rfl hd83_X6_thrown ⟨Nat.le_of_ble_eq_true rfl, Nat.le_of_ble_eq_true rfl⟩ xmm rfl rfl (Nat.le_of_ble_eq_true rfl) dL_law_1850 (rfl : 1850 + 3 = 1853) rfl rfl ⟨by show cells + 1 ≤ 601024; omega, by show slots + 6 ≤ 7293034; omega⟩ (fun _ _ h => h.elim) ?_ rfl
  rintro _ _ ⟨rfl, rfl⟩
  refine z_v1 ?_
  rw [hk25]
  refine z_iload C 1 rfl dL_law_1853 (rfl : 1853 + 2 = 1855) ?_
  refine z_icmp_eq (pt := 1860) C dL_law_1855 (by decide) (rfl : 1855 + 3 = 1858) (Iff.rfl).1 (fun q => mt (Iff.rfl).2 q) (fun c6 => ?_) (fun c6 => ?_)
  rotate_left
  · exact absurd rfl c6
  refine z_iload C 1 rfl dL_law_1860 (rfl : 1860 + 2 = 1862) ?_
  refine z_if_ne (pt := 1877) C dL_law_1862 (by decide) (rfl : 1862 + 3 = 1865) (fun q => mt (iI_eq0 (by omega)).2 q) (iI_eq0 (by omega)).1 (fun c7 => ?_) (fun c7 => ?_)
  · refine z_goto (pc' := 1936) C dL_law_1877 (by decide) ?_
    refine z_widen (k := cells + 6) (n := slots + 260) (by omega) (by omega) ?_
    exact z_sub [2, 3, 4, 5, 6] rfl (kk _ hI2)
  refine z_aload_n C 6 rfl rfl dL_law_1865 (rfl : 1865 + 1 = 1866) ?_
  refine z_iconst C dL_law_1866 (rfl : 1866 + 1 = 1867) ?_
  refine z_lald C (x := fo' 0) (List.mem_append_right _ List.mem_cons_self) ⟨by omega, by omega⟩ (by omega) rfl dL_law_1867 (rfl : 1867 + 1 = 1868) ?_
  refine z_iload C 0 rfl dL_law_1868 (rfl : 1868 + 2 = 1870) ?_
  refine z_i2l C rfl dL_law_1870 (rfl : 1870 + 1 = 1871) ?_
  refine z_lcmp C dL_law_1871 (rfl : 1871 + 1 = 1872) (fun _ => ?_) (fun c8 _ _ => absurd (hk0 c7) c8)
  refine z_if_eq (pt := 1877) C dL_law_1872 (by decide) (rfl : 1872 + 3 = 1875) (iI_eq0 (by decide)).1 (fun q => mt (iI_eq0 (by decide)).2 q) (fun c9 => ?_) (fun c9 => ?_)
  rotate_left
  · exact absurd rfl c9
  refine z_goto (pc' := 1936) C dL_law_1877 (by decide) ?_
  refine z_widen (k := cells + 6) (n := slots + 260) (by omega) (by omega) ?_
  exact z_sub [2, 3, 4, 5, 6] rfl (kk _ hI2)
theorem lc_laidDown (C : Cx κ cL_law 7 wsL_law RL (some .boolean) rmL_law G base) (hN : NcA (ks κ)) (S : SCR κ base b Ln xs) (hi : i + 5 ≤ Ln) (hL : Ln ≤ 2560) (hI : INV G q x qo w) (h1 : cells + 100 ≤ 601024) (h2 : slots + 500 ≤ 7293034)
    (kk : ∀ w', INV G q x qo w' → Z κ 7 G base mc ms post exc (cells + 6) (slots + 260) 1936 [(4, .int (iI (i : Int))), (0, .ref b), (1, .ref x), (2, .ref (q 30)), (3, .ref qo)] [] w') : Z κ 7 G base mc ms post exc cells slots 1880 [(4, .int (iI (i : Int))), (0, .ref b), (1, .ref x), (2, .ref (q 30)), (3, .ref qo)] [] w := by
  obtain ⟨V, n, m, t, fo, L, K, I, F, R, N, O, T, g, rfl, rfl, h, hw, hb⟩ := hI
  obtain ⟨a1, r1, e1⟩ := iI_ex (xs (i + 1))
  obtain ⟨postW, hM, hW⟩ := pr_laidDown (l := kl κ) (base := base) (q := q) (qo := qo) (fo := fo) r1 h hw hb
  refine z_aload_n C 2 rfl rfl dL_law_1880 (rfl : 1880 + 1 = 1881) ?_
  refine z_aload_n C 1 rfl rfl dL_law_1881 (rfl : 1881 + 1 = 1882) ?_
  refine z_iload C 0 rfl dL_law_1882 (rfl : 1882 + 2 = 1884) ?_
  refine z_iconst C dL_law_1884 (rfl : 1884 + 1 = 1885) ?_
  refine z_iadd C dL_law_1885 (rfl : 1885 + 1 = 1886) rfl ?_
  refine z_sld C (x := iI a1) S ⟨by omega, by omega⟩ (by omega) (by rw [show ((i : Int) + 1).toNat = i + 1 from by omega]; exact e1) dL_law_1886 (rfl : 1886 + 1 = 1887) ?_
  refine z_aload_n C 4 rfl rfl dL_law_1887 (rfl : 1887 + 1 = 1888) ?_
  refine z_callW C hN (cells + 1) (slots + 6) hM gL_law_L_laidDown rfl hd83_L_laidDown ⟨Nat.le_of_ble_eq_true rfl, Nat.le_of_ble_eq_true rfl⟩ rfl (Nat.le_of_ble_eq_true rfl) dL_law_1888 (rfl : 1888 + 3 = 1891) rfl rfl ⟨by show cells + 1 ≤ 601024; omega, by show slots + 6 ≤ 7293034; omega⟩ ?_ rfl
  intro v w1 hv
  obtain ⟨k, fo', V1, Z0, hk, rfl, rfl, postR, hR, hS⟩ := hW v w1 hv
  refine z_v1 ?_
  refine z_istore (lv' := [(5, _), (4, _), (0, _), (1, _), (2, _), (3, _)]) C dL_law_1891 (rfl : 1891 + 2 = 1893) (by decide) rfl ?_
  refine z_aload_n C 4 rfl rfl dL_law_1893 (rfl : 1893 + 1 = 1894) ?_
  refine z_aload_n C 2 rfl rfl dL_law_1894 (rfl : 1894 + 1 = 1895) ?_
  refine z_iload C 1 rfl dL_law_1895 (rfl : 1895 + 2 = 1897) ?_
  refine z_iconst C dL_law_1897 (rfl : 1897 + 1 = 1898) ?_
  refine z_iadd C dL_law_1898 (rfl : 1898 + 1 = 1899) rfl ?_
  refine z_sld C (x := iI a1) S ⟨by omega, by omega⟩ (by omega) (by rw [show ((i : Int) + 1).toNat = i + 1 from by omega]; exact e1) dL_law_1899 (rfl : 1899 + 1 = 1900) ?_
  refine z_callV C (cells + 1) (slots + 6) hR gL_law_X6_laidDown rfl hd83_X6_laidDown ⟨Nat.le_of_ble_eq_true rfl, Nat.le_of_ble_eq_true rfl⟩ xmm rfl rfl (Nat.le_of_ble_eq_true rfl) dL_law_1900 (rfl : 1900 + 3 = 1903) rfl rfl ⟨by show cells + 1 ≤ 601024; omega, by show slots + 6 ≤ 7293034; omega⟩ (fun _ _ h => h.elim) ?_ rfl
  intro v2 w2 hv2
  obtain ⟨bb, V2, rfl, rfl, hk25, hk0, hB, hI2⟩ := hS v2 w2 hv2
  refine z_v1 ?_
  refine z_istore (lv' := [(6, _), (5, _), (4, _), (0, _), (1, _), (2, _), (3, _)]) C dL_law_1903 (rfl : 1903 + 2 = 1905) (by decide) rfl ?_
  refine z_aload_n C 5 rfl rfl dL_law_1905 (rfl : 1905 + 1 = 1906) ?_
  refine z_callV C (cells + 1) (slots + 6) c_X6_thrown gL_law_X6_thrown rfl hd83_X6_thrown ⟨Nat.le_of_ble_eq_true rfl, Nat.le_of_ble_eq_true rfl⟩ xmm rfl rfl (Nat.le_of_ble_eq_true rfl) dL_law_1906 (rfl : 1906 + 3 = 1909) rfl rfl ⟨by show cells + 1 ≤ 601024; omega, by show slots + 6 ≤ 7293034; omega⟩ (fun _ _ h => h.elim) ?_ rfl
  rintro _ _ ⟨rfl, rfl⟩
  refine z_v1 ?_
  rw [hk25]
  refine z_iload C 1 rfl dL_law_1909 (rfl : 1909 + 2 = 1911) ?_
  refine z_icmp_eq (pt := 1916) C dL_law_1911 (by decide) (rfl : 1911 + 3 = 1914) (Iff.rfl).1 (fun q => mt (Iff.rfl).2 q) (fun c6 => ?_) (fun c6 => ?_)
  rotate_left
  · exact absurd rfl c6
  refine z_iload C 1 rfl dL_law_1916 (rfl : 1916 + 2 = 1918) ?_
  refine z_if_ne (pt := 1933) C dL_law_1918 (by decide) (rfl : 1918 + 3 = 1921) (fun q => mt (iI_eq0 (by omega)).2 q) (iI_eq0 (by omega)).1 (fun c7 => ?_) (fun c7 => ?_)
  · refine z_goto (pc' := 1936) C dL_law_1933 (by decide) ?_
    refine z_widen (k := cells + 6) (n := slots + 260) (by omega) (by omega) ?_
    exact z_sub [2, 3, 4, 5, 6] rfl (kk _ hI2)
  refine z_aload_n C 6 rfl rfl dL_law_1921 (rfl : 1921 + 1 = 1922) ?_
  refine z_iconst C dL_law_1922 (rfl : 1922 + 1 = 1923) ?_
  refine z_lald C (x := fo' 0) (List.mem_append_right _ List.mem_cons_self) ⟨by omega, by omega⟩ (by omega) rfl dL_law_1923 (rfl : 1923 + 1 = 1924) ?_
  refine z_iload C 0 rfl dL_law_1924 (rfl : 1924 + 2 = 1926) ?_
  refine z_i2l C rfl dL_law_1926 (rfl : 1926 + 1 = 1927) ?_
  refine z_lcmp C dL_law_1927 (rfl : 1927 + 1 = 1928) (fun _ => ?_) (fun c8 _ _ => absurd (hk0 c7) c8)
  refine z_if_eq (pt := 1933) C dL_law_1928 (by decide) (rfl : 1928 + 3 = 1931) (iI_eq0 (by decide)).1 (fun q => mt (iI_eq0 (by decide)).2 q) (fun c9 => ?_) (fun c9 => ?_)
  rotate_left
  · exact absurd rfl c9
  refine z_goto (pc' := 1936) C dL_law_1933 (by decide) ?_
  refine z_widen (k := cells + 6) (n := slots + 260) (by omega) (by omega) ?_
  exact z_sub [2, 3, 4, 5, 6] rfl (kk _ hI2)
theorem lp_law (C : Cx κ cL_law 7 wsL_law RL (some .boolean) rmL_law G base) (hN : NcA (ks κ)) (S : SCR κ base b Ln xs) (hL : Ln ≤ 2560) (hp : ∀ w, INV G q x qo w → post (some (.int (iI 1))) w) (hmc : mc = 601024) (hms : ms = 7293034) :
    ∀ (d i cells slots : Nat) (w : va_W), Ln < i + 5 * d + 5 → i ≤ 2560 → cells + 6 * d + 100 ≤ 601024 → slots + 260 * d + 500 ≤ 7293034 → INV G q x qo w → Z κ 7 G base mc ms post exc cells slots 23 [(4, .int (iI (i : Int))), (0, .ref b), (1, .ref x), (2, .ref (q 30)), (3, .ref qo)] [] w := by
  intro d
  induction d with
  | zero =>
    intro i cells slots w hd hi h1 h2 hI
    refine z_iload C 0 rfl dL_law_23 (rfl : 23 + 2 = 25) ?_
    refine z_aload_n C 1 rfl rfl dL_law_25 (rfl : 25 + 1 = 26) ?_
    refine z_slen C S dL_law_26 (rfl : 26 + 1 = 27) ?_
    refine z_iconst C dL_law_27 (rfl : 27 + 1 = 28) ?_
    refine z_isub C dL_law_28 (rfl : 28 + 1 = 29) rfl ?_
    refine z_icmp_gt (pt := 1942) C dL_law_29 (by decide) (rfl : 29 + 3 = 32) (iI_lt (by omega) (by omega)).1 (fun q => mt (iI_lt (by omega) (by omega)).2 q) (fun c => ?_) (fun c => ?_)
    · refine z_iconst C dL_law_1942 (rfl : 1942 + 1 = 1943) ?_
      exact z_zret C rfl (.inr rfl) dL_law_1943 (hp w hI) (by omega) (by omega)
    · exact absurd c (by omega)
  | succ d ih =>
    intro i cells slots w hd hi h1 h2 hI
    refine z_iload C 0 rfl dL_law_23 (rfl : 23 + 2 = 25) ?_
    refine z_aload_n C 1 rfl rfl dL_law_25 (rfl : 25 + 1 = 26) ?_
    refine z_slen C S dL_law_26 (rfl : 26 + 1 = 27) ?_
    refine z_iconst C dL_law_27 (rfl : 27 + 1 = 28) ?_
    refine z_isub C dL_law_28 (rfl : 28 + 1 = 29) rfl ?_
    refine z_icmp_gt (pt := 1942) C dL_law_29 (by decide) (rfl : 29 + 3 = 32) (iI_lt (by omega) (by omega)).1 (fun q => mt (iI_lt (by omega) (by omega)).2 q) (fun c => ?_) (fun c => ?_)
    · refine z_iconst C dL_law_1942 (rfl : 1942 + 1 = 1943) ?_
      exact z_zret C rfl (.inr rfl) dL_law_1943 (hp w hI) (by omega) (by omega)
    refine z_aload_n C 1 rfl rfl dL_law_32 (rfl : 32 + 1 = 33) ?_
    refine z_iload C 0 rfl dL_law_33 (rfl : 33 + 2 = 35) ?_
    refine z_sld C (x := xs i) S ⟨by omega, by omega⟩ (by omega) (by rw [Int.toNat_natCast]) dL_law_35 (rfl : 35 + 1 = 36) ?_
    refine z_bipush (c := 31) C (by decide) dL_law_36 (rfl : 36 + 2 = 38) ?_
    refine z_iand C dL_law_38 (rfl : 38 + 1 = 39) ?_
    obtain ⟨k, hk, ek⟩ := and31 (xs i)
    refine z_topi ek ?_
    have tail : ∀ w', INV G q x qo w' → Z κ 7 G base mc ms post exc (cells + 6) (slots + 260) 1936 [(4, .int (iI (i : Int))), (0, .ref b), (1, .ref x), (2, .ref (q 30)), (3, .ref qo)] [] w' := fun w' hI' => by
      refine z_iinc (lv' := [(4, _), (0, _), (1, _), (2, _), (3, _)]) C 0 dL_law_1936 (rfl : 1936 + 3 = 1939) rfl rfl (by decide) rfl ?_
      refine z_goto (pc' := 23) C dL_law_1939 (by decide) ?_
      exact z_sub [0, 1, 2, 3, 4] rfl (ih (i + 5) (cells + 6) (slots + 260) w' (by omega) (by omega) (by omega) (by omega) hI')
    have e : k = 0 ∨ k = 1 ∨ k = 2 ∨ k = 3 ∨ k = 4 ∨ k = 5 ∨ k = 6 ∨ k = 7 ∨ k = 8 ∨ k = 9 ∨ k = 10 ∨ k = 11 ∨ k = 12 ∨ k = 13 ∨ k = 14 ∨ k = 15 ∨ k = 16 ∨ k = 17 ∨ k = 18 ∨ k = 19 ∨ k = 20 ∨ k = 21 ∨ k = 22 ∨ k = 23 ∨ k = 24 ∨ k = 25 ∨ k = 26 ∨ k = 27 ∨ k = 28 ∨ k = 29 ∨ k = 30 ∨ k = 31 := by omega
    rcases e with rfl | rfl | rfl | rfl | rfl | rfl | rfl | rfl | rfl | rfl | rfl | rfl | rfl | rfl | rfl | rfl | rfl | rfl | rfl | rfl | rfl | rfl | rfl | rfl | rfl | rfl | rfl | rfl | rfl | rfl | rfl | rfl
    · exact z_tab (k := 0) (off := 141) (pc' := 180) C dL_law_39 (by decide) ⟨by decide, by decide⟩ rfl (by decide) (lc_slip C hN S (by omega) hL hI (by omega) (by omega) tail)
    · exact z_tab (k := 1) (off := 209) (pc' := 248) C dL_law_39 (by decide) ⟨by decide, by decide⟩ rfl (by decide) (lc_copy C hN S (by omega) hL hI (by omega) (by omega) tail)
    · exact z_tab (k := 2) (off := 317) (pc' := 356) C dL_law_39 (by decide) ⟨by decide, by decide⟩ rfl (by decide) (lc_tellModel C hN S (by omega) hL hI (by omega) (by omega) tail)
    · exact z_tab (k := 3) (off := 373) (pc' := 412) C dL_law_39 (by decide) ⟨by decide, by decide⟩ rfl (by decide) (lc_pass C hN S (by omega) hL hI (by omega) (by omega) tail)
    · exact z_tab (k := 4) (off := 429) (pc' := 468) C dL_law_39 (by decide) ⟨by decide, by decide⟩ rfl (by decide) (lc_correct C hN S (by omega) hL hI (by omega) (by omega) tail)
    · exact z_tab (k := 5) (off := 521) (pc' := 560) C dL_law_39 (by decide) ⟨by decide, by decide⟩ rfl (by decide) (lc_workIn C hN S (by omega) hL hI (by omega) (by omega) tail)
    · exact z_tab (k := 6) (off := 589) (pc' := 628) C dL_law_39 (by decide) ⟨by decide, by decide⟩ rfl (by decide) (lc_lend C hN S (by omega) hL hI (by omega) (by omega) tail)
    · exact z_tab (k := 7) (off := 681) (pc' := 720) C dL_law_39 (by decide) ⟨by decide, by decide⟩ rfl (by decide) (lc_giveBack C hN S (by omega) hL hI (by omega) (by omega) tail)
    · exact z_tab (k := 8) (off := 737) (pc' := 776) C dL_law_39 (by decide) ⟨by decide, by decide⟩ rfl (by decide) (lc_day C hN S (by omega) hL hI (by omega) (by omega) tail)
    · exact z_tab (k := 9) (off := 750) (pc' := 789) C dL_law_39 (by decide) ⟨by decide, by decide⟩ rfl (by decide) (lc_copies C hN S (by omega) hL hI (by omega) (by omega) tail)
    · exact z_tab (k := 10) (off := 763) (pc' := 802) C dL_law_39 (by decide) ⟨by decide, by decide⟩ rfl (by decide) (lc_reading C hN S (by omega) hL hI (by omega) (by omega) tail)
    · exact z_tab (k := 11) (off := 831) (pc' := 870) C dL_law_39 (by decide) ⟨by decide, by decide⟩ rfl (by decide) (lc_errors C hN S (by omega) hL hI (by omega) (by omega) tail)
    · exact z_tab (k := 12) (off := 887) (pc' := 926) C dL_law_39 (by decide) ⟨by decide, by decide⟩ rfl (by decide) (lc_shared C hN S (by omega) hL hI (by omega) (by omega) tail)
    · exact z_tab (k := 13) (off := 955) (pc' := 994) C dL_law_39 (by decide) ⟨by decide, by decide⟩ rfl (by decide) (lc_houseOf C hN S (by omega) hL hI (by omega) (by omega) tail)
    · exact z_tab (k := 14) (off := 1011) (pc' := 1050) C dL_law_39 (by decide) ⟨by decide, by decide⟩ rfl (by decide) (lc_ownerOf C hN S (by omega) hL hI (by omega) (by omega) tail)
    · exact z_tab (k := 15) (off := 1067) (pc' := 1106) C dL_law_39 (by decide) ⟨by decide, by decide⟩ rfl (by decide) (lc_toldModel C hN S (by omega) hL hI (by omega) (by omega) tail)
    · exact z_tab (k := 16) (off := 1123) (pc' := 1162) C dL_law_39 (by decide) ⟨by decide, by decide⟩ rfl (by decide) (lc_slips C hN S (by omega) hL hI (by omega) (by omega) tail)
    · exact z_tab (k := 17) (off := 1179) (pc' := 1218) C dL_law_39 (by decide) ⟨by decide, by decide⟩ rfl (by decide) (lc_family C hN S (by omega) hL hI (by omega) (by omega) tail)
    · exact z_tab (k := 18) (off := 1235) (pc' := 1274) C dL_law_39 (by decide) ⟨by decide, by decide⟩ rfl (by decide) (lc_familyByErrors C hN S (by omega) hL hI (by omega) (by omega) tail)
    · exact z_tab (k := 19) (off := 1291) (pc' := 1330) C dL_law_39 (by decide) ⟨by decide, by decide⟩ rfl (by decide) (lc_families C hN S (by omega) hL hI (by omega) (by omega) tail)
    · exact z_tab (k := 20) (off := 1304) (pc' := 1343) C dL_law_39 (by decide) ⟨by decide, by decide⟩ rfl (by decide) (lc_guess C hN S (by omega) hL hI (by omega) (by omega) tail)
    · exact z_tab (k := 21) (off := 1360) (pc' := 1399) C dL_law_39 (by decide) ⟨by decide, by decide⟩ rfl (by decide) (lc_rightGuesses C hN S (by omega) hL hI (by omega) (by omega) tail)
    · exact z_tab (k := 22) (off := 1373) (pc' := 1412) C dL_law_39 (by decide) ⟨by decide, by decide⟩ rfl (by decide) (lc_spread C hN S (by omega) hL hI (by omega) (by omega) tail)
    · exact z_tab (k := 23) (off := 1441) (pc' := 1480) C dL_law_39 (by decide) ⟨by decide, by decide⟩ rfl (by decide) (lc_sources C hN S (by omega) hL hI (by omega) (by omega) tail)
    · exact z_tab (k := 24) (off := 1509) (pc' := 1548) C dL_law_39 (by decide) ⟨by decide, by decide⟩ rfl (by decide) (lc_letters C hN S (by omega) hL hI (by omega) (by omega) tail)
    · exact z_tab (k := 25) (off := 1522) (pc' := 1561) C dL_law_39 (by decide) ⟨by decide, by decide⟩ rfl (by decide) (lc_hasLetter C hN S (by omega) hL hI (by omega) (by omega) tail)
    · exact z_tab (k := 26) (off := 1597) (pc' := 1636) C dL_law_39 (by decide) ⟨by decide, by decide⟩ rfl (by decide) (lc_letter C hN S (by omega) hL hI (by omega) (by omega) tail)
    · exact z_tab (k := 27) (off := 1653) (pc' := 1692) C dL_law_39 (by decide) ⟨by decide, by decide⟩ rfl (by decide) (lc_loans C hN S (by omega) hL hI (by omega) (by omega) tail)
    · exact z_tab (k := 28) (off := 1666) (pc' := 1705) C dL_law_39 (by decide) ⟨by decide, by decide⟩ rfl (by decide) (lc_isBack C hN S (by omega) hL hI (by omega) (by omega) tail)
    · exact z_tab (k := 29) (off := 1729) (pc' := 1768) C dL_law_39 (by decide) ⟨by decide, by decide⟩ rfl (by decide) (lc_late C hN S (by omega) hL hI (by omega) (by omega) tail)
    · exact z_tab (k := 30) (off := 1785) (pc' := 1824) C dL_law_39 (by decide) ⟨by decide, by decide⟩ rfl (by decide) (lc_coins C hN S (by omega) hL hI (by omega) (by omega) tail)
    · exact z_tab (k := 31) (off := 1841) (pc' := 1880) C dL_law_39 (by decide) ⟨by decide, by decide⟩ rfl (by decide) (lc_laidDown C hN S (by omega) hL hI (by omega) (by omega) tail)
end
