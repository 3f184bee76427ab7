theorem hd84_X5_slip : yX5_slip.cls = RX5 ∧ yX5_slip.cls ≠ "java/lang/invoke/MethodHandle" ∧ yX5_slip.cls ≠ "java/lang/invoke/VarHandle" ∧ (parseMethodDescriptor yX5_slip.desc).map (fun d => d.parameters.length) = some 2 := by decide +kernel
theorem hd84_X5_copy : yX5_copy.cls = RX5 ∧ yX5_copy.cls ≠ "java/lang/invoke/MethodHandle" ∧ yX5_copy.cls ≠ "java/lang/invoke/VarHandle" ∧ (parseMethodDescriptor yX5_copy.desc).map (fun d => d.parameters.length) = some 4 := by decide +kernel
theorem hd84_X5_tellModel : yX5_tellModel.cls = RX5 ∧ yX5_tellModel.cls ≠ "java/lang/invoke/MethodHandle" ∧ yX5_tellModel.cls ≠ "java/lang/invoke/VarHandle" ∧ (parseMethodDescriptor yX5_tellModel.desc).map (fun d => d.parameters.length) = some 1 := by decide +kernel
theorem hd84_X5_correct : yX5_correct.cls = RX5 ∧ yX5_correct.cls ≠ "java/lang/invoke/MethodHandle" ∧ yX5_correct.cls ≠ "java/lang/invoke/VarHandle" ∧ (parseMethodDescriptor yX5_correct.desc).map (fun d => d.parameters.length) = some 4 := by decide +kernel
theorem hd84_X5_workIn : yX5_workIn.cls = RX5 ∧ yX5_workIn.cls ≠ "java/lang/invoke/MethodHandle" ∧ yX5_workIn.cls ≠ "java/lang/invoke/VarHandle" ∧ (parseMethodDescriptor yX5_workIn.desc).map (fun d => d.parameters.length) = some 2 := by decide +kernel
theorem hd84_X5_lend : yX5_lend.cls = RX5 ∧ yX5_lend.cls ≠ "java/lang/invoke/MethodHandle" ∧ yX5_lend.cls ≠ "java/lang/invoke/VarHandle" ∧ (parseMethodDescriptor yX5_lend.desc).map (fun d => d.parameters.length) = some 4 := by decide +kernel
theorem hd84_X5_giveBack : yX5_giveBack.cls = RX5 ∧ yX5_giveBack.cls ≠ "java/lang/invoke/MethodHandle" ∧ yX5_giveBack.cls ≠ "java/lang/invoke/VarHandle" ∧ (parseMethodDescriptor yX5_giveBack.desc).map (fun d => d.parameters.length) = some 1 := by decide +kernel
/-! the law's wrappers: a refused call answers -7 -/
section
variable {κ : KxT} {G : GG} {base mc ms : Nat} {post : Option Value → va_W → Prop} {exc : String → va_W → Prop} {X : va_W} {L : List Nat} {K : Nat → Nat} {I : Nat → Nat → Int} {F : Nat → Nat → Option Nat} {R : Nat → Nat → Int} {N : Nat → Nat} {O : Nat → Nat → Option Nat} {l : Launch}
abbrev rmL_slipped : Room := { frames := 8, cells := 2, slots := 12, locals := 162 }
theorem kL_slipped : Cond.classLink RL 122 sISE ∈ wsL_slipped := by decide +kernel
theorem c_L_slipped {a1 a2 : Int} {x : Nat} {bad : Prop} {postC : Option Value → va_W → Prop} {excC : String → va_W → Prop} (hx : x ∈ L ∧ K x = 5)
    (hM : MC l yX5_slip wsX5_slip rmX5_slip G base [.ref x, .int (iI a1), .int (iI a2)] (pw G X L K I F R N O) postC excC)
    (hp : ∀ v w, postC v w → ∃ z : Int, v = some (.int (iI z))) (he : ∀ E w, excC E w → E = sISE ∧ w = (pw G X L K I F R N O) ∧ bad) :
    MC l yL_slipped wsL_slipped rmL_slipped G base [.ref x, .int (iI a1), .int (iI a2)] (pw G X L K I F R N O) (fun v w => postC v w ∨ (bad ∧ v = some (.int (iI (-7))) ∧ w = (pw G X L K I F R N O))) (fun _ _ => False) := by
  refine MC.ofH (cc := cL_slipped) (hh := [(0, 6, 7, 122)]) (by decide) rfl rfl (Nat.le_of_ble_eq_true rfl) ?_
  intro κ C hT hl
  subst hl
  refine z_sub [0, 1, 2] (lv' := [(0, .ref x), (1, .int (iI a1)), (2, .int (iI a2))]) rfl ?_
  refine z_aload_n C 0 rfl rfl dL_slipped_0 (rfl : 0 + 1 = 1) ?_
  refine z_iload_n C 1 rfl rfl dL_slipped_1 (rfl : 1 + 1 = 2) ?_
  refine z_iload_n C 2 rfl rfl dL_slipped_2 (rfl : 2 + 1 = 3) ?_
  refine z_callV C 2 12 hM gL_slipped_X5_slip rfl hd84_X5_slip ⟨Nat.le_of_ble_eq_true rfl, Nat.le_of_ble_eq_true rfl⟩ (pwm_MC hx.1 hx.2) rfl rfl (Nat.le_of_ble_eq_true rfl) dL_slipped_3 (rfl : 3 + 3 = 6) rfl rfl ⟨Nat.le_of_ble_eq_true rfl, Nat.le_of_ble_eq_true rfl⟩ (fun E w h => ?_) ?_ rfl
  · obtain ⟨rfl, rfl, hb⟩ := he E w h
    refine z_catch C (x := ⟨0, 6, 7, 122⟩) (suf := []) hT (by decide) (by decide) (C.hts kL_slipped) (List.mem_of_getElem? (i := 5) rfl) (fun qe => ?_)
    refine z_astore_n (lv' := [(3, _), (0, _), (1, _), (2, _)]) C rfl dL_slipped_7 (rfl : 7 + 1 = 8) (by decide) rfl ?_
    refine z_bipush (c := (-7)) C (by decide) dL_slipped_8 (rfl : 8 + 2 = 10) ?_
    exact z_iret C rfl dL_slipped_10 (.inr ⟨hb, rfl, rfl⟩) (by decide) (by decide)
  intro v w hv
  obtain ⟨z, rfl⟩ := hp _ _ hv
  refine z_v1 ?_
  exact z_iret C rfl dL_slipped_6 (.inl hv) (by decide) (by decide)
abbrev rmL_copied : Room := { frames := 8, cells := 6, slots := 260, locals := 297 }
theorem kL_copied : Cond.classLink RL 122 sISE ∈ wsL_copied := by decide +kernel
theorem c_L_copied {a1 a2 a3 a4 : Int} {x : Nat} {bad : Prop} {postC : Option Value → va_W → Prop} {excC : String → va_W → Prop} (hx : x ∈ L ∧ K x = 5)
    (hM : MC l yX5_copy wsX5_copy rmX5_copy G base [.ref x, .int (iI a1), .int (iI a2), .int (iI a3), .int (iI a4)] (pw G X L K I F R N O) postC excC)
    (hp : ∀ v w, postC v w → ∃ z : Int, v = some (.int (iI z))) (he : ∀ E w, excC E w → E = sISE ∧ w = (pw G X L K I F R N O) ∧ bad) :
    MC l yL_copied wsL_copied rmL_copied G base [.ref x, .int (iI a1), .int (iI a2), .int (iI a3), .int (iI a4)] (pw G X L K I F R N O) (fun v w => postC v w ∨ (bad ∧ v = some (.int (iI (-7))) ∧ w = (pw G X L K I F R N O))) (fun _ _ => False) := by
  refine MC.ofH (cc := cL_copied) (hh := [(0, 9, 10, 122)]) (by decide) rfl rfl (Nat.le_of_ble_eq_true rfl) ?_
  intro κ C hT hl
  subst hl
  refine z_sub [0, 1, 2, 3, 4] (lv' := [(0, .ref x), (1, .int (iI a1)), (2, .int (iI a2)), (3, .int (iI a3)), (4, .int (iI a4))]) rfl ?_
  refine z_aload_n C 0 rfl rfl dL_copied_0 (rfl : 0 + 1 = 1) ?_
  refine z_iload_n C 1 rfl rfl dL_copied_1 (rfl : 1 + 1 = 2) ?_
  refine z_iload_n C 2 rfl rfl dL_copied_2 (rfl : 2 + 1 = 3) ?_
  refine z_iload_n C 3 rfl rfl dL_copied_3 (rfl : 3 + 1 = 4) ?_
  refine z_iload C 4 rfl dL_copied_4 (rfl : 4 + 2 = 6) ?_
  refine z_callV C 6 260 hM gL_copied_X5_copy rfl hd84_X5_copy ⟨Nat.le_of_ble_eq_true rfl, Nat.le_of_ble_eq_true rfl⟩ (pwm_MC hx.1 hx.2) rfl rfl (Nat.le_of_ble_eq_true rfl) dL_copied_6 (rfl : 6 + 3 = 9) rfl rfl ⟨Nat.le_of_ble_eq_true rfl, Nat.le_of_ble_eq_true rfl⟩ (fun E w h => ?_) ?_ rfl
  · obtain ⟨rfl, rfl, hb⟩ := he E w h
    refine z_catch C (x := ⟨0, 9, 10, 122⟩) (suf := []) hT (by decide) (by decide) (C.hts kL_copied) (List.mem_of_getElem? (i := 5) rfl) (fun qe => ?_)
    refine z_astore (lv' := [(5, _), (0, _), (1, _), (2, _), (3, _), (4, _)]) C dL_copied_10 (rfl : 10 + 2 = 12) (by decide) rfl ?_
    refine z_bipush (c := (-7)) C (by decide) dL_copied_12 (rfl : 12 + 2 = 14) ?_
    exact z_iret C rfl dL_copied_14 (.inr ⟨hb, rfl, rfl⟩) (by decide) (by decide)
  intro v w hv
  obtain ⟨z, rfl⟩ := hp _ _ hv
  refine z_v1 ?_
  exact z_iret C rfl dL_copied_9 (.inl hv) (by decide) (by decide)
abbrev rmL_told : Room := { frames := 8, cells := 2, slots := 12, locals := 162 }
theorem kL_told : Cond.classLink RL 122 sISE ∈ wsL_told := by decide +kernel
theorem c_L_told {a1 : Int} {x : Nat} {bad : Prop} {postC : Option Value → va_W → Prop} {excC : String → va_W → Prop} (hx : x ∈ L ∧ K x = 5)
    (hM : MC l yX5_tellModel wsX5_tellModel rmX5_tellModel G base [.ref x, .int (iI a1)] (pw G X L K I F R N O) postC excC)
    (hp : ∀ v w, postC v w → ∃ z : Int, v = some (.int (iI z))) (he : ∀ E w, excC E w → E = sISE ∧ w = (pw G X L K I F R N O) ∧ bad) :
    MC l yL_told wsL_told rmL_told G base [.ref x, .int (iI a1)] (pw G X L K I F R N O) (fun v w => postC v w ∨ (bad ∧ v = some (.int (iI (-7))) ∧ w = (pw G X L K I F R N O))) (fun _ _ => False) := by
  refine MC.ofH (cc := cL_told) (hh := [(0, 5, 6, 122)]) (by decide) rfl rfl (Nat.le_of_ble_eq_true rfl) ?_
  intro κ C hT hl
  subst hl
  refine z_sub [0, 1] (lv' := [(0, .ref x), (1, .int (iI a1))]) rfl ?_
  refine z_aload_n C 0 rfl rfl dL_told_0 (rfl : 0 + 1 = 1) ?_
  refine z_iload_n C 1 rfl rfl dL_told_1 (rfl : 1 + 1 = 2) ?_
  refine z_callV C 2 12 hM gL_told_X5_tellModel rfl hd84_X5_tellModel ⟨Nat.le_of_ble_eq_true rfl, Nat.le_of_ble_eq_true rfl⟩ (pwm_MC hx.1 hx.2) rfl rfl (Nat.le_of_ble_eq_true rfl) dL_told_2 (rfl : 2 + 3 = 5) rfl rfl ⟨Nat.le_of_ble_eq_true rfl, Nat.le_of_ble_eq_true rfl⟩ (fun E w h => ?_) ?_ rfl
  · obtain ⟨rfl, rfl, hb⟩ := he E w h
    refine z_catch C (x := ⟨0, 5, 6, 122⟩) (suf := []) hT (by decide) (by decide) (C.hts kL_told) (List.mem_of_getElem? (i := 5) rfl) (fun qe => ?_)
    refine z_astore_n (lv' := [(2, _), (0, _), (1, _)]) C rfl dL_told_6 (rfl : 6 + 1 = 7) (by decide) rfl ?_
    refine z_bipush (c := (-7)) C (by decide) dL_told_7 (rfl : 7 + 2 = 9) ?_
    exact z_iret C rfl dL_told_9 (.inr ⟨hb, rfl, rfl⟩) (by decide) (by decide)
  intro v w hv
  obtain ⟨z, rfl⟩ := hp _ _ hv
  refine z_v1 ?_
  exact z_iret C rfl dL_told_5 (.inl hv) (by decide) (by decide)
abbrev rmL_corrected : Room := { frames := 8, cells := 6, slots := 240, locals := 290 }
theorem kL_corrected : Cond.classLink RL 122 sISE ∈ wsL_corrected := by decide +kernel
theorem c_L_corrected {a1 a2 a3 a4 : Int} {x : Nat} {bad : Prop} {postC : Option Value → va_W → Prop} {excC : String → va_W → Prop} (hx : x ∈ L ∧ K x = 5)
    (hM : MC l yX5_correct wsX5_correct rmX5_correct G base [.ref x, .int (iI a1), .int (iI a2), .int (iI a3), .int (iI a4)] (pw G X L K I F R N O) postC excC)
    (hp : ∀ v w, postC v w → ∃ z : Int, v = some (.int (iI z))) (he : ∀ E w, excC E w → E = sISE ∧ w = (pw G X L K I F R N O) ∧ bad) :
    MC l yL_corrected wsL_corrected rmL_corrected G base [.ref x, .int (iI a1), .int (iI a2), .int (iI a3), .int (iI a4)] (pw G X L K I F R N O) (fun v w => postC v w ∨ (bad ∧ v = some (.int (iI (-7))) ∧ w = (pw G X L K I F R N O))) (fun _ _ => False) := by
  refine MC.ofH (cc := cL_corrected) (hh := [(0, 9, 10, 122)]) (by decide) rfl rfl (Nat.le_of_ble_eq_true rfl) ?_
  intro κ C hT hl
  subst hl
  refine z_sub [0, 1, 2, 3, 4] (lv' := [(0, .ref x), (1, .int (iI a1)), (2, .int (iI a2)), (3, .int (iI a3)), (4, .int (iI a4))]) rfl ?_
  refine z_aload_n C 0 rfl rfl dL_corrected_0 (rfl : 0 + 1 = 1) ?_
  refine z_iload_n C 1 rfl rfl dL_corrected_1 (rfl : 1 + 1 = 2) ?_
  refine z_iload_n C 2 rfl rfl dL_corrected_2 (rfl : 2 + 1 = 3) ?_
  refine z_iload_n C 3 rfl rfl dL_corrected_3 (rfl : 3 + 1 = 4) ?_
  refine z_iload C 4 rfl dL_corrected_4 (rfl : 4 + 2 = 6) ?_
  refine z_callV C 6 240 hM gL_corrected_X5_correct rfl hd84_X5_correct ⟨Nat.le_of_ble_eq_true rfl, Nat.le_of_ble_eq_true rfl⟩ (pwm_MC hx.1 hx.2) rfl rfl (Nat.le_of_ble_eq_true rfl) dL_corrected_6 (rfl : 6 + 3 = 9) rfl rfl ⟨Nat.le_of_ble_eq_true rfl, Nat.le_of_ble_eq_true rfl⟩ (fun E w h => ?_) ?_ rfl
  · obtain ⟨rfl, rfl, hb⟩ := he E w h
    refine z_catch C (x := ⟨0, 9, 10, 122⟩) (suf := []) hT (by decide) (by decide) (C.hts kL_corrected) (List.mem_of_getElem? (i := 5) rfl) (fun qe => ?_)
    refine z_astore (lv' := [(5, _), (0, _), (1, _), (2, _), (3, _), (4, _)]) C dL_corrected_10 (rfl : 10 + 2 = 12) (by decide) rfl ?_
    refine z_bipush (c := (-7)) C (by decide) dL_corrected_12 (rfl : 12 + 2 = 14) ?_
    exact z_iret C rfl dL_corrected_14 (.inr ⟨hb, rfl, rfl⟩) (by decide) (by decide)
  intro v w hv
  obtain ⟨z, rfl⟩ := hp _ _ hv
  refine z_v1 ?_
  exact z_iret C rfl dL_corrected_9 (.inl hv) (by decide) (by decide)
abbrev rmL_worked : Room := { frames := 8, cells := 3, slots := 18, locals := 226 }
theorem kL_worked : Cond.classLink RL 122 sISE ∈ wsL_worked := by decide +kernel
theorem c_L_worked {a1 a2 : Int} {x : Nat} {bad : Prop} {postC : Option Value → va_W → Prop} {excC : String → va_W → Prop} (hx : x ∈ L ∧ K x = 5)
    (hM : MC l yX5_workIn wsX5_workIn rmX5_workIn G base [.ref x, .int (iI a1), .int (iI a2)] (pw G X L K I F R N O) postC excC)
    (hp : ∀ v w, postC v w → ∃ z : Int, v = some (.int (iI z))) (he : ∀ E w, excC E w → E = sISE ∧ w = (pw G X L K I F R N O) ∧ bad) :
    MC l yL_worked wsL_worked rmL_worked G base [.ref x, .int (iI a1), .int (iI a2)] (pw G X L K I F R N O) (fun v w => postC v w ∨ (bad ∧ v = some (.int (iI (-7))) ∧ w = (pw G X L K I F R N O))) (fun _ _ => False) := by
  refine MC.ofH (cc := cL_worked) (hh := [(0, 6, 7, 122)]) (by decide) rfl rfl (Nat.le_of_ble_eq_true rfl) ?_
  intro κ C hT hl
  subst hl
  refine z_sub [0, 1, 2] (lv' := [(0, .ref x), (1, .int (iI a1)), (2, .int (iI a2))]) rfl ?_
  refine z_aload_n C 0 rfl rfl dL_worked_0 (rfl : 0 + 1 = 1) ?_
  refine z_iload_n C 1 rfl rfl dL_worked_1 (rfl : 1 + 1 = 2) ?_
  refine z_iload_n C 2 rfl rfl dL_worked_2 (rfl : 2 + 1 = 3) ?_
  refine z_callV C 3 18 hM gL_worked_X5_workIn rfl hd84_X5_workIn ⟨Nat.le_of_ble_eq_true rfl, Nat.le_of_ble_eq_true rfl⟩ (pwm_MC hx.1 hx.2) rfl rfl (Nat.le_of_ble_eq_true rfl) dL_worked_3 (rfl : 3 + 3 = 6) rfl rfl ⟨Nat.le_of_ble_eq_true rfl, Nat.le_of_ble_eq_true rfl⟩ (fun E w h => ?_) ?_ rfl
  · obtain ⟨rfl, rfl, hb⟩ := he E w h
    refine z_catch C (x := ⟨0, 6, 7, 122⟩) (suf := []) hT (by decide) (by decide) (C.hts kL_worked) (List.mem_of_getElem? (i := 5) rfl) (fun qe => ?_)
    refine z_astore_n (lv' := [(3, _), (0, _), (1, _), (2, _)]) C rfl dL_worked_7 (rfl : 7 + 1 = 8) (by decide) rfl ?_
    refine z_bipush (c := (-7)) C (by decide) dL_worked_8 (rfl : 8 + 2 = 10) ?_
    exact z_iret C rfl dL_worked_10 (.inr ⟨hb, rfl, rfl⟩) (by decide) (by decide)
  intro v w hv
  obtain ⟨z, rfl⟩ := hp _ _ hv
  refine z_v1 ?_
  exact z_iret C rfl dL_worked_6 (.inl hv) (by decide) (by decide)
abbrev rmL_lent : Room := { frames := 8, cells := 4, slots := 240, locals := 287 }
theorem kL_lent : Cond.classLink RL 122 sISE ∈ wsL_lent := by decide +kernel
theorem c_L_lent {a1 a2 a3 a4 : Int} {x : Nat} {bad : Prop} {postC : Option Value → va_W → Prop} {excC : String → va_W → Prop} (hx : x ∈ L ∧ K x = 5)
    (hM : MC l yX5_lend wsX5_lend rmX5_lend G base [.ref x, .int (iI a1), .int (iI a2), .int (iI a3), .int (iI a4)] (pw G X L K I F R N O) postC excC)
    (hp : ∀ v w, postC v w → ∃ z : Int, v = some (.int (iI z))) (he : ∀ E w, excC E w → E = sISE ∧ w = (pw G X L K I F R N O) ∧ bad) :
    MC l yL_lent wsL_lent rmL_lent G base [.ref x, .int (iI a1), .int (iI a2), .int (iI a3), .int (iI a4)] (pw G X L K I F R N O) (fun v w => postC v w ∨ (bad ∧ v = some (.int (iI (-7))) ∧ w = (pw G X L K I F R N O))) (fun _ _ => False) := by
  refine MC.ofH (cc := cL_lent) (hh := [(0, 9, 10, 122)]) (by decide) rfl rfl (Nat.le_of_ble_eq_true rfl) ?_
  intro κ C hT hl
  subst hl
  refine z_sub [0, 1, 2, 3, 4] (lv' := [(0, .ref x), (1, .int (iI a1)), (2, .int (iI a2)), (3, .int (iI a3)), (4, .int (iI a4))]) rfl ?_
  refine z_aload_n C 0 rfl rfl dL_lent_0 (rfl : 0 + 1 = 1) ?_
  refine z_iload_n C 1 rfl rfl dL_lent_1 (rfl : 1 + 1 = 2) ?_
  refine z_iload_n C 2 rfl rfl dL_lent_2 (rfl : 2 + 1 = 3) ?_
  refine z_iload_n C 3 rfl rfl dL_lent_3 (rfl : 3 + 1 = 4) ?_
  refine z_iload C 4 rfl dL_lent_4 (rfl : 4 + 2 = 6) ?_
  refine z_callV C 4 240 hM gL_lent_X5_lend rfl hd84_X5_lend ⟨Nat.le_of_ble_eq_true rfl, Nat.le_of_ble_eq_true rfl⟩ (pwm_MC hx.1 hx.2) rfl rfl (Nat.le_of_ble_eq_true rfl) dL_lent_6 (rfl : 6 + 3 = 9) rfl rfl ⟨Nat.le_of_ble_eq_true rfl, Nat.le_of_ble_eq_true rfl⟩ (fun E w h => ?_) ?_ rfl
  · obtain ⟨rfl, rfl, hb⟩ := he E w h
    refine z_catch C (x := ⟨0, 9, 10, 122⟩) (suf := []) hT (by decide) (by decide) (C.hts kL_lent) (List.mem_of_getElem? (i := 5) rfl) (fun qe => ?_)
    refine z_astore (lv' := [(5, _), (0, _), (1, _), (2, _), (3, _), (4, _)]) C dL_lent_10 (rfl : 10 + 2 = 12) (by decide) rfl ?_
    refine z_bipush (c := (-7)) C (by decide) dL_lent_12 (rfl : 12 + 2 = 14) ?_
    exact z_iret C rfl dL_lent_14 (.inr ⟨hb, rfl, rfl⟩) (by decide) (by decide)
  intro v w hv
  obtain ⟨z, rfl⟩ := hp _ _ hv
  refine z_v1 ?_
  exact z_iret C rfl dL_lent_9 (.inl hv) (by decide) (by decide)
abbrev rmL_given : Room := { frames := 8, cells := 2, slots := 12, locals := 225 }
theorem kL_given : Cond.classLink RL 122 sISE ∈ wsL_given := by decide +kernel
theorem c_L_given {a1 : Int} {x : Nat} {bad : Prop} {postC : Option Value → va_W → Prop} {excC : String → va_W → Prop} (hx : x ∈ L ∧ K x = 5)
    (hM : MC l yX5_giveBack wsX5_giveBack rmX5_giveBack G base [.ref x, .int (iI a1)] (pw G X L K I F R N O) postC excC)
    (hp : ∀ v w, postC v w → ∃ z : Int, v = some (.int (iI z))) (he : ∀ E w, excC E w → E = sISE ∧ w = (pw G X L K I F R N O) ∧ bad) :
    MC l yL_given wsL_given rmL_given G base [.ref x, .int (iI a1)] (pw G X L K I F R N O) (fun v w => postC v w ∨ (bad ∧ v = some (.int (iI (-7))) ∧ w = (pw G X L K I F R N O))) (fun _ _ => False) := by
  refine MC.ofH (cc := cL_given) (hh := [(0, 5, 6, 122)]) (by decide) rfl rfl (Nat.le_of_ble_eq_true rfl) ?_
  intro κ C hT hl
  subst hl
  refine z_sub [0, 1] (lv' := [(0, .ref x), (1, .int (iI a1))]) rfl ?_
  refine z_aload_n C 0 rfl rfl dL_given_0 (rfl : 0 + 1 = 1) ?_
  refine z_iload_n C 1 rfl rfl dL_given_1 (rfl : 1 + 1 = 2) ?_
  refine z_callV C 2 12 hM gL_given_X5_giveBack rfl hd84_X5_giveBack ⟨Nat.le_of_ble_eq_true rfl, Nat.le_of_ble_eq_true rfl⟩ (pwm_MC hx.1 hx.2) rfl rfl (Nat.le_of_ble_eq_true rfl) dL_given_2 (rfl : 2 + 3 = 5) rfl rfl ⟨Nat.le_of_ble_eq_true rfl, Nat.le_of_ble_eq_true rfl⟩ (fun E w h => ?_) ?_ rfl
  · obtain ⟨rfl, rfl, hb⟩ := he E w h
    refine z_catch C (x := ⟨0, 5, 6, 122⟩) (suf := []) hT (by decide) (by decide) (C.hts kL_given) (List.mem_of_getElem? (i := 5) rfl) (fun qe => ?_)
    refine z_astore_n (lv' := [(2, _), (0, _), (1, _)]) C rfl dL_given_6 (rfl : 6 + 1 = 7) (by decide) rfl ?_
    refine z_bipush (c := (-7)) C (by decide) dL_given_7 (rfl : 7 + 2 = 9) ?_
    exact z_iret C rfl dL_given_9 (.inr ⟨hb, rfl, rfl⟩) (by decide) (by decide)
  intro v w hv
  obtain ⟨z, rfl⟩ := hp _ _ hv
  refine z_v1 ?_
  exact z_iret C rfl dL_given_5 (.inl hv) (by decide) (by decide)
end
