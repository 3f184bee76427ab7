theorem hd81_X5_slip : yX5_slip.cls = RX5 ∧ yX5_slip.cls ≠ "java/lang/invoke/MethodHandle" ∧ yX5_slip.cls ≠ "java/lang/invoke/VarHandle" ∧ (parseMethodDescriptor yX5_slip.desc).map (fun d => d.parameters.length) = some 2 := by decide +kernel
theorem hd81_X5_copy : yX5_copy.cls = RX5 ∧ yX5_copy.cls ≠ "java/lang/invoke/MethodHandle" ∧ yX5_copy.cls ≠ "java/lang/invoke/VarHandle" ∧ (parseMethodDescriptor yX5_copy.desc).map (fun d => d.parameters.length) = some 4 := by decide +kernel
theorem hd81_X5_tellModel : yX5_tellModel.cls = RX5 ∧ yX5_tellModel.cls ≠ "java/lang/invoke/MethodHandle" ∧ yX5_tellModel.cls ≠ "java/lang/invoke/VarHandle" ∧ (parseMethodDescriptor yX5_tellModel.desc).map (fun d => d.parameters.length) = some 1 := by decide +kernel
theorem hd81_X5_pass : yX5_pass.cls = RX5 ∧ yX5_pass.cls ≠ "java/lang/invoke/MethodHandle" ∧ yX5_pass.cls ≠ "java/lang/invoke/VarHandle" ∧ (parseMethodDescriptor yX5_pass.desc).map (fun d => d.parameters.length) = some 1 := by decide +kernel
theorem hd81_X5_correct : yX5_correct.cls = RX5 ∧ yX5_correct.cls ≠ "java/lang/invoke/MethodHandle" ∧ yX5_correct.cls ≠ "java/lang/invoke/VarHandle" ∧ (parseMethodDescriptor yX5_correct.desc).map (fun d => d.parameters.length) = some 4 := by decide +kernel
theorem hd81_X5_workIn : yX5_workIn.cls = RX5 ∧ yX5_workIn.cls ≠ "java/lang/invoke/MethodHandle" ∧ yX5_workIn.cls ≠ "java/lang/invoke/VarHandle" ∧ (parseMethodDescriptor yX5_workIn.desc).map (fun d => d.parameters.length) = some 2 := by decide +kernel
theorem hd81_X5_lend : yX5_lend.cls = RX5 ∧ yX5_lend.cls ≠ "java/lang/invoke/MethodHandle" ∧ yX5_lend.cls ≠ "java/lang/invoke/VarHandle" ∧ (parseMethodDescriptor yX5_lend.desc).map (fun d => d.parameters.length) = some 4 := by decide +kernel
theorem hd81_X5_giveBack : yX5_giveBack.cls = RX5 ∧ yX5_giveBack.cls ≠ "java/lang/invoke/MethodHandle" ∧ yX5_giveBack.cls ≠ "java/lang/invoke/VarHandle" ∧ (parseMethodDescriptor yX5_giveBack.desc).map (fun d => d.parameters.length) = some 1 := by decide +kernel
theorem hd81_X5_reading : yX5_reading.cls = RX5 ∧ yX5_reading.cls ≠ "java/lang/invoke/MethodHandle" ∧ yX5_reading.cls ≠ "java/lang/invoke/VarHandle" ∧ (parseMethodDescriptor yX5_reading.desc).map (fun d => d.parameters.length) = some 2 := by decide +kernel
theorem hd81_X5_errors : yX5_errors.cls = RX5 ∧ yX5_errors.cls ≠ "java/lang/invoke/MethodHandle" ∧ yX5_errors.cls ≠ "java/lang/invoke/VarHandle" ∧ (parseMethodDescriptor yX5_errors.desc).map (fun d => d.parameters.length) = some 1 := by decide +kernel
theorem hd81_X5_shared : yX5_shared.cls = RX5 ∧ yX5_shared.cls ≠ "java/lang/invoke/MethodHandle" ∧ yX5_shared.cls ≠ "java/lang/invoke/VarHandle" ∧ (parseMethodDescriptor yX5_shared.desc).map (fun d => d.parameters.length) = some 2 := by decide +kernel
theorem hd81_X5_houseOf : yX5_houseOf.cls = RX5 ∧ yX5_houseOf.cls ≠ "java/lang/invoke/MethodHandle" ∧ yX5_houseOf.cls ≠ "java/lang/invoke/VarHandle" ∧ (parseMethodDescriptor yX5_houseOf.desc).map (fun d => d.parameters.length) = some 1 := by decide +kernel
theorem hd81_X5_ownerOf : yX5_ownerOf.cls = RX5 ∧ yX5_ownerOf.cls ≠ "java/lang/invoke/MethodHandle" ∧ yX5_ownerOf.cls ≠ "java/lang/invoke/VarHandle" ∧ (parseMethodDescriptor yX5_ownerOf.desc).map (fun d => d.parameters.length) = some 1 := by decide +kernel
theorem hd81_X5_toldModel : yX5_toldModel.cls = RX5 ∧ yX5_toldModel.cls ≠ "java/lang/invoke/MethodHandle" ∧ yX5_toldModel.cls ≠ "java/lang/invoke/VarHandle" ∧ (parseMethodDescriptor yX5_toldModel.desc).map (fun d => d.parameters.length) = some 1 := by decide +kernel
theorem hd81_X5_slips : yX5_slips.cls = RX5 ∧ yX5_slips.cls ≠ "java/lang/invoke/MethodHandle" ∧ yX5_slips.cls ≠ "java/lang/invoke/VarHandle" ∧ (parseMethodDescriptor yX5_slips.desc).map (fun d => d.parameters.length) = some 1 := by decide +kernel
theorem hd81_X5_family : yX5_family.cls = RX5 ∧ yX5_family.cls ≠ "java/lang/invoke/MethodHandle" ∧ yX5_family.cls ≠ "java/lang/invoke/VarHandle" ∧ (parseMethodDescriptor yX5_family.desc).map (fun d => d.parameters.length) = some 1 := by decide +kernel
theorem hd81_X5_familyByErrors : yX5_familyByErrors.cls = RX5 ∧ yX5_familyByErrors.cls ≠ "java/lang/invoke/MethodHandle" ∧ yX5_familyByErrors.cls ≠ "java/lang/invoke/VarHandle" ∧ (parseMethodDescriptor yX5_familyByErrors.desc).map (fun d => d.parameters.length) = some 1 := by decide +kernel
theorem hd81_X5_guess : yX5_guess.cls = RX5 ∧ yX5_guess.cls ≠ "java/lang/invoke/MethodHandle" ∧ yX5_guess.cls ≠ "java/lang/invoke/VarHandle" ∧ (parseMethodDescriptor yX5_guess.desc).map (fun d => d.parameters.length) = some 1 := by decide +kernel
theorem hd81_X5_spread : yX5_spread.cls = RX5 ∧ yX5_spread.cls ≠ "java/lang/invoke/MethodHandle" ∧ yX5_spread.cls ≠ "java/lang/invoke/VarHandle" ∧ (parseMethodDescriptor yX5_spread.desc).map (fun d => d.parameters.length) = some 2 := by decide +kernel
theorem hd81_X5_sources : yX5_sources.cls = RX5 ∧ yX5_sources.cls ≠ "java/lang/invoke/MethodHandle" ∧ yX5_sources.cls ≠ "java/lang/invoke/VarHandle" ∧ (parseMethodDescriptor yX5_sources.desc).map (fun d => d.parameters.length) = some 2 := by decide +kernel
theorem hd81_X5_hasLetter : yX5_hasLetter.cls = RX5 ∧ yX5_hasLetter.cls ≠ "java/lang/invoke/MethodHandle" ∧ yX5_hasLetter.cls ≠ "java/lang/invoke/VarHandle" ∧ (parseMethodDescriptor yX5_hasLetter.desc).map (fun d => d.parameters.length) = some 2 := by decide +kernel
theorem hd81_X5_letter : yX5_letter.cls = RX5 ∧ yX5_letter.cls ≠ "java/lang/invoke/MethodHandle" ∧ yX5_letter.cls ≠ "java/lang/invoke/VarHandle" ∧ (parseMethodDescriptor yX5_letter.desc).map (fun d => d.parameters.length) = some 1 := by decide +kernel
theorem hd81_X5_isBack : yX5_isBack.cls = RX5 ∧ yX5_isBack.cls ≠ "java/lang/invoke/MethodHandle" ∧ yX5_isBack.cls ≠ "java/lang/invoke/VarHandle" ∧ (parseMethodDescriptor yX5_isBack.desc).map (fun d => d.parameters.length) = some 1 := by decide +kernel
theorem hd81_X5_late : yX5_late.cls = RX5 ∧ yX5_late.cls ≠ "java/lang/invoke/MethodHandle" ∧ yX5_late.cls ≠ "java/lang/invoke/VarHandle" ∧ (parseMethodDescriptor yX5_late.desc).map (fun d => d.parameters.length) = some 1 := by decide +kernel
theorem hd81_X5_coins : yX5_coins.cls = RX5 ∧ yX5_coins.cls ≠ "java/lang/invoke/MethodHandle" ∧ yX5_coins.cls ≠ "java/lang/invoke/VarHandle" ∧ (parseMethodDescriptor yX5_coins.desc).map (fun d => d.parameters.length) = some 1 := by decide +kernel
theorem hd81_X5_laidDown : yX5_laidDown.cls = RX5 ∧ yX5_laidDown.cls ≠ "java/lang/invoke/MethodHandle" ∧ yX5_laidDown.cls ≠ "java/lang/invoke/VarHandle" ∧ (parseMethodDescriptor yX5_laidDown.desc).map (fun d => d.parameters.length) = some 1 := by decide +kernel
def NcL : List (String × String) := [(sIAE, sIOB), (sISE, sIOB), (sISE, sIAE)]
def Ncw : List Cond := [.classLink RL 13 "java/lang/IndexOutOfBoundsException", .classLink RL 15 "java/lang/IllegalArgumentException", .classLink RL 17 "java/lang/IllegalStateException"]
/-- what the wrappers need of the machine beside the rest: no class of exceptions is another's, and the links of their tables -/
def NcA (U : State) : Prop := (∀ q ∈ NcL, va_Nc q.1 q.2 U) ∧ ∀ w ∈ Ncw, va_Nw w U
theorem NcA.to {s U : State} (h : NcA s) (hW : s.WarmedH U.vm) : NcA U := by
  refine ⟨fun q hq => (h.1 q hq).moved hW.alike, fun w hw => ?_⟩
  have hk : (w.onTables && w.keeps) = true := by
    simp only [Ncw, List.mem_cons, List.not_mem_nil, or_false] at hw
    rcases hw with rfl | rfl | rfl <;> rfl
  exact word_at hW (.inl hk) (h.2 w hw)
theorem NcA.blind {U V : State} (hv : V.vm = U.vm) (h : NcA U) : NcA V := by
  refine ⟨fun q hq => ?_, fun w hw => ?_⟩
  · obtain ⟨c, t, h1, h2, h3⟩ := h.1 q hq
    exact ⟨c, t, by rw [hv]; exact h1, by rw [hv]; exact h2, by rw [hv]; exact h3⟩
  · have hk : w.onTables = true := by
      simp only [Ncw, List.mem_cons, List.not_mem_nil, or_false] at hw
      rcases hw with rfl | rfl | rfl <;> rfl
    exact va_Nw.same hk hv.symm (h.2 w hw)
theorem ncl_sIOB {a : Array Value} {s : State} (h : NcA s) : (Cond.classLink RL 13 sIOB).before a s = true := va_Nw.use rfl (h.2 _ (List.mem_of_getElem? (i := 0) rfl))
theorem ncl_sIAE {a : Array Value} {s : State} (h : NcA s) : (Cond.classLink RL 15 sIAE).before a s = true := va_Nw.use rfl (h.2 _ (List.mem_of_getElem? (i := 1) rfl))
theorem ncl_sISE {a : Array Value} {s : State} (h : NcA s) : (Cond.classLink RL 17 sISE).before a s = true := va_Nw.use rfl (h.2 _ (List.mem_of_getElem? (i := 2) rfl))
theorem ncc_sIAE_sIOB {s : State} (h : NcA s) : va_Nc sIAE sIOB s := h.1 (_, _) (List.mem_of_getElem? (i := 0) rfl)
theorem ncc_sISE_sIOB {s : State} (h : NcA s) : va_Nc sISE sIOB s := h.1 (_, _) (List.mem_of_getElem? (i := 1) rfl)
theorem ncc_sISE_sIAE {s : State} (h : NcA s) : va_Nc sISE sIAE s := h.1 (_, _) (List.mem_of_getElem? (i := 2) rfl)
def PreN (G : GG) (base : Nat) (ws : va_W) (U : State) : Prop := Pre G base ws U ∧ NcA U
theorem PreN.blind {G : GG} {base : Nat} {as : List Value} {ws : va_W} : FrameBlind (va_Pc as (PreN G base ws)) := fun a U g mk h => ⟨h.1, ⟨h.2.1.1, h.2.1.2.1, h.2.1.2.2.1, h.2.1.2.2.2.blind rfl⟩, NcA.blind (U := U) (V := U.calling g mk a) rfl h.2.2⟩
def MCW (l : Launch) (y : MethodName) (wy : List Cond) (rm : Room) (G : GG) (base : Nat) (as : List Value) (ws : va_W) (post : Option Value → va_W → Prop) : Prop :=
  l.stackTraces = false → vx_Met l y wy rm (va_Pc as (PreN G base ws)) (QR G base post) (QX G base (fun _ _ => False)) rm.cells rm.slots (Bd base)
theorem MCW.of {l : Launch} {y : MethodName} {wy ws' : List Cond} {rm : Room} {G : GG} {base : Nat} {as : List Value} {ws : va_W} {post : Option Value → va_W → Prop} {cc : ByteArray} {nL : Nat} {ret : Option FieldType} {hh : List (Nat × Nat × Nat × Nat)}
    (hy : plainName y.cls = true) (hw : wy = Cond.codeWith y cc nL ret hh :: ws') {own : String} (ho : y.cls = own) (hn : (lg_sl as).length ≤ nL)
    (body : ∀ κ : KxT, Cx κ cc nL wy own ret rm G base → (kc κ).exceptionTable.toList = tableOf hh → NcA (ks κ) → kl κ = l → Z κ nL G base rm.cells rm.slots post (fun _ _ => False) 0 0 0 (lv_args 0 as) [] ws) : MCW l y wy rm G base as ws post := by
  intro hst
  refine vx_ofWH hy hw ?_
  intro p e s m args below meth c s₁ B hml hv
  obtain ⟨rfl, ⟨hb, hP, hD, hE⟩, hN⟩ := hv
  have hown : s.vm.findClass y.cls = some m.cls := findClass_of_methodNamed B.named
  have htab : c.exceptionTable.toList = tableOf hh := vx_table (x := y) B (atoms_spec (ws := wy) B.pre _ (by rw [hw]; exact List.mem_cons_self))
  have hl := lv_entry as (n := nL) hn
  rw [lg_entry_eq]
  exact body (p, l, e, (headSpec wy rm).room, s, m, as.toArray, below, meth, c) ⟨B.exec, B.bytes, hml, by rw [← ho]; exact hown, atoms_spec (ws := wy) B.pre, hE, B.returns, B.notSynchronized, hb, hst, rfl⟩ htab hN rfl _ _ _ hl hP hD va_S.rf
/-- the law's row of one long, behind the reference's world and ahead of the class's -/
abbrev xo (G : GG) (q : Nat → Nat) (V : Nat → Nat → Int) (qo : Nat) (fo : Nat → Int64) : va_W := xm G q V ++ [(qo, .inl (G.2.2.2.2.1, 1, .inr (.inl fo)))]
theorem vpL0 {f : Nat → Int64} {x : Int64} : vp_updL f (Int.toNat 0) x 0 = x := by simp [vp_updL]
theorem i64_0 : (0 : Int64) = (iI 0).toInt64 := by decide +kernel
theorem i64_1 : (1 : Int64) = (iI 1).toInt64 := by decide +kernel
/-- what a wrapper answers -/
def WP (w0 : va_W) (Qs : Int → (Nat → Int64) → va_W → Prop) (bad : Int → Prop) : Option Value → va_W → Prop := fun v w =>
  (∃ (ans : Int) (fo' : Nat → Int64), v = some (.int (iI 0)) ∧ fo' 0 = (iI ans).toInt64 ∧ Qs ans fo' w) ∨ ∃ k : Int, v = some (.int (iI k)) ∧ bad k ∧ w = w0
section
variable {κ : KxT} {cc : ByteArray} {nL : Nat} {Ts : List Cond} {own : String} {ret : Option FieldType} {rm0 : Room} {G : GG} {base mc ms : Nat} {post : Option Value → va_W → Prop} {exc : String → va_W → Prop} {cells slots pc pc' : Nat} {lv : List (Nat × Value)} {st : List Value} {ws ws' : va_W}
theorem z_catch (C : Cx κ cc nL Ts own ret rm0 G base) {E name : String} {pre suf : List ExceptionTableEntry} {x : ExceptionTableEntry} (hT : (kc κ).exceptionTable.toList = pre ++ x :: suf) (hpass : ∀ z ∈ pre, z.catchType ≠ 0 ∧ ∃ nm : String, (Cond.classLink own z.catchType nm).before (ka κ) (ks κ) = true ∧ va_Nc E nm (ks κ))
    (hx : covers x pc = true) (h0 : x.catchType ≠ 0) (hl : (Cond.classLink own x.catchType name).before (ka κ) (ks κ) = true) (hc : (E, name) ∈ castL) (kk : ∀ qe : Nat, Z κ nL G base mc ms post exc cells slots x.handlerPc lv [.ref qe] ws) : ZX κ nL G base mc ms post exc cells slots pc lv st ws E := by
  intro ls H locs qe ce h hP hD hS hq hv hcl
  exact vx_catch C.ow pre x suf hT (fun z hz => .inr (hpass z hz)) hx h0 hl (va_Nw.use rfl (C.ev.2.2.2.2.1 _ hc)) hq hv hcl (kk qe ls H locs h hP hD hS)
theorem z_callW (C : Cx κ cc nL Ts own ret rm0 G base) (hN : NcA (ks κ)) {index maxL n : Nat} {y : MethodName} {bytes : ByteArray} {rY : Option FieldType} {wy wy' : List Cond} {hh : List (Nat × Nat × Nat × Nat)} {rm : Room} {As : List Value} {postC : Option Value → va_W → Prop} (cells' slots' : Nat)
    (hM : MCW (kl κ) y wy rm G base As ws postC) (hT : GoodIn Ts (va_wsS own index y wy)) (hw : wy = Cond.codeWith y bytes maxL rY hh :: wy') (hd : y.cls ≠ "java/lang/invoke/MethodHandle" ∧ y.cls ≠ "java/lang/invoke/VarHandle" ∧ (parseMethodDescriptor y.desc).map (fun d => d.parameters.length) = some n) (hR : rm.frames + 1 ≤ rm0.frames ∧ 8 + (maxL + 11) + rm.locals ≤ rm0.locals)
    (hn : As.length = n) (hst : (st.map fun v => v.category).sum ≤ 8) (d : decode cc pc = .ok (.invokestatic index, 3)) (hp : pc + 3 = pc') (h1 : cells + rm.cells = cells') (h2 : slots + rm.slots = slots') (h3 : cells' ≤ rm0.cells ∧ slots' ≤ rm0.slots)
    (kk : ∀ v w, postC v w → Z κ nL G base mc ms post exc cells' slots' pc' lv (v.toList ++ st) w) {st0 : List Value} (hs0 : st0 = As.reverse ++ st) : Z κ nL G base mc ms post exc cells slots pc lv st0 ws := by
  subst hp h1 h2 hs0
  refine z_run (excC := fun _ _ => False) (a := As.toArray) (fun ls H locs h hP hD hS => ?_) (fun _ _ h => h.elim) kk
  exact vx_runSX ⟨C.1, C.2.1, C.2.2.1, C.ow, C.2.2.2.2.1⟩ (hM C.2.2.2.2.2.2.2.2.2.1) (vx_cwSW n C.2.2.2.2.1 hT hw rfl rfl hd (by rw [C.R]; exact hR)) ⟨PreN.blind, fun U hU hW => ⟨rfl, C.pre hP hD hS hU hW, hN.to hW⟩⟩ rfl hn h.1 rfl (lv_room hst) d (by rw [C.R]; exact h3)
end
section
variable {κ : KxT} {G : GG} {base mc ms : Nat} {post : Option Value → va_W → Prop} {exc : String → va_W → Prop} {X : va_W} {L : List Nat} {K : Nat → Nat} {I : Nat → Nat → Int} {F : Nat → Nat → Option Nat} {R : Nat → Nat → Int} {N : Nat → Nat} {O : Nat → Nat → Option Nat} {l : Launch}
theorem om {q : Nat → Nat} {V : Nat → Nat → Int} {qo : Nat} {fo : Nat → Int64} : (qo, .inl (G.2.2.2.2.1, 1, .inr (.inl fo))) ∈ pw G (xo G q V qo fo) L K I F R N O := List.mem_append_left _ (List.mem_append_right _ (List.mem_singleton.mpr rfl))
theorem os {q : Nat → Nat} {V : Nat → Nat → Int} {qo i : Nat} {fo : Nat → Int64} {x : Int64} : wSet (pw G (xo G q V qo fo) L K I F R N O) qo (.inl (G.2.2.2.2.1, 1, .inr (.inl (vp_updL fo i x)))) (pw G (xo G q V qo (vp_updL fo i x)) L K I F R N O) := wSet_at 21 rfl rfl
abbrev rmL_slip : Room := { frames := 8, cells := 2, slots := 12, locals := 162 }
theorem w_slip {a1 a2 : Int} {x qo : Nat} {fo : Nat → Int64} {V : Nat → Nat → Int} {q : Nat → Nat} {postC : Option Value → va_W → Prop} {excC : String → va_W → Prop} {Qs : Int → (Nat → Int64) → va_W → Prop} {bad : Int → Prop} (hx : x ∈ L ∧ K x = 5)
    (hM : MC l yX5_slip wsX5_slip rmX5_slip G base [.ref x, .int (iI a1), .int (iI a2)] (pw G (xo G q V qo fo) L K I F R N O) postC excC)
    (hp : ∀ v w, postC v w → ∃ ans : Int, v = some (.int (iI ans)) ∧ ∃ (L' : List Nat) (K' : Nat → Nat) (I' : Nat → Nat → Int) (F' : Nat → Nat → Option Nat) (R' : Nat → Nat → Int) (N' : Nat → Nat) (O' : Nat → Nat → Option Nat), w = pw G (xo G q V qo fo) L' K' I' F' R' N' O' ∧ ∀ fo', fo' 0 = (iI ans).toInt64 → Qs ans fo' (pw G (xo G q V qo fo') L' K' I' F' R' N' O'))
    (he : ∀ E w, excC E w → w = pw G (xo G q V qo fo) L K I F R N O ∧ ((E = sIOB ∧ bad 1) ∨ (E = sIAE ∧ bad 2) ∨ (E = sISE ∧ bad 3))) :
    MCW l yL_slip wsL_slip rmL_slip G base [.ref x, .int (iI a1), .int (iI a2), .ref qo] (pw G (xo G q V qo fo) L K I F R N O) (WP (pw G (xo G q V qo fo) L K I F R N O) Qs bad) := by
  refine MCW.of (cc := cL_slip) (hh := [(0, 10, 13, 13), (0, 10, 17, 15), (0, 10, 21, 17)]) (by decide) rfl rfl (Nat.le_of_ble_eq_true rfl) ?_
  intro κ C hT hN hl
  subst hl
  refine z_sub [0, 1, 2, 3] (lv' := [(0, .ref x), (1, .int (iI a1)), (2, .int (iI a2)), (3, .ref qo)]) rfl ?_
  refine z_aload_n C 3 rfl rfl dL_slip_0 (rfl : 0 + 1 = 1) ?_
  refine z_iconst C dL_slip_1 (rfl : 1 + 1 = 2) ?_
  refine z_aload_n C 0 rfl rfl dL_slip_2 (rfl : 2 + 1 = 3) ?_
  refine z_iload_n C 1 rfl rfl dL_slip_3 (rfl : 3 + 1 = 4) ?_
  refine z_iload_n C 2 rfl rfl dL_slip_4 (rfl : 4 + 1 = 5) ?_
  refine z_callV C 2 12 hM gL_slip_X5_slip rfl hd81_X5_slip ⟨Nat.le_of_ble_eq_true rfl, Nat.le_of_ble_eq_true rfl⟩ (pwm_MC hx.1 hx.2) rfl rfl (Nat.le_of_ble_eq_true rfl) dL_slip_5 (rfl : 5 + 3 = 8) rfl rfl ⟨Nat.le_of_ble_eq_true rfl, Nat.le_of_ble_eq_true rfl⟩ (fun E w h => ?_) ?_ rfl
  · obtain ⟨rfl, hE⟩ := he E w h
    rcases hE with ⟨rfl, hb⟩ | ⟨rfl, hb⟩ | ⟨rfl, hb⟩
    · refine z_catch C (pre := []) (x := ⟨0, 10, 13, 13⟩) (suf := [⟨0, 10, 17, 15⟩, ⟨0, 10, 21, 17⟩]) hT (fun z hz => nomatch hz) (by decide) (by decide) (ncl_sIOB hN) (List.mem_of_getElem? (i := 6) rfl) (fun qe => ?_)
      refine z_astore (lv' := [(4, _), (0, _), (1, _), (2, _), (3, _)]) C dL_slip_13 (rfl : 13 + 2 = 15) (by decide) rfl ?_
      refine z_iconst C dL_slip_15 (rfl : 15 + 1 = 16) ?_
      exact z_iret C rfl dL_slip_16 (.inr ⟨1, rfl, hb, rfl⟩) (by decide) (by decide)
    · refine z_catch C (pre := [⟨0, 10, 13, 13⟩]) (x := ⟨0, 10, 17, 15⟩) (suf := [⟨0, 10, 21, 17⟩]) hT (List.forall_mem_cons.mpr ⟨⟨by decide, sIOB, ncl_sIOB hN, ncc_sIAE_sIOB hN⟩, fun z hz => nomatch hz⟩) (by decide) (by decide) (ncl_sIAE hN) (List.mem_of_getElem? (i := 4) rfl) (fun qe => ?_)
      refine z_astore (lv' := [(4, _), (0, _), (1, _), (2, _), (3, _)]) C dL_slip_17 (rfl : 17 + 2 = 19) (by decide) rfl ?_
      refine z_iconst C dL_slip_19 (rfl : 19 + 1 = 20) ?_
      exact z_iret C rfl dL_slip_20 (.inr ⟨2, rfl, hb, rfl⟩) (by decide) (by decide)
    · refine z_catch C (pre := [⟨0, 10, 13, 13⟩, ⟨0, 10, 17, 15⟩]) (x := ⟨0, 10, 21, 17⟩) (suf := []) hT (List.forall_mem_cons.mpr ⟨⟨by decide, sIOB, ncl_sIOB hN, ncc_sISE_sIOB hN⟩, List.forall_mem_cons.mpr ⟨⟨by decide, sIAE, ncl_sIAE hN, ncc_sISE_sIAE hN⟩, fun z hz => nomatch hz⟩⟩) (by decide) (by decide) (ncl_sISE hN) (List.mem_of_getElem? (i := 5) rfl) (fun qe => ?_)
      refine z_astore (lv' := [(4, _), (0, _), (1, _), (2, _), (3, _)]) C dL_slip_21 (rfl : 21 + 2 = 23) (by decide) rfl ?_
      refine z_iconst C dL_slip_23 (rfl : 23 + 1 = 24) ?_
      exact z_iret C rfl dL_slip_24 (.inr ⟨3, rfl, hb, rfl⟩) (by decide) (by decide)
  intro v w hv
  obtain ⟨ans, rfl, L', K', I', F', R', N', O', rfl, hQ⟩ := hp _ _ hv
  refine z_v1 ?_
  refine z_i2l C rfl dL_slip_8 (rfl : 8 + 1 = 9) ?_
  refine z_last C om ⟨by omega, by omega⟩ (by omega) dL_slip_9 (rfl : 9 + 1 = 10) os ?_
  refine z_goto (pc' := 25) C dL_slip_10 (by decide) ?_
  refine z_iconst C dL_slip_25 (rfl : 25 + 1 = 26) ?_
  exact z_iret C rfl dL_slip_26 (.inl ⟨ans, _, rfl, vpL0, hQ _ vpL0⟩) (by decide) (by decide)
abbrev rmL_copy : Room := { frames := 8, cells := 6, slots := 260, locals := 297 }
theorem w_copy {a1 a2 a3 a4 : Int} {x qo : Nat} {fo : Nat → Int64} {V : Nat → Nat → Int} {q : Nat → Nat} {postC : Option Value → va_W → Prop} {excC : String → va_W → Prop} {Qs : Int → (Nat → Int64) → va_W → Prop} {bad : Int → Prop} (hx : x ∈ L ∧ K x = 5)
    (hM : MC l yX5_copy wsX5_copy rmX5_copy G base [.ref x, .int (iI a1), .int (iI a2), .int (iI a3), .int (iI a4)] (pw G (xo G q V qo fo) L K I F R N O) postC excC)
    (hp : ∀ v w, postC v w → ∃ ans : Int, v = some (.int (iI ans)) ∧ ∃ (L' : List Nat) (K' : Nat → Nat) (I' : Nat → Nat → Int) (F' : Nat → Nat → Option Nat) (R' : Nat → Nat → Int) (N' : Nat → Nat) (O' : Nat → Nat → Option Nat), w = pw G (xo G q V qo fo) L' K' I' F' R' N' O' ∧ ∀ fo', fo' 0 = (iI ans).toInt64 → Qs ans fo' (pw G (xo G q V qo fo') L' K' I' F' R' N' O'))
    (he : ∀ E w, excC E w → w = pw G (xo G q V qo fo) L K I F R N O ∧ ((E = sIOB ∧ bad 1) ∨ (E = sISE ∧ bad 2))) :
    MCW l yL_copy wsL_copy rmL_copy G base [.ref x, .int (iI a1), .int (iI a2), .int (iI a3), .int (iI a4), .ref qo] (pw G (xo G q V qo fo) L K I F R N O) (WP (pw G (xo G q V qo fo) L K I F R N O) Qs bad) := by
  refine MCW.of (cc := cL_copy) (hh := [(0, 14, 17, 13), (0, 14, 21, 17)]) (by decide) rfl rfl (Nat.le_of_ble_eq_true rfl) ?_
  intro κ C hT hN hl
  subst hl
  refine z_sub [0, 1, 2, 3, 4, 5] (lv' := [(0, .ref x), (1, .int (iI a1)), (2, .int (iI a2)), (3, .int (iI a3)), (4, .int (iI a4)), (5, .ref qo)]) rfl ?_
  refine z_aload C 5 rfl dL_copy_0 (rfl : 0 + 2 = 2) ?_
  refine z_iconst C dL_copy_2 (rfl : 2 + 1 = 3) ?_
  refine z_aload_n C 0 rfl rfl dL_copy_3 (rfl : 3 + 1 = 4) ?_
  refine z_iload_n C 1 rfl rfl dL_copy_4 (rfl : 4 + 1 = 5) ?_
  refine z_iload_n C 2 rfl rfl dL_copy_5 (rfl : 5 + 1 = 6) ?_
  refine z_iload_n C 3 rfl rfl dL_copy_6 (rfl : 6 + 1 = 7) ?_
  refine z_iload C 4 rfl dL_copy_7 (rfl : 7 + 2 = 9) ?_
  refine z_callV C 6 260 hM gL_copy_X5_copy rfl hd81_X5_copy ⟨Nat.le_of_ble_eq_true rfl, Nat.le_of_ble_eq_true rfl⟩ (pwm_MC hx.1 hx.2) rfl rfl (Nat.le_of_ble_eq_true rfl) dL_copy_9 (rfl : 9 + 3 = 12) rfl rfl ⟨Nat.le_of_ble_eq_true rfl, Nat.le_of_ble_eq_true rfl⟩ (fun E w h => ?_) ?_ rfl
  · obtain ⟨rfl, hE⟩ := he E w h
    rcases hE with ⟨rfl, hb⟩ | ⟨rfl, hb⟩
    · refine z_catch C (pre := []) (x := ⟨0, 14, 17, 13⟩) (suf := [⟨0, 14, 21, 17⟩]) hT (fun z hz => nomatch hz) (by decide) (by decide) (ncl_sIOB hN) (List.mem_of_getElem? (i := 6) rfl) (fun qe => ?_)
      refine z_astore (lv' := [(6, _), (0, _), (1, _), (2, _), (3, _), (4, _), (5, _)]) C dL_copy_17 (rfl : 17 + 2 = 19) (by decide) rfl ?_
      refine z_iconst C dL_copy_19 (rfl : 19 + 1 = 20) ?_
      exact z_iret C rfl dL_copy_20 (.inr ⟨1, rfl, hb, rfl⟩) (by decide) (by decide)
    · refine z_catch C (pre := [⟨0, 14, 17, 13⟩]) (x := ⟨0, 14, 21, 17⟩) (suf := []) hT (List.forall_mem_cons.mpr ⟨⟨by decide, sIOB, ncl_sIOB hN, ncc_sISE_sIOB hN⟩, fun z hz => nomatch hz⟩) (by decide) (by decide) (ncl_sISE hN) (List.mem_of_getElem? (i := 5) rfl) (fun qe => ?_)
      refine z_astore (lv' := [(6, _), (0, _), (1, _), (2, _), (3, _), (4, _), (5, _)]) C dL_copy_21 (rfl : 21 + 2 = 23) (by decide) rfl ?_
      refine z_iconst C dL_copy_23 (rfl : 23 + 1 = 24) ?_
      exact z_iret C rfl dL_copy_24 (.inr ⟨2, rfl, hb, rfl⟩) (by decide) (by decide)
  intro v w hv
  obtain ⟨ans, rfl, L', K', I', F', R', N', O', rfl, hQ⟩ := hp _ _ hv
  refine z_v1 ?_
  refine z_i2l C rfl dL_copy_12 (rfl : 12 + 1 = 13) ?_
  refine z_last C om ⟨by omega, by omega⟩ (by omega) dL_copy_13 (rfl : 13 + 1 = 14) os ?_
  refine z_goto (pc' := 25) C dL_copy_14 (by decide) ?_
  refine z_iconst C dL_copy_25 (rfl : 25 + 1 = 26) ?_
  exact z_iret C rfl dL_copy_26 (.inl ⟨ans, _, rfl, vpL0, hQ _ vpL0⟩) (by decide) (by decide)
abbrev rmL_tellModel : Room := { frames := 8, cells := 2, slots := 12, locals := 162 }
theorem w_tellModel {a1 : Int} {x qo : Nat} {fo : Nat → Int64} {V : Nat → Nat → Int} {q : Nat → Nat} {postC : Option Value → va_W → Prop} {excC : String → va_W → Prop} {Qs : Int → (Nat → Int64) → va_W → Prop} {bad : Int → Prop} (hx : x ∈ L ∧ K x = 5)
    (hM : MC l yX5_tellModel wsX5_tellModel rmX5_tellModel G base [.ref x, .int (iI a1)] (pw G (xo G q V qo fo) L K I F R N O) postC excC)
    (hp : ∀ v w, postC v w → ∃ ans : Int, v = some (.int (iI ans)) ∧ ∃ (L' : List Nat) (K' : Nat → Nat) (I' : Nat → Nat → Int) (F' : Nat → Nat → Option Nat) (R' : Nat → Nat → Int) (N' : Nat → Nat) (O' : Nat → Nat → Option Nat), w = pw G (xo G q V qo fo) L' K' I' F' R' N' O' ∧ ∀ fo', fo' 0 = (iI ans).toInt64 → Qs ans fo' (pw G (xo G q V qo fo') L' K' I' F' R' N' O'))
    (he : ∀ E w, excC E w → w = pw G (xo G q V qo fo) L K I F R N O ∧ ((E = sIOB ∧ bad 1) ∨ (E = sISE ∧ bad 2))) :
    MCW l yL_tellModel wsL_tellModel rmL_tellModel G base [.ref x, .int (iI a1), .ref qo] (pw G (xo G q V qo fo) L K I F R N O) (WP (pw G (xo G q V qo fo) L K I F R N O) Qs bad) := by
  refine MCW.of (cc := cL_tellModel) (hh := [(0, 9, 12, 13), (0, 9, 15, 17)]) (by decide) rfl rfl (Nat.le_of_ble_eq_true rfl) ?_
  intro κ C hT hN hl
  subst hl
  refine z_sub [0, 1, 2] (lv' := [(0, .ref x), (1, .int (iI a1)), (2, .ref qo)]) rfl ?_
  refine z_aload_n C 2 rfl rfl dL_tellModel_0 (rfl : 0 + 1 = 1) ?_
  refine z_iconst C dL_tellModel_1 (rfl : 1 + 1 = 2) ?_
  refine z_aload_n C 0 rfl rfl dL_tellModel_2 (rfl : 2 + 1 = 3) ?_
  refine z_iload_n C 1 rfl rfl dL_tellModel_3 (rfl : 3 + 1 = 4) ?_
  refine z_callV C 2 12 hM gL_tellModel_X5_tellModel rfl hd81_X5_tellModel ⟨Nat.le_of_ble_eq_true rfl, Nat.le_of_ble_eq_true rfl⟩ (pwm_MC hx.1 hx.2) rfl rfl (Nat.le_of_ble_eq_true rfl) dL_tellModel_4 (rfl : 4 + 3 = 7) rfl rfl ⟨Nat.le_of_ble_eq_true rfl, Nat.le_of_ble_eq_true rfl⟩ (fun E w h => ?_) ?_ rfl
  · obtain ⟨rfl, hE⟩ := he E w h
    rcases hE with ⟨rfl, hb⟩ | ⟨rfl, hb⟩
    · refine z_catch C (pre := []) (x := ⟨0, 9, 12, 13⟩) (suf := [⟨0, 9, 15, 17⟩]) hT (fun z hz => nomatch hz) (by decide) (by decide) (ncl_sIOB hN) (List.mem_of_getElem? (i := 6) rfl) (fun qe => ?_)
      refine z_astore_n (lv' := [(3, _), (0, _), (1, _), (2, _)]) C rfl dL_tellModel_12 (rfl : 12 + 1 = 13) (by decide) rfl ?_
      refine z_iconst C dL_tellModel_13 (rfl : 13 + 1 = 14) ?_
      exact z_iret C rfl dL_tellModel_14 (.inr ⟨1, rfl, hb, rfl⟩) (by decide) (by decide)
    · refine z_catch C (pre := [⟨0, 9, 12, 13⟩]) (x := ⟨0, 9, 15, 17⟩) (suf := []) hT (List.forall_mem_cons.mpr ⟨⟨by decide, sIOB, ncl_sIOB hN, ncc_sISE_sIOB hN⟩, fun z hz => nomatch hz⟩) (by decide) (by decide) (ncl_sISE hN) (List.mem_of_getElem? (i := 5) rfl) (fun qe => ?_)
      refine z_astore_n (lv' := [(3, _), (0, _), (1, _), (2, _)]) C rfl dL_tellModel_15 (rfl : 15 + 1 = 16) (by decide) rfl ?_
      refine z_iconst C dL_tellModel_16 (rfl : 16 + 1 = 17) ?_
      exact z_iret C rfl dL_tellModel_17 (.inr ⟨2, rfl, hb, rfl⟩) (by decide) (by decide)
  intro v w hv
  obtain ⟨ans, rfl, L', K', I', F', R', N', O', rfl, hQ⟩ := hp _ _ hv
  refine z_v1 ?_
  refine z_i2l C rfl dL_tellModel_7 (rfl : 7 + 1 = 8) ?_
  refine z_last C om ⟨by omega, by omega⟩ (by omega) dL_tellModel_8 (rfl : 8 + 1 = 9) os ?_
  refine z_goto (pc' := 18) C dL_tellModel_9 (by decide) ?_
  refine z_iconst C dL_tellModel_18 (rfl : 18 + 1 = 19) ?_
  exact z_iret C rfl dL_tellModel_19 (.inl ⟨ans, _, rfl, vpL0, hQ _ vpL0⟩) (by decide) (by decide)
abbrev rmL_pass : Room := { frames := 7, cells := 1, slots := 6, locals := 121 }
theorem w_pass {a1 : Int} {x qo : Nat} {fo : Nat → Int64} {V : Nat → Nat → Int} {q : Nat → Nat} {postC : Option Value → va_W → Prop} {excC : String → va_W → Prop} {Qs : Int → (Nat → Int64) → va_W → Prop} {bad : Int → Prop} (hx : x ∈ L ∧ K x = 5)
    (hM : MC l yX5_pass wsX5_pass rmX5_pass G base [.ref x, .int (iI a1)] (pw G (xo G q V qo fo) L K I F R N O) postC excC)
    (hp : ∀ v w, postC v w → ∃ ans : Int, v = some (.int (iI ans)) ∧ ∃ (L' : List Nat) (K' : Nat → Nat) (I' : Nat → Nat → Int) (F' : Nat → Nat → Option Nat) (R' : Nat → Nat → Int) (N' : Nat → Nat) (O' : Nat → Nat → Option Nat), w = pw G (xo G q V qo fo) L' K' I' F' R' N' O' ∧ ∀ fo', fo' 0 = (iI ans).toInt64 → Qs ans fo' (pw G (xo G q V qo fo') L' K' I' F' R' N' O'))
    (he : ∀ E w, excC E w → w = pw G (xo G q V qo fo) L K I F R N O ∧ ((E = sIAE ∧ bad 1) ∨ (E = sISE ∧ bad 2))) :
    MCW l yL_pass wsL_pass rmL_pass G base [.ref x, .int (iI a1), .ref qo] (pw G (xo G q V qo fo) L K I F R N O) (WP (pw G (xo G q V qo fo) L K I F R N O) Qs bad) := by
  refine MCW.of (cc := cL_pass) (hh := [(0, 9, 12, 15), (0, 9, 15, 17)]) (by decide) rfl rfl (Nat.le_of_ble_eq_true rfl) ?_
  intro κ C hT hN hl
  subst hl
  refine z_sub [0, 1, 2] (lv' := [(0, .ref x), (1, .int (iI a1)), (2, .ref qo)]) rfl ?_
  refine z_aload_n C 2 rfl rfl dL_pass_0 (rfl : 0 + 1 = 1) ?_
  refine z_iconst C dL_pass_1 (rfl : 1 + 1 = 2) ?_
  refine z_aload_n C 0 rfl rfl dL_pass_2 (rfl : 2 + 1 = 3) ?_
  refine z_iload_n C 1 rfl rfl dL_pass_3 (rfl : 3 + 1 = 4) ?_
  refine z_callV C 1 6 hM gL_pass_X5_pass rfl hd81_X5_pass ⟨Nat.le_of_ble_eq_true rfl, Nat.le_of_ble_eq_true rfl⟩ (pwm_MC hx.1 hx.2) rfl rfl (Nat.le_of_ble_eq_true rfl) dL_pass_4 (rfl : 4 + 3 = 7) rfl rfl ⟨Nat.le_of_ble_eq_true rfl, Nat.le_of_ble_eq_true rfl⟩ (fun E w h => ?_) ?_ rfl
  · obtain ⟨rfl, hE⟩ := he E w h
    rcases hE with ⟨rfl, hb⟩ | ⟨rfl, hb⟩
    · refine z_catch C (pre := []) (x := ⟨0, 9, 12, 15⟩) (suf := [⟨0, 9, 15, 17⟩]) hT (fun z hz => nomatch hz) (by decide) (by decide) (ncl_sIAE hN) (List.mem_of_getElem? (i := 4) rfl) (fun qe => ?_)
      refine z_astore_n (lv' := [(3, _), (0, _), (1, _), (2, _)]) C rfl dL_pass_12 (rfl : 12 + 1 = 13) (by decide) rfl ?_
      refine z_iconst C dL_pass_13 (rfl : 13 + 1 = 14) ?_
      exact z_iret C rfl dL_pass_14 (.inr ⟨1, rfl, hb, rfl⟩) (by decide) (by decide)
    · refine z_catch C (pre := [⟨0, 9, 12, 15⟩]) (x := ⟨0, 9, 15, 17⟩) (suf := []) hT (List.forall_mem_cons.mpr ⟨⟨by decide, sIAE, ncl_sIAE hN, ncc_sISE_sIAE hN⟩, fun z hz => nomatch hz⟩) (by decide) (by decide) (ncl_sISE hN) (List.mem_of_getElem? (i := 5) rfl) (fun qe => ?_)
      refine z_astore_n (lv' := [(3, _), (0, _), (1, _), (2, _)]) C rfl dL_pass_15 (rfl : 15 + 1 = 16) (by decide) rfl ?_
      refine z_iconst C dL_pass_16 (rfl : 16 + 1 = 17) ?_
      exact z_iret C rfl dL_pass_17 (.inr ⟨2, rfl, hb, rfl⟩) (by decide) (by decide)
  intro v w hv
  obtain ⟨ans, rfl, L', K', I', F', R', N', O', rfl, hQ⟩ := hp _ _ hv
  refine z_v1 ?_
  refine z_i2l C rfl dL_pass_7 (rfl : 7 + 1 = 8) ?_
  refine z_last C om ⟨by omega, by omega⟩ (by omega) dL_pass_8 (rfl : 8 + 1 = 9) os ?_
  refine z_goto (pc' := 18) C dL_pass_9 (by decide) ?_
  refine z_iconst C dL_pass_18 (rfl : 18 + 1 = 19) ?_
  exact z_iret C rfl dL_pass_19 (.inl ⟨ans, _, rfl, vpL0, hQ _ vpL0⟩) (by decide) (by decide)
abbrev rmL_correct : Room := { frames := 8, cells := 6, slots := 240, locals := 290 }
theorem w_correct {a1 a2 a3 a4 : Int} {x qo : Nat} {fo : Nat → Int64} {V : Nat → Nat → Int} {q : Nat → Nat} {postC : Option Value → va_W → Prop} {excC : String → va_W → Prop} {Qs : Int → (Nat → Int64) → va_W → Prop} {bad : Int → Prop} (hx : x ∈ L ∧ K x = 5)
    (hM : MC l yX5_correct wsX5_correct rmX5_correct G base [.ref x, .int (iI a1), .int (iI a2), .int (iI a3), .int (iI a4)] (pw G (xo G q V qo fo) L K I F R N O) postC excC)
    (hp : ∀ v w, postC v w → ∃ ans : Int, v = some (.int (iI ans)) ∧ ∃ (L' : List Nat) (K' : Nat → Nat) (I' : Nat → Nat → Int) (F' : Nat → Nat → Option Nat) (R' : Nat → Nat → Int) (N' : Nat → Nat) (O' : Nat → Nat → Option Nat), w = pw G (xo G q V qo fo) L' K' I' F' R' N' O' ∧ ∀ fo', fo' 0 = (iI ans).toInt64 → Qs ans fo' (pw G (xo G q V qo fo') L' K' I' F' R' N' O'))
    (he : ∀ E w, excC E w → w = pw G (xo G q V qo fo) L K I F R N O ∧ ((E = sIOB ∧ bad 1) ∨ (E = sISE ∧ bad 2))) :
    MCW l yL_correct wsL_correct rmL_correct G base [.ref x, .int (iI a1), .int (iI a2), .int (iI a3), .int (iI a4), .ref qo] (pw G (xo G q V qo fo) L K I F R N O) (WP (pw G (xo G q V qo fo) L K I F R N O) Qs bad) := by
  refine MCW.of (cc := cL_correct) (hh := [(0, 14, 17, 13), (0, 14, 21, 17)]) (by decide) rfl rfl (Nat.le_of_ble_eq_true rfl) ?_
  intro κ C hT hN hl
  subst hl
  refine z_sub [0, 1, 2, 3, 4, 5] (lv' := [(0, .ref x), (1, .int (iI a1)), (2, .int (iI a2)), (3, .int (iI a3)), (4, .int (iI a4)), (5, .ref qo)]) rfl ?_
  refine z_aload C 5 rfl dL_correct_0 (rfl : 0 + 2 = 2) ?_
  refine z_iconst C dL_correct_2 (rfl : 2 + 1 = 3) ?_
  refine z_aload_n C 0 rfl rfl dL_correct_3 (rfl : 3 + 1 = 4) ?_
  refine z_iload_n C 1 rfl rfl dL_correct_4 (rfl : 4 + 1 = 5) ?_
  refine z_iload_n C 2 rfl rfl dL_correct_5 (rfl : 5 + 1 = 6) ?_
  refine z_iload_n C 3 rfl rfl dL_correct_6 (rfl : 6 + 1 = 7) ?_
  refine z_iload C 4 rfl dL_correct_7 (rfl : 7 + 2 = 9) ?_
  refine z_callV C 6 240 hM gL_correct_X5_correct rfl hd81_X5_correct ⟨Nat.le_of_ble_eq_true rfl, Nat.le_of_ble_eq_true rfl⟩ (pwm_MC hx.1 hx.2) rfl rfl (Nat.le_of_ble_eq_true rfl) dL_correct_9 (rfl : 9 + 3 = 12) rfl rfl ⟨Nat.le_of_ble_eq_true rfl, Nat.le_of_ble_eq_true rfl⟩ (fun E w h => ?_) ?_ rfl
  · obtain ⟨rfl, hE⟩ := he E w h
    rcases hE with ⟨rfl, hb⟩ | ⟨rfl, hb⟩
    · refine z_catch C (pre := []) (x := ⟨0, 14, 17, 13⟩) (suf := [⟨0, 14, 21, 17⟩]) hT (fun z hz => nomatch hz) (by decide) (by decide) (ncl_sIOB hN) (List.mem_of_getElem? (i := 6) rfl) (fun qe => ?_)
      refine z_astore (lv' := [(6, _), (0, _), (1, _), (2, _), (3, _), (4, _), (5, _)]) C dL_correct_17 (rfl : 17 + 2 = 19) (by decide) rfl ?_
      refine z_iconst C dL_correct_19 (rfl : 19 + 1 = 20) ?_
      exact z_iret C rfl dL_correct_20 (.inr ⟨1, rfl, hb, rfl⟩) (by decide) (by decide)
    · refine z_catch C (pre := [⟨0, 14, 17, 13⟩]) (x := ⟨0, 14, 21, 17⟩) (suf := []) hT (List.forall_mem_cons.mpr ⟨⟨by decide, sIOB, ncl_sIOB hN, ncc_sISE_sIOB hN⟩, fun z hz => nomatch hz⟩) (by decide) (by decide) (ncl_sISE hN) (List.mem_of_getElem? (i := 5) rfl) (fun qe => ?_)
      refine z_astore (lv' := [(6, _), (0, _), (1, _), (2, _), (3, _), (4, _), (5, _)]) C dL_correct_21 (rfl : 21 + 2 = 23) (by decide) rfl ?_
      refine z_iconst C dL_correct_23 (rfl : 23 + 1 = 24) ?_
      exact z_iret C rfl dL_correct_24 (.inr ⟨2, rfl, hb, rfl⟩) (by decide) (by decide)
  intro v w hv
  obtain ⟨ans, rfl, L', K', I', F', R', N', O', rfl, hQ⟩ := hp _ _ hv
  refine z_v1 ?_
  refine z_i2l C rfl dL_correct_12 (rfl : 12 + 1 = 13) ?_
  refine z_last C om ⟨by omega, by omega⟩ (by omega) dL_correct_13 (rfl : 13 + 1 = 14) os ?_
  refine z_goto (pc' := 25) C dL_correct_14 (by decide) ?_
  refine z_iconst C dL_correct_25 (rfl : 25 + 1 = 26) ?_
  exact z_iret C rfl dL_correct_26 (.inl ⟨ans, _, rfl, vpL0, hQ _ vpL0⟩) (by decide) (by decide)
abbrev rmL_workIn : Room := { frames := 8, cells := 3, slots := 18, locals := 226 }
theorem w_workIn {a1 a2 : Int} {x qo : Nat} {fo : Nat → Int64} {V : Nat → Nat → Int} {q : Nat → Nat} {postC : Option Value → va_W → Prop} {excC : String → va_W → Prop} {Qs : Int → (Nat → Int64) → va_W → Prop} {bad : Int → Prop} (hx : x ∈ L ∧ K x = 5)
    (hM : MC l yX5_workIn wsX5_workIn rmX5_workIn G base [.ref x, .int (iI a1), .int (iI a2)] (pw G (xo G q V qo fo) L K I F R N O) postC excC)
    (hp : ∀ v w, postC v w → ∃ ans : Int, v = some (.int (iI ans)) ∧ ∃ (L' : List Nat) (K' : Nat → Nat) (I' : Nat → Nat → Int) (F' : Nat → Nat → Option Nat) (R' : Nat → Nat → Int) (N' : Nat → Nat) (O' : Nat → Nat → Option Nat), w = pw G (xo G q V qo fo) L' K' I' F' R' N' O' ∧ ∀ fo', fo' 0 = (iI ans).toInt64 → Qs ans fo' (pw G (xo G q V qo fo') L' K' I' F' R' N' O'))
    (he : ∀ E w, excC E w → w = pw G (xo G q V qo fo) L K I F R N O ∧ ((E = sIOB ∧ bad 1) ∨ (E = sISE ∧ bad 2))) :
    MCW l yL_workIn wsL_workIn rmL_workIn G base [.ref x, .int (iI a1), .int (iI a2), .ref qo] (pw G (xo G q V qo fo) L K I F R N O) (WP (pw G (xo G q V qo fo) L K I F R N O) Qs bad) := by
  refine MCW.of (cc := cL_workIn) (hh := [(0, 10, 13, 13), (0, 10, 17, 17)]) (by decide) rfl rfl (Nat.le_of_ble_eq_true rfl) ?_
  intro κ C hT hN hl
  subst hl
  refine z_sub [0, 1, 2, 3] (lv' := [(0, .ref x), (1, .int (iI a1)), (2, .int (iI a2)), (3, .ref qo)]) rfl ?_
  refine z_aload_n C 3 rfl rfl dL_workIn_0 (rfl : 0 + 1 = 1) ?_
  refine z_iconst C dL_workIn_1 (rfl : 1 + 1 = 2) ?_
  refine z_aload_n C 0 rfl rfl dL_workIn_2 (rfl : 2 + 1 = 3) ?_
  refine z_iload_n C 1 rfl rfl dL_workIn_3 (rfl : 3 + 1 = 4) ?_
  refine z_iload_n C 2 rfl rfl dL_workIn_4 (rfl : 4 + 1 = 5) ?_
  refine z_callV C 3 18 hM gL_workIn_X5_workIn rfl hd81_X5_workIn ⟨Nat.le_of_ble_eq_true rfl, Nat.le_of_ble_eq_true rfl⟩ (pwm_MC hx.1 hx.2) rfl rfl (Nat.le_of_ble_eq_true rfl) dL_workIn_5 (rfl : 5 + 3 = 8) rfl rfl ⟨Nat.le_of_ble_eq_true rfl, Nat.le_of_ble_eq_true rfl⟩ (fun E w h => ?_) ?_ rfl
  · obtain ⟨rfl, hE⟩ := he E w h
    rcases hE with ⟨rfl, hb⟩ | ⟨rfl, hb⟩
    · refine z_catch C (pre := []) (x := ⟨0, 10, 13, 13⟩) (suf := [⟨0, 10, 17, 17⟩]) hT (fun z hz => nomatch hz) (by decide) (by decide) (ncl_sIOB hN) (List.mem_of_getElem? (i := 6) rfl) (fun qe => ?_)
      refine z_astore (lv' := [(4, _), (0, _), (1, _), (2, _), (3, _)]) C dL_workIn_13 (rfl : 13 + 2 = 15) (by decide) rfl ?_
      refine z_iconst C dL_workIn_15 (rfl : 15 + 1 = 16) ?_
      exact z_iret C rfl dL_workIn_16 (.inr ⟨1, rfl, hb, rfl⟩) (by decide) (by decide)
    · refine z_catch C (pre := [⟨0, 10, 13, 13⟩]) (x := ⟨0, 10, 17, 17⟩) (suf := []) hT (List.forall_mem_cons.mpr ⟨⟨by decide, sIOB, ncl_sIOB hN, ncc_sISE_sIOB hN⟩, fun z hz => nomatch hz⟩) (by decide) (by decide) (ncl_sISE hN) (List.mem_of_getElem? (i := 5) rfl) (fun qe => ?_)
      refine z_astore (lv' := [(4, _), (0, _), (1, _), (2, _), (3, _)]) C dL_workIn_17 (rfl : 17 + 2 = 19) (by decide) rfl ?_
      refine z_iconst C dL_workIn_19 (rfl : 19 + 1 = 20) ?_
      exact z_iret C rfl dL_workIn_20 (.inr ⟨2, rfl, hb, rfl⟩) (by decide) (by decide)
  intro v w hv
  obtain ⟨ans, rfl, L', K', I', F', R', N', O', rfl, hQ⟩ := hp _ _ hv
  refine z_v1 ?_
  refine z_i2l C rfl dL_workIn_8 (rfl : 8 + 1 = 9) ?_
  refine z_last C om ⟨by omega, by omega⟩ (by omega) dL_workIn_9 (rfl : 9 + 1 = 10) os ?_
  refine z_goto (pc' := 21) C dL_workIn_10 (by decide) ?_
  refine z_iconst C dL_workIn_21 (rfl : 21 + 1 = 22) ?_
  exact z_iret C rfl dL_workIn_22 (.inl ⟨ans, _, rfl, vpL0, hQ _ vpL0⟩) (by decide) (by decide)
abbrev rmL_lend : Room := { frames := 8, cells := 4, slots := 240, locals := 287 }
theorem w_lend {a1 a2 a3 a4 : Int} {x qo : Nat} {fo : Nat → Int64} {V : Nat → Nat → Int} {q : Nat → Nat} {postC : Option Value → va_W → Prop} {excC : String → va_W → Prop} {Qs : Int → (Nat → Int64) → va_W → Prop} {bad : Int → Prop} (hx : x ∈ L ∧ K x = 5)
    (hM : MC l yX5_lend wsX5_lend rmX5_lend G base [.ref x, .int (iI a1), .int (iI a2), .int (iI a3), .int (iI a4)] (pw G (xo G q V qo fo) L K I F R N O) postC excC)
    (hp : ∀ v w, postC v w → ∃ ans : Int, v = some (.int (iI ans)) ∧ ∃ (L' : List Nat) (K' : Nat → Nat) (I' : Nat → Nat → Int) (F' : Nat → Nat → Option Nat) (R' : Nat → Nat → Int) (N' : Nat → Nat) (O' : Nat → Nat → Option Nat), w = pw G (xo G q V qo fo) L' K' I' F' R' N' O' ∧ ∀ fo', fo' 0 = (iI ans).toInt64 → Qs ans fo' (pw G (xo G q V qo fo') L' K' I' F' R' N' O'))
    (he : ∀ E w, excC E w → w = pw G (xo G q V qo fo) L K I F R N O ∧ ((E = sIOB ∧ bad 1) ∨ (E = sIAE ∧ bad 2) ∨ (E = sISE ∧ bad 3))) :
    MCW l yL_lend wsL_lend rmL_lend G base [.ref x, .int (iI a1), .int (iI a2), .int (iI a3), .int (iI a4), .ref qo] (pw G (xo G q V qo fo) L K I F R N O) (WP (pw G (xo G q V qo fo) L K I F R N O) Qs bad) := by
  refine MCW.of (cc := cL_lend) (hh := [(0, 14, 17, 13), (0, 14, 21, 15), (0, 14, 25, 17)]) (by decide) rfl rfl (Nat.le_of_ble_eq_true rfl) ?_
  intro κ C hT hN hl
  subst hl
  refine z_sub [0, 1, 2, 3, 4, 5] (lv' := [(0, .ref x), (1, .int (iI a1)), (2, .int (iI a2)), (3, .int (iI a3)), (4, .int (iI a4)), (5, .ref qo)]) rfl ?_
  refine z_aload C 5 rfl dL_lend_0 (rfl : 0 + 2 = 2) ?_
  refine z_iconst C dL_lend_2 (rfl : 2 + 1 = 3) ?_
  refine z_aload_n C 0 rfl rfl dL_lend_3 (rfl : 3 + 1 = 4) ?_
  refine z_iload_n C 1 rfl rfl dL_lend_4 (rfl : 4 + 1 = 5) ?_
  refine z_iload_n C 2 rfl rfl dL_lend_5 (rfl : 5 + 1 = 6) ?_
  refine z_iload_n C 3 rfl rfl dL_lend_6 (rfl : 6 + 1 = 7) ?_
  refine z_iload C 4 rfl dL_lend_7 (rfl : 7 + 2 = 9) ?_
  refine z_callV C 4 240 hM gL_lend_X5_lend rfl hd81_X5_lend ⟨Nat.le_of_ble_eq_true rfl, Nat.le_of_ble_eq_true rfl⟩ (pwm_MC hx.1 hx.2) rfl rfl (Nat.le_of_ble_eq_true rfl) dL_lend_9 (rfl : 9 + 3 = 12) rfl rfl ⟨Nat.le_of_ble_eq_true rfl, Nat.le_of_ble_eq_true rfl⟩ (fun E w h => ?_) ?_ rfl
  · obtain ⟨rfl, hE⟩ := he E w h
    rcases hE with ⟨rfl, hb⟩ | ⟨rfl, hb⟩ | ⟨rfl, hb⟩
    · refine z_catch C (pre := []) (x := ⟨0, 14, 17, 13⟩) (suf := [⟨0, 14, 21, 15⟩, ⟨0, 14, 25, 17⟩]) hT (fun z hz => nomatch hz) (by decide) (by decide) (ncl_sIOB hN) (List.mem_of_getElem? (i := 6) rfl) (fun qe => ?_)
      refine z_astore (lv' := [(6, _), (0, _), (1, _), (2, _), (3, _), (4, _), (5, _)]) C dL_lend_17 (rfl : 17 + 2 = 19) (by decide) rfl ?_
      refine z_iconst C dL_lend_19 (rfl : 19 + 1 = 20) ?_
      exact z_iret C rfl dL_lend_20 (.inr ⟨1, rfl, hb, rfl⟩) (by decide) (by decide)
    · refine z_catch C (pre := [⟨0, 14, 17, 13⟩]) (x := ⟨0, 14, 21, 15⟩) (suf := [⟨0, 14, 25, 17⟩]) hT (List.forall_mem_cons.mpr ⟨⟨by decide, sIOB, ncl_sIOB hN, ncc_sIAE_sIOB hN⟩, fun z hz => nomatch hz⟩) (by decide) (by decide) (ncl_sIAE hN) (List.mem_of_getElem? (i := 4) rfl) (fun qe => ?_)
      refine z_astore (lv' := [(6, _), (0, _), (1, _), (2, _), (3, _), (4, _), (5, _)]) C dL_lend_21 (rfl : 21 + 2 = 23) (by decide) rfl ?_
      refine z_iconst C dL_lend_23 (rfl : 23 + 1 = 24) ?_
      exact z_iret C rfl dL_lend_24 (.inr ⟨2, rfl, hb, rfl⟩) (by decide) (by decide)
    · refine z_catch C (pre := [⟨0, 14, 17, 13⟩, ⟨0, 14, 21, 15⟩]) (x := ⟨0, 14, 25, 17⟩) (suf := []) hT (List.forall_mem_cons.mpr ⟨⟨by decide, sIOB, ncl_sIOB hN, ncc_sISE_sIOB hN⟩, List.forall_mem_cons.mpr ⟨⟨by decide, sIAE, ncl_sIAE hN, ncc_sISE_sIAE hN⟩, fun z hz => nomatch hz⟩⟩) (by decide) (by decide) (ncl_sISE hN) (List.mem_of_getElem? (i := 5) rfl) (fun qe => ?_)
      refine z_astore (lv' := [(6, _), (0, _), (1, _), (2, _), (3, _), (4, _), (5, _)]) C dL_lend_25 (rfl : 25 + 2 = 27) (by decide) rfl ?_
      refine z_iconst C dL_lend_27 (rfl : 27 + 1 = 28) ?_
      exact z_iret C rfl dL_lend_28 (.inr ⟨3, rfl, hb, rfl⟩) (by decide) (by decide)
  intro v w hv
  obtain ⟨ans, rfl, L', K', I', F', R', N', O', rfl, hQ⟩ := hp _ _ hv
  refine z_v1 ?_
  refine z_i2l C rfl dL_lend_12 (rfl : 12 + 1 = 13) ?_
  refine z_last C om ⟨by omega, by omega⟩ (by omega) dL_lend_13 (rfl : 13 + 1 = 14) os ?_
  refine z_goto (pc' := 29) C dL_lend_14 (by decide) ?_
  refine z_iconst C dL_lend_29 (rfl : 29 + 1 = 30) ?_
  exact z_iret C rfl dL_lend_30 (.inl ⟨ans, _, rfl, vpL0, hQ _ vpL0⟩) (by decide) (by decide)
abbrev rmL_giveBack : Room := { frames := 8, cells := 2, slots := 12, locals := 225 }
theorem w_giveBack {a1 : Int} {x qo : Nat} {fo : Nat → Int64} {V : Nat → Nat → Int} {q : Nat → Nat} {postC : Option Value → va_W → Prop} {excC : String → va_W → Prop} {Qs : Int → (Nat → Int64) → va_W → Prop} {bad : Int → Prop} (hx : x ∈ L ∧ K x = 5)
    (hM : MC l yX5_giveBack wsX5_giveBack rmX5_giveBack G base [.ref x, .int (iI a1)] (pw G (xo G q V qo fo) L K I F R N O) postC excC)
    (hp : ∀ v w, postC v w → ∃ ans : Int, v = some (.int (iI ans)) ∧ ∃ (L' : List Nat) (K' : Nat → Nat) (I' : Nat → Nat → Int) (F' : Nat → Nat → Option Nat) (R' : Nat → Nat → Int) (N' : Nat → Nat) (O' : Nat → Nat → Option Nat), w = pw G (xo G q V qo fo) L' K' I' F' R' N' O' ∧ ∀ fo', fo' 0 = (iI ans).toInt64 → Qs ans fo' (pw G (xo G q V qo fo') L' K' I' F' R' N' O'))
    (he : ∀ E w, excC E w → w = pw G (xo G q V qo fo) L K I F R N O ∧ ((E = sIOB ∧ bad 1) ∨ (E = sISE ∧ bad 2))) :
    MCW l yL_giveBack wsL_giveBack rmL_giveBack G base [.ref x, .int (iI a1), .ref qo] (pw G (xo G q V qo fo) L K I F R N O) (WP (pw G (xo G q V qo fo) L K I F R N O) Qs bad) := by
  refine MCW.of (cc := cL_giveBack) (hh := [(0, 9, 12, 13), (0, 9, 15, 17)]) (by decide) rfl rfl (Nat.le_of_ble_eq_true rfl) ?_
  intro κ C hT hN hl
  subst hl
  refine z_sub [0, 1, 2] (lv' := [(0, .ref x), (1, .int (iI a1)), (2, .ref qo)]) rfl ?_
  refine z_aload_n C 2 rfl rfl dL_giveBack_0 (rfl : 0 + 1 = 1) ?_
  refine z_iconst C dL_giveBack_1 (rfl : 1 + 1 = 2) ?_
  refine z_aload_n C 0 rfl rfl dL_giveBack_2 (rfl : 2 + 1 = 3) ?_
  refine z_iload_n C 1 rfl rfl dL_giveBack_3 (rfl : 3 + 1 = 4) ?_
  refine z_callV C 2 12 hM gL_giveBack_X5_giveBack rfl hd81_X5_giveBack ⟨Nat.le_of_ble_eq_true rfl, Nat.le_of_ble_eq_true rfl⟩ (pwm_MC hx.1 hx.2) rfl rfl (Nat.le_of_ble_eq_true rfl) dL_giveBack_4 (rfl : 4 + 3 = 7) rfl rfl ⟨Nat.le_of_ble_eq_true rfl, Nat.le_of_ble_eq_true rfl⟩ (fun E w h => ?_) ?_ rfl
  · obtain ⟨rfl, hE⟩ := he E w h
    rcases hE with ⟨rfl, hb⟩ | ⟨rfl, hb⟩
    · refine z_catch C (pre := []) (x := ⟨0, 9, 12, 13⟩) (suf := [⟨0, 9, 15, 17⟩]) hT (fun z hz => nomatch hz) (by decide) (by decide) (ncl_sIOB hN) (List.mem_of_getElem? (i := 6) rfl) (fun qe => ?_)
      refine z_astore_n (lv' := [(3, _), (0, _), (1, _), (2, _)]) C rfl dL_giveBack_12 (rfl : 12 + 1 = 13) (by decide) rfl ?_
      refine z_iconst C dL_giveBack_13 (rfl : 13 + 1 = 14) ?_
      exact z_iret C rfl dL_giveBack_14 (.inr ⟨1, rfl, hb, rfl⟩) (by decide) (by decide)
    · refine z_catch C (pre := [⟨0, 9, 12, 13⟩]) (x := ⟨0, 9, 15, 17⟩) (suf := []) hT (List.forall_mem_cons.mpr ⟨⟨by decide, sIOB, ncl_sIOB hN, ncc_sISE_sIOB hN⟩, fun z hz => nomatch hz⟩) (by decide) (by decide) (ncl_sISE hN) (List.mem_of_getElem? (i := 5) rfl) (fun qe => ?_)
      refine z_astore_n (lv' := [(3, _), (0, _), (1, _), (2, _)]) C rfl dL_giveBack_15 (rfl : 15 + 1 = 16) (by decide) rfl ?_
      refine z_iconst C dL_giveBack_16 (rfl : 16 + 1 = 17) ?_
      exact z_iret C rfl dL_giveBack_17 (.inr ⟨2, rfl, hb, rfl⟩) (by decide) (by decide)
  intro v w hv
  obtain ⟨ans, rfl, L', K', I', F', R', N', O', rfl, hQ⟩ := hp _ _ hv
  refine z_v1 ?_
  refine z_i2l C rfl dL_giveBack_7 (rfl : 7 + 1 = 8) ?_
  refine z_last C om ⟨by omega, by omega⟩ (by omega) dL_giveBack_8 (rfl : 8 + 1 = 9) os ?_
  refine z_goto (pc' := 18) C dL_giveBack_9 (by decide) ?_
  refine z_iconst C dL_giveBack_18 (rfl : 18 + 1 = 19) ?_
  exact z_iret C rfl dL_giveBack_19 (.inl ⟨ans, _, rfl, vpL0, hQ _ vpL0⟩) (by decide) (by decide)
abbrev rmL_reading : Room := { frames := 8, cells := 2, slots := 12, locals := 163 }
theorem w_reading {a1 a2 : Int} {x qo : Nat} {fo : Nat → Int64} {V : Nat → Nat → Int} {q : Nat → Nat} {postC : Option Value → va_W → Prop} {excC : String → va_W → Prop} {Qs : Int → (Nat → Int64) → va_W → Prop} {bad : Int → Prop} (hx : x ∈ L ∧ K x = 5)
    (hM : MC l yX5_reading wsX5_reading rmX5_reading G base [.ref x, .int (iI a1), .int (iI a2)] (pw G (xo G q V qo fo) L K I F R N O) postC excC)
    (hp : ∀ v w, postC v w → ∃ ans : Int, v = some (.int (iI ans)) ∧ ∃ (L' : List Nat) (K' : Nat → Nat) (I' : Nat → Nat → Int) (F' : Nat → Nat → Option Nat) (R' : Nat → Nat → Int) (N' : Nat → Nat) (O' : Nat → Nat → Option Nat), w = pw G (xo G q V qo fo) L' K' I' F' R' N' O' ∧ ∀ fo', fo' 0 = (iI ans).toInt64 → Qs ans fo' (pw G (xo G q V qo fo') L' K' I' F' R' N' O'))
    (he : ∀ E w, excC E w → w = pw G (xo G q V qo fo) L K I F R N O ∧ ((E = sIOB ∧ bad 1))) :
    MCW l yL_reading wsL_reading rmL_reading G base [.ref x, .int (iI a1), .int (iI a2), .ref qo] (pw G (xo G q V qo fo) L K I F R N O) (WP (pw G (xo G q V qo fo) L K I F R N O) Qs bad) := by
  refine MCW.of (cc := cL_reading) (hh := [(0, 10, 13, 13)]) (by decide) rfl rfl (Nat.le_of_ble_eq_true rfl) ?_
  intro κ C hT hN hl
  subst hl
  refine z_sub [0, 1, 2, 3] (lv' := [(0, .ref x), (1, .int (iI a1)), (2, .int (iI a2)), (3, .ref qo)]) rfl ?_
  refine z_aload_n C 3 rfl rfl dL_reading_0 (rfl : 0 + 1 = 1) ?_
  refine z_iconst C dL_reading_1 (rfl : 1 + 1 = 2) ?_
  refine z_aload_n C 0 rfl rfl dL_reading_2 (rfl : 2 + 1 = 3) ?_
  refine z_iload_n C 1 rfl rfl dL_reading_3 (rfl : 3 + 1 = 4) ?_
  refine z_iload_n C 2 rfl rfl dL_reading_4 (rfl : 4 + 1 = 5) ?_
  refine z_callV C 2 12 hM gL_reading_X5_reading rfl hd81_X5_reading ⟨Nat.le_of_ble_eq_true rfl, Nat.le_of_ble_eq_true rfl⟩ (pwm_MC hx.1 hx.2) rfl rfl (Nat.le_of_ble_eq_true rfl) dL_reading_5 (rfl : 5 + 3 = 8) rfl rfl ⟨Nat.le_of_ble_eq_true rfl, Nat.le_of_ble_eq_true rfl⟩ (fun E w h => ?_) ?_ rfl
  · obtain ⟨rfl, rfl, hb⟩ := he E w h
    refine z_catch C (pre := []) (x := ⟨0, 10, 13, 13⟩) (suf := []) hT (fun z hz => nomatch hz) (by decide) (by decide) (ncl_sIOB hN) (List.mem_of_getElem? (i := 6) rfl) (fun qe => ?_)
    refine z_astore (lv' := [(4, _), (0, _), (1, _), (2, _), (3, _)]) C dL_reading_13 (rfl : 13 + 2 = 15) (by decide) rfl ?_
    refine z_iconst C dL_reading_15 (rfl : 15 + 1 = 16) ?_
    exact z_iret C rfl dL_reading_16 (.inr ⟨1, rfl, hb, rfl⟩) (by decide) (by decide)
  intro v w hv
  obtain ⟨ans, rfl, L', K', I', F', R', N', O', rfl, hQ⟩ := hp _ _ hv
  refine z_v1 ?_
  refine z_i2l C rfl dL_reading_8 (rfl : 8 + 1 = 9) ?_
  refine z_last C om ⟨by omega, by omega⟩ (by omega) dL_reading_9 (rfl : 9 + 1 = 10) os ?_
  refine z_goto (pc' := 17) C dL_reading_10 (by decide) ?_
  refine z_iconst C dL_reading_17 (rfl : 17 + 1 = 18) ?_
  exact z_iret C rfl dL_reading_18 (.inl ⟨ans, _, rfl, vpL0, hQ _ vpL0⟩) (by decide) (by decide)
abbrev rmL_errors : Room := { frames := 8, cells := 1, slots := 6, locals := 161 }
theorem w_errors {a1 : Int} {x qo : Nat} {fo : Nat → Int64} {V : Nat → Nat → Int} {q : Nat → Nat} {postC : Option Value → va_W → Prop} {excC : String → va_W → Prop} {Qs : Int → (Nat → Int64) → va_W → Prop} {bad : Int → Prop} (hx : x ∈ L ∧ K x = 5)
    (hM : MC l yX5_errors wsX5_errors rmX5_errors G base [.ref x, .int (iI a1)] (pw G (xo G q V qo fo) L K I F R N O) postC excC)
    (hp : ∀ v w, postC v w → ∃ ans : Int, v = some (.int (iI ans)) ∧ ∃ (L' : List Nat) (K' : Nat → Nat) (I' : Nat → Nat → Int) (F' : Nat → Nat → Option Nat) (R' : Nat → Nat → Int) (N' : Nat → Nat) (O' : Nat → Nat → Option Nat), w = pw G (xo G q V qo fo) L' K' I' F' R' N' O' ∧ ∀ fo', fo' 0 = (iI ans).toInt64 → Qs ans fo' (pw G (xo G q V qo fo') L' K' I' F' R' N' O'))
    (he : ∀ E w, excC E w → w = pw G (xo G q V qo fo) L K I F R N O ∧ ((E = sIOB ∧ bad 1))) :
    MCW l yL_errors wsL_errors rmL_errors G base [.ref x, .int (iI a1), .ref qo] (pw G (xo G q V qo fo) L K I F R N O) (WP (pw G (xo G q V qo fo) L K I F R N O) Qs bad) := by
  refine MCW.of (cc := cL_errors) (hh := [(0, 9, 12, 13)]) (by decide) rfl rfl (Nat.le_of_ble_eq_true rfl) ?_
  intro κ C hT hN hl
  subst hl
  refine z_sub [0, 1, 2] (lv' := [(0, .ref x), (1, .int (iI a1)), (2, .ref qo)]) rfl ?_
  refine z_aload_n C 2 rfl rfl dL_errors_0 (rfl : 0 + 1 = 1) ?_
  refine z_iconst C dL_errors_1 (rfl : 1 + 1 = 2) ?_
  refine z_aload_n C 0 rfl rfl dL_errors_2 (rfl : 2 + 1 = 3) ?_
  refine z_iload_n C 1 rfl rfl dL_errors_3 (rfl : 3 + 1 = 4) ?_
  refine z_callV C 1 6 hM gL_errors_X5_errors rfl hd81_X5_errors ⟨Nat.le_of_ble_eq_true rfl, Nat.le_of_ble_eq_true rfl⟩ (pwm_MC hx.1 hx.2) rfl rfl (Nat.le_of_ble_eq_true rfl) dL_errors_4 (rfl : 4 + 3 = 7) rfl rfl ⟨Nat.le_of_ble_eq_true rfl, Nat.le_of_ble_eq_true rfl⟩ (fun E w h => ?_) ?_ rfl
  · obtain ⟨rfl, rfl, hb⟩ := he E w h
    refine z_catch C (pre := []) (x := ⟨0, 9, 12, 13⟩) (suf := []) hT (fun z hz => nomatch hz) (by decide) (by decide) (ncl_sIOB hN) (List.mem_of_getElem? (i := 6) rfl) (fun qe => ?_)
    refine z_astore_n (lv' := [(3, _), (0, _), (1, _), (2, _)]) C rfl dL_errors_12 (rfl : 12 + 1 = 13) (by decide) rfl ?_
    refine z_iconst C dL_errors_13 (rfl : 13 + 1 = 14) ?_
    exact z_iret C rfl dL_errors_14 (.inr ⟨1, rfl, hb, rfl⟩) (by decide) (by decide)
  intro v w hv
  obtain ⟨ans, rfl, L', K', I', F', R', N', O', rfl, hQ⟩ := hp _ _ hv
  refine z_v1 ?_
  refine z_i2l C rfl dL_errors_7 (rfl : 7 + 1 = 8) ?_
  refine z_last C om ⟨by omega, by omega⟩ (by omega) dL_errors_8 (rfl : 8 + 1 = 9) os ?_
  refine z_goto (pc' := 15) C dL_errors_9 (by decide) ?_
  refine z_iconst C dL_errors_15 (rfl : 15 + 1 = 16) ?_
  exact z_iret C rfl dL_errors_16 (.inl ⟨ans, _, rfl, vpL0, hQ _ vpL0⟩) (by decide) (by decide)
abbrev rmL_shared : Room := { frames := 8, cells := 2, slots := 12, locals := 163 }
theorem w_shared {a1 a2 : Int} {x qo : Nat} {fo : Nat → Int64} {V : Nat → Nat → Int} {q : Nat → Nat} {postC : Option Value → va_W → Prop} {excC : String → va_W → Prop} {Qs : Int → (Nat → Int64) → va_W → Prop} {bad : Int → Prop} (hx : x ∈ L ∧ K x = 5)
    (hM : MC l yX5_shared wsX5_shared rmX5_shared G base [.ref x, .int (iI a1), .int (iI a2)] (pw G (xo G q V qo fo) L K I F R N O) postC excC)
    (hp : ∀ v w, postC v w → ∃ ans : Int, v = some (.int (iI ans)) ∧ ∃ (L' : List Nat) (K' : Nat → Nat) (I' : Nat → Nat → Int) (F' : Nat → Nat → Option Nat) (R' : Nat → Nat → Int) (N' : Nat → Nat) (O' : Nat → Nat → Option Nat), w = pw G (xo G q V qo fo) L' K' I' F' R' N' O' ∧ ∀ fo', fo' 0 = (iI ans).toInt64 → Qs ans fo' (pw G (xo G q V qo fo') L' K' I' F' R' N' O'))
    (he : ∀ E w, excC E w → w = pw G (xo G q V qo fo) L K I F R N O ∧ ((E = sIOB ∧ bad 1))) :
    MCW l yL_shared wsL_shared rmL_shared G base [.ref x, .int (iI a1), .int (iI a2), .ref qo] (pw G (xo G q V qo fo) L K I F R N O) (WP (pw G (xo G q V qo fo) L K I F R N O) Qs bad) := by
  refine MCW.of (cc := cL_shared) (hh := [(0, 10, 13, 13)]) (by decide) rfl rfl (Nat.le_of_ble_eq_true rfl) ?_
  intro κ C hT hN hl
  subst hl
  refine z_sub [0, 1, 2, 3] (lv' := [(0, .ref x), (1, .int (iI a1)), (2, .int (iI a2)), (3, .ref qo)]) rfl ?_
  refine z_aload_n C 3 rfl rfl dL_shared_0 (rfl : 0 + 1 = 1) ?_
  refine z_iconst C dL_shared_1 (rfl : 1 + 1 = 2) ?_
  refine z_aload_n C 0 rfl rfl dL_shared_2 (rfl : 2 + 1 = 3) ?_
  refine z_iload_n C 1 rfl rfl dL_shared_3 (rfl : 3 + 1 = 4) ?_
  refine z_iload_n C 2 rfl rfl dL_shared_4 (rfl : 4 + 1 = 5) ?_
  refine z_callV C 2 12 hM gL_shared_X5_shared rfl hd81_X5_shared ⟨Nat.le_of_ble_eq_true rfl, Nat.le_of_ble_eq_true rfl⟩ (pwm_MC hx.1 hx.2) rfl rfl (Nat.le_of_ble_eq_true rfl) dL_shared_5 (rfl : 5 + 3 = 8) rfl rfl ⟨Nat.le_of_ble_eq_true rfl, Nat.le_of_ble_eq_true rfl⟩ (fun E w h => ?_) ?_ rfl
  · obtain ⟨rfl, rfl, hb⟩ := he E w h
    refine z_catch C (pre := []) (x := ⟨0, 10, 13, 13⟩) (suf := []) hT (fun z hz => nomatch hz) (by decide) (by decide) (ncl_sIOB hN) (List.mem_of_getElem? (i := 6) rfl) (fun qe => ?_)
    refine z_astore (lv' := [(4, _), (0, _), (1, _), (2, _), (3, _)]) C dL_shared_13 (rfl : 13 + 2 = 15) (by decide) rfl ?_
    refine z_iconst C dL_shared_15 (rfl : 15 + 1 = 16) ?_
    exact z_iret C rfl dL_shared_16 (.inr ⟨1, rfl, hb, rfl⟩) (by decide) (by decide)
  intro v w hv
  obtain ⟨ans, rfl, L', K', I', F', R', N', O', rfl, hQ⟩ := hp _ _ hv
  refine z_v1 ?_
  refine z_i2l C rfl dL_shared_8 (rfl : 8 + 1 = 9) ?_
  refine z_last C om ⟨by omega, by omega⟩ (by omega) dL_shared_9 (rfl : 9 + 1 = 10) os ?_
  refine z_goto (pc' := 17) C dL_shared_10 (by decide) ?_
  refine z_iconst C dL_shared_17 (rfl : 17 + 1 = 18) ?_
  exact z_iret C rfl dL_shared_18 (.inl ⟨ans, _, rfl, vpL0, hQ _ vpL0⟩) (by decide) (by decide)
abbrev rmL_houseOf : Room := { frames := 8, cells := 1, slots := 6, locals := 161 }
theorem w_houseOf {a1 : Int} {x qo : Nat} {fo : Nat → Int64} {V : Nat → Nat → Int} {q : Nat → Nat} {postC : Option Value → va_W → Prop} {excC : String → va_W → Prop} {Qs : Int → (Nat → Int64) → va_W → Prop} {bad : Int → Prop} (hx : x ∈ L ∧ K x = 5)
    (hM : MC l yX5_houseOf wsX5_houseOf rmX5_houseOf G base [.ref x, .int (iI a1)] (pw G (xo G q V qo fo) L K I F R N O) postC excC)
    (hp : ∀ v w, postC v w → ∃ ans : Int, v = some (.int (iI ans)) ∧ ∃ (L' : List Nat) (K' : Nat → Nat) (I' : Nat → Nat → Int) (F' : Nat → Nat → Option Nat) (R' : Nat → Nat → Int) (N' : Nat → Nat) (O' : Nat → Nat → Option Nat), w = pw G (xo G q V qo fo) L' K' I' F' R' N' O' ∧ ∀ fo', fo' 0 = (iI ans).toInt64 → Qs ans fo' (pw G (xo G q V qo fo') L' K' I' F' R' N' O'))
    (he : ∀ E w, excC E w → w = pw G (xo G q V qo fo) L K I F R N O ∧ ((E = sIOB ∧ bad 1))) :
    MCW l yL_houseOf wsL_houseOf rmL_houseOf G base [.ref x, .int (iI a1), .ref qo] (pw G (xo G q V qo fo) L K I F R N O) (WP (pw G (xo G q V qo fo) L K I F R N O) Qs bad) := by
  refine MCW.of (cc := cL_houseOf) (hh := [(0, 9, 12, 13)]) (by decide) rfl rfl (Nat.le_of_ble_eq_true rfl) ?_
  intro κ C hT hN hl
  subst hl
  refine z_sub [0, 1, 2] (lv' := [(0, .ref x), (1, .int (iI a1)), (2, .ref qo)]) rfl ?_
  refine z_aload_n C 2 rfl rfl dL_houseOf_0 (rfl : 0 + 1 = 1) ?_
  refine z_iconst C dL_houseOf_1 (rfl : 1 + 1 = 2) ?_
  refine z_aload_n C 0 rfl rfl dL_houseOf_2 (rfl : 2 + 1 = 3) ?_
  refine z_iload_n C 1 rfl rfl dL_houseOf_3 (rfl : 3 + 1 = 4) ?_
  refine z_callV C 1 6 hM gL_houseOf_X5_houseOf rfl hd81_X5_houseOf ⟨Nat.le_of_ble_eq_true rfl, Nat.le_of_ble_eq_true rfl⟩ (pwm_MC hx.1 hx.2) rfl rfl (Nat.le_of_ble_eq_true rfl) dL_houseOf_4 (rfl : 4 + 3 = 7) rfl rfl ⟨Nat.le_of_ble_eq_true rfl, Nat.le_of_ble_eq_true rfl⟩ (fun E w h => ?_) ?_ rfl
  · obtain ⟨rfl, rfl, hb⟩ := he E w h
    refine z_catch C (pre := []) (x := ⟨0, 9, 12, 13⟩) (suf := []) hT (fun z hz => nomatch hz) (by decide) (by decide) (ncl_sIOB hN) (List.mem_of_getElem? (i := 6) rfl) (fun qe => ?_)
    refine z_astore_n (lv' := [(3, _), (0, _), (1, _), (2, _)]) C rfl dL_houseOf_12 (rfl : 12 + 1 = 13) (by decide) rfl ?_
    refine z_iconst C dL_houseOf_13 (rfl : 13 + 1 = 14) ?_
    exact z_iret C rfl dL_houseOf_14 (.inr ⟨1, rfl, hb, rfl⟩) (by decide) (by decide)
  intro v w hv
  obtain ⟨ans, rfl, L', K', I', F', R', N', O', rfl, hQ⟩ := hp _ _ hv
  refine z_v1 ?_
  refine z_i2l C rfl dL_houseOf_7 (rfl : 7 + 1 = 8) ?_
  refine z_last C om ⟨by omega, by omega⟩ (by omega) dL_houseOf_8 (rfl : 8 + 1 = 9) os ?_
  refine z_goto (pc' := 15) C dL_houseOf_9 (by decide) ?_
  refine z_iconst C dL_houseOf_15 (rfl : 15 + 1 = 16) ?_
  exact z_iret C rfl dL_houseOf_16 (.inl ⟨ans, _, rfl, vpL0, hQ _ vpL0⟩) (by decide) (by decide)
abbrev rmL_ownerOf : Room := { frames := 8, cells := 1, slots := 6, locals := 161 }
theorem w_ownerOf {a1 : Int} {x qo : Nat} {fo : Nat → Int64} {V : Nat → Nat → Int} {q : Nat → Nat} {postC : Option Value → va_W → Prop} {excC : String → va_W → Prop} {Qs : Int → (Nat → Int64) → va_W → Prop} {bad : Int → Prop} (hx : x ∈ L ∧ K x = 5)
    (hM : MC l yX5_ownerOf wsX5_ownerOf rmX5_ownerOf G base [.ref x, .int (iI a1)] (pw G (xo G q V qo fo) L K I F R N O) postC excC)
    (hp : ∀ v w, postC v w → ∃ ans : Int, v = some (.int (iI ans)) ∧ ∃ (L' : List Nat) (K' : Nat → Nat) (I' : Nat → Nat → Int) (F' : Nat → Nat → Option Nat) (R' : Nat → Nat → Int) (N' : Nat → Nat) (O' : Nat → Nat → Option Nat), w = pw G (xo G q V qo fo) L' K' I' F' R' N' O' ∧ ∀ fo', fo' 0 = (iI ans).toInt64 → Qs ans fo' (pw G (xo G q V qo fo') L' K' I' F' R' N' O'))
    (he : ∀ E w, excC E w → w = pw G (xo G q V qo fo) L K I F R N O ∧ ((E = sIOB ∧ bad 1))) :
    MCW l yL_ownerOf wsL_ownerOf rmL_ownerOf G base [.ref x, .int (iI a1), .ref qo] (pw G (xo G q V qo fo) L K I F R N O) (WP (pw G (xo G q V qo fo) L K I F R N O) Qs bad) := by
  refine MCW.of (cc := cL_ownerOf) (hh := [(0, 9, 12, 13)]) (by decide) rfl rfl (Nat.le_of_ble_eq_true rfl) ?_
  intro κ C hT hN hl
  subst hl
  refine z_sub [0, 1, 2] (lv' := [(0, .ref x), (1, .int (iI a1)), (2, .ref qo)]) rfl ?_
  refine z_aload_n C 2 rfl rfl dL_ownerOf_0 (rfl : 0 + 1 = 1) ?_
  refine z_iconst C dL_ownerOf_1 (rfl : 1 + 1 = 2) ?_
  refine z_aload_n C 0 rfl rfl dL_ownerOf_2 (rfl : 2 + 1 = 3) ?_
  refine z_iload_n C 1 rfl rfl dL_ownerOf_3 (rfl : 3 + 1 = 4) ?_
  refine z_callV C 1 6 hM gL_ownerOf_X5_ownerOf rfl hd81_X5_ownerOf ⟨Nat.le_of_ble_eq_true rfl, Nat.le_of_ble_eq_true rfl⟩ (pwm_MC hx.1 hx.2) rfl rfl (Nat.le_of_ble_eq_true rfl) dL_ownerOf_4 (rfl : 4 + 3 = 7) rfl rfl ⟨Nat.le_of_ble_eq_true rfl, Nat.le_of_ble_eq_true rfl⟩ (fun E w h => ?_) ?_ rfl
  · obtain ⟨rfl, rfl, hb⟩ := he E w h
    refine z_catch C (pre := []) (x := ⟨0, 9, 12, 13⟩) (suf := []) hT (fun z hz => nomatch hz) (by decide) (by decide) (ncl_sIOB hN) (List.mem_of_getElem? (i := 6) rfl) (fun qe => ?_)
    refine z_astore_n (lv' := [(3, _), (0, _), (1, _), (2, _)]) C rfl dL_ownerOf_12 (rfl : 12 + 1 = 13) (by decide) rfl ?_
    refine z_iconst C dL_ownerOf_13 (rfl : 13 + 1 = 14) ?_
    exact z_iret C rfl dL_ownerOf_14 (.inr ⟨1, rfl, hb, rfl⟩) (by decide) (by decide)
  intro v w hv
  obtain ⟨ans, rfl, L', K', I', F', R', N', O', rfl, hQ⟩ := hp _ _ hv
  refine z_v1 ?_
  refine z_i2l C rfl dL_ownerOf_7 (rfl : 7 + 1 = 8) ?_
  refine z_last C om ⟨by omega, by omega⟩ (by omega) dL_ownerOf_8 (rfl : 8 + 1 = 9) os ?_
  refine z_goto (pc' := 15) C dL_ownerOf_9 (by decide) ?_
  refine z_iconst C dL_ownerOf_15 (rfl : 15 + 1 = 16) ?_
  exact z_iret C rfl dL_ownerOf_16 (.inl ⟨ans, _, rfl, vpL0, hQ _ vpL0⟩) (by decide) (by decide)
abbrev rmL_toldModel : Room := { frames := 8, cells := 1, slots := 6, locals := 161 }
theorem w_toldModel {a1 : Int} {x qo : Nat} {fo : Nat → Int64} {V : Nat → Nat → Int} {q : Nat → Nat} {postC : Option Value → va_W → Prop} {excC : String → va_W → Prop} {Qs : Int → (Nat → Int64) → va_W → Prop} {bad : Int → Prop} (hx : x ∈ L ∧ K x = 5)
    (hM : MC l yX5_toldModel wsX5_toldModel rmX5_toldModel G base [.ref x, .int (iI a1)] (pw G (xo G q V qo fo) L K I F R N O) postC excC)
    (hp : ∀ v w, postC v w → ∃ ans : Int, v = some (.int (iI ans)) ∧ ∃ (L' : List Nat) (K' : Nat → Nat) (I' : Nat → Nat → Int) (F' : Nat → Nat → Option Nat) (R' : Nat → Nat → Int) (N' : Nat → Nat) (O' : Nat → Nat → Option Nat), w = pw G (xo G q V qo fo) L' K' I' F' R' N' O' ∧ ∀ fo', fo' 0 = (iI ans).toInt64 → Qs ans fo' (pw G (xo G q V qo fo') L' K' I' F' R' N' O'))
    (he : ∀ E w, excC E w → w = pw G (xo G q V qo fo) L K I F R N O ∧ ((E = sIOB ∧ bad 1))) :
    MCW l yL_toldModel wsL_toldModel rmL_toldModel G base [.ref x, .int (iI a1), .ref qo] (pw G (xo G q V qo fo) L K I F R N O) (WP (pw G (xo G q V qo fo) L K I F R N O) Qs bad) := by
  refine MCW.of (cc := cL_toldModel) (hh := [(0, 9, 12, 13)]) (by decide) rfl rfl (Nat.le_of_ble_eq_true rfl) ?_
  intro κ C hT hN hl
  subst hl
  refine z_sub [0, 1, 2] (lv' := [(0, .ref x), (1, .int (iI a1)), (2, .ref qo)]) rfl ?_
  refine z_aload_n C 2 rfl rfl dL_toldModel_0 (rfl : 0 + 1 = 1) ?_
  refine z_iconst C dL_toldModel_1 (rfl : 1 + 1 = 2) ?_
  refine z_aload_n C 0 rfl rfl dL_toldModel_2 (rfl : 2 + 1 = 3) ?_
  refine z_iload_n C 1 rfl rfl dL_toldModel_3 (rfl : 3 + 1 = 4) ?_
  refine z_callV C 1 6 hM gL_toldModel_X5_toldModel rfl hd81_X5_toldModel ⟨Nat.le_of_ble_eq_true rfl, Nat.le_of_ble_eq_true rfl⟩ (pwm_MC hx.1 hx.2) rfl rfl (Nat.le_of_ble_eq_true rfl) dL_toldModel_4 (rfl : 4 + 3 = 7) rfl rfl ⟨Nat.le_of_ble_eq_true rfl, Nat.le_of_ble_eq_true rfl⟩ (fun E w h => ?_) ?_ rfl
  · obtain ⟨rfl, rfl, hb⟩ := he E w h
    refine z_catch C (pre := []) (x := ⟨0, 9, 12, 13⟩) (suf := []) hT (fun z hz => nomatch hz) (by decide) (by decide) (ncl_sIOB hN) (List.mem_of_getElem? (i := 6) rfl) (fun qe => ?_)
    refine z_astore_n (lv' := [(3, _), (0, _), (1, _), (2, _)]) C rfl dL_toldModel_12 (rfl : 12 + 1 = 13) (by decide) rfl ?_
    refine z_iconst C dL_toldModel_13 (rfl : 13 + 1 = 14) ?_
    exact z_iret C rfl dL_toldModel_14 (.inr ⟨1, rfl, hb, rfl⟩) (by decide) (by decide)
  intro v w hv
  obtain ⟨ans, rfl, L', K', I', F', R', N', O', rfl, hQ⟩ := hp _ _ hv
  refine z_v1 ?_
  refine z_i2l C rfl dL_toldModel_7 (rfl : 7 + 1 = 8) ?_
  refine z_last C om ⟨by omega, by omega⟩ (by omega) dL_toldModel_8 (rfl : 8 + 1 = 9) os ?_
  refine z_goto (pc' := 15) C dL_toldModel_9 (by decide) ?_
  refine z_iconst C dL_toldModel_15 (rfl : 15 + 1 = 16) ?_
  exact z_iret C rfl dL_toldModel_16 (.inl ⟨ans, _, rfl, vpL0, hQ _ vpL0⟩) (by decide) (by decide)
abbrev rmL_slips : Room := { frames := 8, cells := 1, slots := 6, locals := 161 }
theorem w_slips {a1 : Int} {x qo : Nat} {fo : Nat → Int64} {V : Nat → Nat → Int} {q : Nat → Nat} {postC : Option Value → va_W → Prop} {excC : String → va_W → Prop} {Qs : Int → (Nat → Int64) → va_W → Prop} {bad : Int → Prop} (hx : x ∈ L ∧ K x = 5)
    (hM : MC l yX5_slips wsX5_slips rmX5_slips G base [.ref x, .int (iI a1)] (pw G (xo G q V qo fo) L K I F R N O) postC excC)
    (hp : ∀ v w, postC v w → ∃ ans : Int, v = some (.int (iI ans)) ∧ ∃ (L' : List Nat) (K' : Nat → Nat) (I' : Nat → Nat → Int) (F' : Nat → Nat → Option Nat) (R' : Nat → Nat → Int) (N' : Nat → Nat) (O' : Nat → Nat → Option Nat), w = pw G (xo G q V qo fo) L' K' I' F' R' N' O' ∧ ∀ fo', fo' 0 = (iI ans).toInt64 → Qs ans fo' (pw G (xo G q V qo fo') L' K' I' F' R' N' O'))
    (he : ∀ E w, excC E w → w = pw G (xo G q V qo fo) L K I F R N O ∧ ((E = sIOB ∧ bad 1))) :
    MCW l yL_slips wsL_slips rmL_slips G base [.ref x, .int (iI a1), .ref qo] (pw G (xo G q V qo fo) L K I F R N O) (WP (pw G (xo G q V qo fo) L K I F R N O) Qs bad) := by
  refine MCW.of (cc := cL_slips) (hh := [(0, 9, 12, 13)]) (by decide) rfl rfl (Nat.le_of_ble_eq_true rfl) ?_
  intro κ C hT hN hl
  subst hl
  refine z_sub [0, 1, 2] (lv' := [(0, .ref x), (1, .int (iI a1)), (2, .ref qo)]) rfl ?_
  refine z_aload_n C 2 rfl rfl dL_slips_0 (rfl : 0 + 1 = 1) ?_
  refine z_iconst C dL_slips_1 (rfl : 1 + 1 = 2) ?_
  refine z_aload_n C 0 rfl rfl dL_slips_2 (rfl : 2 + 1 = 3) ?_
  refine z_iload_n C 1 rfl rfl dL_slips_3 (rfl : 3 + 1 = 4) ?_
  refine z_callV C 1 6 hM gL_slips_X5_slips rfl hd81_X5_slips ⟨Nat.le_of_ble_eq_true rfl, Nat.le_of_ble_eq_true rfl⟩ (pwm_MC hx.1 hx.2) rfl rfl (Nat.le_of_ble_eq_true rfl) dL_slips_4 (rfl : 4 + 3 = 7) rfl rfl ⟨Nat.le_of_ble_eq_true rfl, Nat.le_of_ble_eq_true rfl⟩ (fun E w h => ?_) ?_ rfl
  · obtain ⟨rfl, rfl, hb⟩ := he E w h
    refine z_catch C (pre := []) (x := ⟨0, 9, 12, 13⟩) (suf := []) hT (fun z hz => nomatch hz) (by decide) (by decide) (ncl_sIOB hN) (List.mem_of_getElem? (i := 6) rfl) (fun qe => ?_)
    refine z_astore_n (lv' := [(3, _), (0, _), (1, _), (2, _)]) C rfl dL_slips_12 (rfl : 12 + 1 = 13) (by decide) rfl ?_
    refine z_iconst C dL_slips_13 (rfl : 13 + 1 = 14) ?_
    exact z_iret C rfl dL_slips_14 (.inr ⟨1, rfl, hb, rfl⟩) (by decide) (by decide)
  intro v w hv
  obtain ⟨ans, rfl, L', K', I', F', R', N', O', rfl, hQ⟩ := hp _ _ hv
  refine z_v1 ?_
  refine z_i2l C rfl dL_slips_7 (rfl : 7 + 1 = 8) ?_
  refine z_last C om ⟨by omega, by omega⟩ (by omega) dL_slips_8 (rfl : 8 + 1 = 9) os ?_
  refine z_goto (pc' := 15) C dL_slips_9 (by decide) ?_
  refine z_iconst C dL_slips_15 (rfl : 15 + 1 = 16) ?_
  exact z_iret C rfl dL_slips_16 (.inl ⟨ans, _, rfl, vpL0, hQ _ vpL0⟩) (by decide) (by decide)
abbrev rmL_family : Room := { frames := 8, cells := 1, slots := 6, locals := 161 }
theorem w_family {a1 : Int} {x qo : Nat} {fo : Nat → Int64} {V : Nat → Nat → Int} {q : Nat → Nat} {postC : Option Value → va_W → Prop} {excC : String → va_W → Prop} {Qs : Int → (Nat → Int64) → va_W → Prop} {bad : Int → Prop} (hx : x ∈ L ∧ K x = 5)
    (hM : MC l yX5_family wsX5_family rmX5_family G base [.ref x, .int (iI a1)] (pw G (xo G q V qo fo) L K I F R N O) postC excC)
    (hp : ∀ v w, postC v w → ∃ ans : Int, v = some (.int (iI ans)) ∧ ∃ (L' : List Nat) (K' : Nat → Nat) (I' : Nat → Nat → Int) (F' : Nat → Nat → Option Nat) (R' : Nat → Nat → Int) (N' : Nat → Nat) (O' : Nat → Nat → Option Nat), w = pw G (xo G q V qo fo) L' K' I' F' R' N' O' ∧ ∀ fo', fo' 0 = (iI ans).toInt64 → Qs ans fo' (pw G (xo G q V qo fo') L' K' I' F' R' N' O'))
    (he : ∀ E w, excC E w → w = pw G (xo G q V qo fo) L K I F R N O ∧ ((E = sIOB ∧ bad 1))) :
    MCW l yL_family wsL_family rmL_family G base [.ref x, .int (iI a1), .ref qo] (pw G (xo G q V qo fo) L K I F R N O) (WP (pw G (xo G q V qo fo) L K I F R N O) Qs bad) := by
  refine MCW.of (cc := cL_family) (hh := [(0, 9, 12, 13)]) (by decide) rfl rfl (Nat.le_of_ble_eq_true rfl) ?_
  intro κ C hT hN hl
  subst hl
  refine z_sub [0, 1, 2] (lv' := [(0, .ref x), (1, .int (iI a1)), (2, .ref qo)]) rfl ?_
  refine z_aload_n C 2 rfl rfl dL_family_0 (rfl : 0 + 1 = 1) ?_
  refine z_iconst C dL_family_1 (rfl : 1 + 1 = 2) ?_
  refine z_aload_n C 0 rfl rfl dL_family_2 (rfl : 2 + 1 = 3) ?_
  refine z_iload_n C 1 rfl rfl dL_family_3 (rfl : 3 + 1 = 4) ?_
  refine z_callV C 1 6 hM gL_family_X5_family rfl hd81_X5_family ⟨Nat.le_of_ble_eq_true rfl, Nat.le_of_ble_eq_true rfl⟩ (pwm_MC hx.1 hx.2) rfl rfl (Nat.le_of_ble_eq_true rfl) dL_family_4 (rfl : 4 + 3 = 7) rfl rfl ⟨Nat.le_of_ble_eq_true rfl, Nat.le_of_ble_eq_true rfl⟩ (fun E w h => ?_) ?_ rfl
  · obtain ⟨rfl, rfl, hb⟩ := he E w h
    refine z_catch C (pre := []) (x := ⟨0, 9, 12, 13⟩) (suf := []) hT (fun z hz => nomatch hz) (by decide) (by decide) (ncl_sIOB hN) (List.mem_of_getElem? (i := 6) rfl) (fun qe => ?_)
    refine z_astore_n (lv' := [(3, _), (0, _), (1, _), (2, _)]) C rfl dL_family_12 (rfl : 12 + 1 = 13) (by decide) rfl ?_
    refine z_iconst C dL_family_13 (rfl : 13 + 1 = 14) ?_
    exact z_iret C rfl dL_family_14 (.inr ⟨1, rfl, hb, rfl⟩) (by decide) (by decide)
  intro v w hv
  obtain ⟨ans, rfl, L', K', I', F', R', N', O', rfl, hQ⟩ := hp _ _ hv
  refine z_v1 ?_
  refine z_i2l C rfl dL_family_7 (rfl : 7 + 1 = 8) ?_
  refine z_last C om ⟨by omega, by omega⟩ (by omega) dL_family_8 (rfl : 8 + 1 = 9) os ?_
  refine z_goto (pc' := 15) C dL_family_9 (by decide) ?_
  refine z_iconst C dL_family_15 (rfl : 15 + 1 = 16) ?_
  exact z_iret C rfl dL_family_16 (.inl ⟨ans, _, rfl, vpL0, hQ _ vpL0⟩) (by decide) (by decide)
abbrev rmL_familyByErrors : Room := { frames := 8, cells := 1, slots := 6, locals := 208 }
theorem w_familyByErrors {a1 : Int} {x qo : Nat} {fo : Nat → Int64} {V : Nat → Nat → Int} {q : Nat → Nat} {postC : Option Value → va_W → Prop} {excC : String → va_W → Prop} {Qs : Int → (Nat → Int64) → va_W → Prop} {bad : Int → Prop} (hx : x ∈ L ∧ K x = 5)
    (hM : MC l yX5_familyByErrors wsX5_familyByErrors rmX5_familyByErrors G base [.ref x, .int (iI a1)] (pw G (xo G q V qo fo) L K I F R N O) postC excC)
    (hp : ∀ v w, postC v w → ∃ ans : Int, v = some (.int (iI ans)) ∧ ∃ (L' : List Nat) (K' : Nat → Nat) (I' : Nat → Nat → Int) (F' : Nat → Nat → Option Nat) (R' : Nat → Nat → Int) (N' : Nat → Nat) (O' : Nat → Nat → Option Nat), w = pw G (xo G q V qo fo) L' K' I' F' R' N' O' ∧ ∀ fo', fo' 0 = (iI ans).toInt64 → Qs ans fo' (pw G (xo G q V qo fo') L' K' I' F' R' N' O'))
    (he : ∀ E w, excC E w → w = pw G (xo G q V qo fo) L K I F R N O ∧ ((E = sIOB ∧ bad 1))) :
    MCW l yL_familyByErrors wsL_familyByErrors rmL_familyByErrors G base [.ref x, .int (iI a1), .ref qo] (pw G (xo G q V qo fo) L K I F R N O) (WP (pw G (xo G q V qo fo) L K I F R N O) Qs bad) := by
  refine MCW.of (cc := cL_familyByErrors) (hh := [(0, 9, 12, 13)]) (by decide) rfl rfl (Nat.le_of_ble_eq_true rfl) ?_
  intro κ C hT hN hl
  subst hl
  refine z_sub [0, 1, 2] (lv' := [(0, .ref x), (1, .int (iI a1)), (2, .ref qo)]) rfl ?_
  refine z_aload_n C 2 rfl rfl dL_familyByErrors_0 (rfl : 0 + 1 = 1) ?_
  refine z_iconst C dL_familyByErrors_1 (rfl : 1 + 1 = 2) ?_
  refine z_aload_n C 0 rfl rfl dL_familyByErrors_2 (rfl : 2 + 1 = 3) ?_
  refine z_iload_n C 1 rfl rfl dL_familyByErrors_3 (rfl : 3 + 1 = 4) ?_
  refine z_callV C 1 6 hM gL_familyByErrors_X5_familyByErrors rfl hd81_X5_familyByErrors ⟨Nat.le_of_ble_eq_true rfl, Nat.le_of_ble_eq_true rfl⟩ (pwm_MC hx.1 hx.2) rfl rfl (Nat.le_of_ble_eq_true rfl) dL_familyByErrors_4 (rfl : 4 + 3 = 7) rfl rfl ⟨Nat.le_of_ble_eq_true rfl, Nat.le_of_ble_eq_true rfl⟩ (fun E w h => ?_) ?_ rfl
  · obtain ⟨rfl, rfl, hb⟩ := he E w h
    refine z_catch C (pre := []) (x := ⟨0, 9, 12, 13⟩) (suf := []) hT (fun z hz => nomatch hz) (by decide) (by decide) (ncl_sIOB hN) (List.mem_of_getElem? (i := 6) rfl) (fun qe => ?_)
    refine z_astore_n (lv' := [(3, _), (0, _), (1, _), (2, _)]) C rfl dL_familyByErrors_12 (rfl : 12 + 1 = 13) (by decide) rfl ?_
    refine z_iconst C dL_familyByErrors_13 (rfl : 13 + 1 = 14) ?_
    exact z_iret C rfl dL_familyByErrors_14 (.inr ⟨1, rfl, hb, rfl⟩) (by decide) (by decide)
  intro v w hv
  obtain ⟨ans, rfl, L', K', I', F', R', N', O', rfl, hQ⟩ := hp _ _ hv
  refine z_v1 ?_
  refine z_i2l C rfl dL_familyByErrors_7 (rfl : 7 + 1 = 8) ?_
  refine z_last C om ⟨by omega, by omega⟩ (by omega) dL_familyByErrors_8 (rfl : 8 + 1 = 9) os ?_
  refine z_goto (pc' := 15) C dL_familyByErrors_9 (by decide) ?_
  refine z_iconst C dL_familyByErrors_15 (rfl : 15 + 1 = 16) ?_
  exact z_iret C rfl dL_familyByErrors_16 (.inl ⟨ans, _, rfl, vpL0, hQ _ vpL0⟩) (by decide) (by decide)
abbrev rmL_guess : Room := { frames := 8, cells := 1, slots := 6, locals := 181 }
theorem w_guess {a1 : Int} {x qo : Nat} {fo : Nat → Int64} {V : Nat → Nat → Int} {q : Nat → Nat} {postC : Option Value → va_W → Prop} {excC : String → va_W → Prop} {Qs : Int → (Nat → Int64) → va_W → Prop} {bad : Int → Prop} (hx : x ∈ L ∧ K x = 5)
    (hM : MC l yX5_guess wsX5_guess rmX5_guess G base [.ref x, .int (iI a1)] (pw G (xo G q V qo fo) L K I F R N O) postC excC)
    (hp : ∀ v w, postC v w → ∃ ans : Int, v = some (.int (iI ans)) ∧ ∃ (L' : List Nat) (K' : Nat → Nat) (I' : Nat → Nat → Int) (F' : Nat → Nat → Option Nat) (R' : Nat → Nat → Int) (N' : Nat → Nat) (O' : Nat → Nat → Option Nat), w = pw G (xo G q V qo fo) L' K' I' F' R' N' O' ∧ ∀ fo', fo' 0 = (iI ans).toInt64 → Qs ans fo' (pw G (xo G q V qo fo') L' K' I' F' R' N' O'))
    (he : ∀ E w, excC E w → w = pw G (xo G q V qo fo) L K I F R N O ∧ ((E = sIOB ∧ bad 1))) :
    MCW l yL_guess wsL_guess rmL_guess G base [.ref x, .int (iI a1), .ref qo] (pw G (xo G q V qo fo) L K I F R N O) (WP (pw G (xo G q V qo fo) L K I F R N O) Qs bad) := by
  refine MCW.of (cc := cL_guess) (hh := [(0, 9, 12, 13)]) (by decide) rfl rfl (Nat.le_of_ble_eq_true rfl) ?_
  intro κ C hT hN hl
  subst hl
  refine z_sub [0, 1, 2] (lv' := [(0, .ref x), (1, .int (iI a1)), (2, .ref qo)]) rfl ?_
  refine z_aload_n C 2 rfl rfl dL_guess_0 (rfl : 0 + 1 = 1) ?_
  refine z_iconst C dL_guess_1 (rfl : 1 + 1 = 2) ?_
  refine z_aload_n C 0 rfl rfl dL_guess_2 (rfl : 2 + 1 = 3) ?_
  refine z_iload_n C 1 rfl rfl dL_guess_3 (rfl : 3 + 1 = 4) ?_
  refine z_callV C 1 6 hM gL_guess_X5_guess rfl hd81_X5_guess ⟨Nat.le_of_ble_eq_true rfl, Nat.le_of_ble_eq_true rfl⟩ (pwm_MC hx.1 hx.2) rfl rfl (Nat.le_of_ble_eq_true rfl) dL_guess_4 (rfl : 4 + 3 = 7) rfl rfl ⟨Nat.le_of_ble_eq_true rfl, Nat.le_of_ble_eq_true rfl⟩ (fun E w h => ?_) ?_ rfl
  · obtain ⟨rfl, rfl, hb⟩ := he E w h
    refine z_catch C (pre := []) (x := ⟨0, 9, 12, 13⟩) (suf := []) hT (fun z hz => nomatch hz) (by decide) (by decide) (ncl_sIOB hN) (List.mem_of_getElem? (i := 6) rfl) (fun qe => ?_)
    refine z_astore_n (lv' := [(3, _), (0, _), (1, _), (2, _)]) C rfl dL_guess_12 (rfl : 12 + 1 = 13) (by decide) rfl ?_
    refine z_iconst C dL_guess_13 (rfl : 13 + 1 = 14) ?_
    exact z_iret C rfl dL_guess_14 (.inr ⟨1, rfl, hb, rfl⟩) (by decide) (by decide)
  intro v w hv
  obtain ⟨ans, rfl, L', K', I', F', R', N', O', rfl, hQ⟩ := hp _ _ hv
  refine z_v1 ?_
  refine z_i2l C rfl dL_guess_7 (rfl : 7 + 1 = 8) ?_
  refine z_last C om ⟨by omega, by omega⟩ (by omega) dL_guess_8 (rfl : 8 + 1 = 9) os ?_
  refine z_goto (pc' := 15) C dL_guess_9 (by decide) ?_
  refine z_iconst C dL_guess_15 (rfl : 15 + 1 = 16) ?_
  exact z_iret C rfl dL_guess_16 (.inl ⟨ans, _, rfl, vpL0, hQ _ vpL0⟩) (by decide) (by decide)
abbrev rmL_spread : Room := { frames := 9, cells := 2, slots := 12, locals := 202 }
theorem w_spread {a1 a2 : Int} {x qo : Nat} {fo : Nat → Int64} {V : Nat → Nat → Int} {q : Nat → Nat} {postC : Option Value → va_W → Prop} {excC : String → va_W → Prop} {Qs : Int → (Nat → Int64) → va_W → Prop} {bad : Int → Prop} (hx : x ∈ L ∧ K x = 5)
    (hM : MC l yX5_spread wsX5_spread rmX5_spread G base [.ref x, .int (iI a1), .int (iI a2)] (pw G (xo G q V qo fo) L K I F R N O) postC excC)
    (hp : ∀ v w, postC v w → ∃ ans : Int, v = some (.int (iI ans)) ∧ ∃ (L' : List Nat) (K' : Nat → Nat) (I' : Nat → Nat → Int) (F' : Nat → Nat → Option Nat) (R' : Nat → Nat → Int) (N' : Nat → Nat) (O' : Nat → Nat → Option Nat), w = pw G (xo G q V qo fo) L' K' I' F' R' N' O' ∧ ∀ fo', fo' 0 = (iI ans).toInt64 → Qs ans fo' (pw G (xo G q V qo fo') L' K' I' F' R' N' O'))
    (he : ∀ E w, excC E w → w = pw G (xo G q V qo fo) L K I F R N O ∧ ((E = sIOB ∧ bad 1) ∨ (E = sIAE ∧ bad 2))) :
    MCW l yL_spread wsL_spread rmL_spread G base [.ref x, .int (iI a1), .int (iI a2), .ref qo] (pw G (xo G q V qo fo) L K I F R N O) (WP (pw G (xo G q V qo fo) L K I F R N O) Qs bad) := by
  refine MCW.of (cc := cL_spread) (hh := [(0, 10, 13, 13), (0, 10, 17, 15)]) (by decide) rfl rfl (Nat.le_of_ble_eq_true rfl) ?_
  intro κ C hT hN hl
  subst hl
  refine z_sub [0, 1, 2, 3] (lv' := [(0, .ref x), (1, .int (iI a1)), (2, .int (iI a2)), (3, .ref qo)]) rfl ?_
  refine z_aload_n C 3 rfl rfl dL_spread_0 (rfl : 0 + 1 = 1) ?_
  refine z_iconst C dL_spread_1 (rfl : 1 + 1 = 2) ?_
  refine z_aload_n C 0 rfl rfl dL_spread_2 (rfl : 2 + 1 = 3) ?_
  refine z_iload_n C 1 rfl rfl dL_spread_3 (rfl : 3 + 1 = 4) ?_
  refine z_iload_n C 2 rfl rfl dL_spread_4 (rfl : 4 + 1 = 5) ?_
  refine z_callV C 2 12 hM gL_spread_X5_spread rfl hd81_X5_spread ⟨Nat.le_of_ble_eq_true rfl, Nat.le_of_ble_eq_true rfl⟩ (pwm_MC hx.1 hx.2) rfl rfl (Nat.le_of_ble_eq_true rfl) dL_spread_5 (rfl : 5 + 3 = 8) rfl rfl ⟨Nat.le_of_ble_eq_true rfl, Nat.le_of_ble_eq_true rfl⟩ (fun E w h => ?_) ?_ rfl
  · obtain ⟨rfl, hE⟩ := he E w h
    rcases hE with ⟨rfl, hb⟩ | ⟨rfl, hb⟩
    · refine z_catch C (pre := []) (x := ⟨0, 10, 13, 13⟩) (suf := [⟨0, 10, 17, 15⟩]) hT (fun z hz => nomatch hz) (by decide) (by decide) (ncl_sIOB hN) (List.mem_of_getElem? (i := 6) rfl) (fun qe => ?_)
      refine z_astore (lv' := [(4, _), (0, _), (1, _), (2, _), (3, _)]) C dL_spread_13 (rfl : 13 + 2 = 15) (by decide) rfl ?_
      refine z_iconst C dL_spread_15 (rfl : 15 + 1 = 16) ?_
      exact z_iret C rfl dL_spread_16 (.inr ⟨1, rfl, hb, rfl⟩) (by decide) (by decide)
    · refine z_catch C (pre := [⟨0, 10, 13, 13⟩]) (x := ⟨0, 10, 17, 15⟩) (suf := []) hT (List.forall_mem_cons.mpr ⟨⟨by decide, sIOB, ncl_sIOB hN, ncc_sIAE_sIOB hN⟩, fun z hz => nomatch hz⟩) (by decide) (by decide) (ncl_sIAE hN) (List.mem_of_getElem? (i := 4) rfl) (fun qe => ?_)
      refine z_astore (lv' := [(4, _), (0, _), (1, _), (2, _), (3, _)]) C dL_spread_17 (rfl : 17 + 2 = 19) (by decide) rfl ?_
      refine z_iconst C dL_spread_19 (rfl : 19 + 1 = 20) ?_
      exact z_iret C rfl dL_spread_20 (.inr ⟨2, rfl, hb, rfl⟩) (by decide) (by decide)
  intro v w hv
  obtain ⟨ans, rfl, L', K', I', F', R', N', O', rfl, hQ⟩ := hp _ _ hv
  refine z_v1 ?_
  refine z_i2l C rfl dL_spread_8 (rfl : 8 + 1 = 9) ?_
  refine z_last C om ⟨by omega, by omega⟩ (by omega) dL_spread_9 (rfl : 9 + 1 = 10) os ?_
  refine z_goto (pc' := 21) C dL_spread_10 (by decide) ?_
  refine z_iconst C dL_spread_21 (rfl : 21 + 1 = 22) ?_
  exact z_iret C rfl dL_spread_22 (.inl ⟨ans, _, rfl, vpL0, hQ _ vpL0⟩) (by decide) (by decide)
abbrev rmL_sources : Room := { frames := 9, cells := 2, slots := 12, locals := 206 }
theorem w_sources {a1 a2 : Int} {x qo : Nat} {fo : Nat → Int64} {V : Nat → Nat → Int} {q : Nat → Nat} {postC : Option Value → va_W → Prop} {excC : String → va_W → Prop} {Qs : Int → (Nat → Int64) → va_W → Prop} {bad : Int → Prop} (hx : x ∈ L ∧ K x = 5)
    (hM : MC l yX5_sources wsX5_sources rmX5_sources G base [.ref x, .int (iI a1), .int (iI a2)] (pw G (xo G q V qo fo) L K I F R N O) postC excC)
    (hp : ∀ v w, postC v w → ∃ ans : Int, v = some (.int (iI ans)) ∧ ∃ (L' : List Nat) (K' : Nat → Nat) (I' : Nat → Nat → Int) (F' : Nat → Nat → Option Nat) (R' : Nat → Nat → Int) (N' : Nat → Nat) (O' : Nat → Nat → Option Nat), w = pw G (xo G q V qo fo) L' K' I' F' R' N' O' ∧ ∀ fo', fo' 0 = (iI ans).toInt64 → Qs ans fo' (pw G (xo G q V qo fo') L' K' I' F' R' N' O'))
    (he : ∀ E w, excC E w → w = pw G (xo G q V qo fo) L K I F R N O ∧ ((E = sIOB ∧ bad 1) ∨ (E = sIAE ∧ bad 2))) :
    MCW l yL_sources wsL_sources rmL_sources G base [.ref x, .int (iI a1), .int (iI a2), .ref qo] (pw G (xo G q V qo fo) L K I F R N O) (WP (pw G (xo G q V qo fo) L K I F R N O) Qs bad) := by
  refine MCW.of (cc := cL_sources) (hh := [(0, 10, 13, 13), (0, 10, 17, 15)]) (by decide) rfl rfl (Nat.le_of_ble_eq_true rfl) ?_
  intro κ C hT hN hl
  subst hl
  refine z_sub [0, 1, 2, 3] (lv' := [(0, .ref x), (1, .int (iI a1)), (2, .int (iI a2)), (3, .ref qo)]) rfl ?_
  refine z_aload_n C 3 rfl rfl dL_sources_0 (rfl : 0 + 1 = 1) ?_
  refine z_iconst C dL_sources_1 (rfl : 1 + 1 = 2) ?_
  refine z_aload_n C 0 rfl rfl dL_sources_2 (rfl : 2 + 1 = 3) ?_
  refine z_iload_n C 1 rfl rfl dL_sources_3 (rfl : 3 + 1 = 4) ?_
  refine z_iload_n C 2 rfl rfl dL_sources_4 (rfl : 4 + 1 = 5) ?_
  refine z_callV C 2 12 hM gL_sources_X5_sources rfl hd81_X5_sources ⟨Nat.le_of_ble_eq_true rfl, Nat.le_of_ble_eq_true rfl⟩ (pwm_MC hx.1 hx.2) rfl rfl (Nat.le_of_ble_eq_true rfl) dL_sources_5 (rfl : 5 + 3 = 8) rfl rfl ⟨Nat.le_of_ble_eq_true rfl, Nat.le_of_ble_eq_true rfl⟩ (fun E w h => ?_) ?_ rfl
  · obtain ⟨rfl, hE⟩ := he E w h
    rcases hE with ⟨rfl, hb⟩ | ⟨rfl, hb⟩
    · refine z_catch C (pre := []) (x := ⟨0, 10, 13, 13⟩) (suf := [⟨0, 10, 17, 15⟩]) hT (fun z hz => nomatch hz) (by decide) (by decide) (ncl_sIOB hN) (List.mem_of_getElem? (i := 6) rfl) (fun qe => ?_)
      refine z_astore (lv' := [(4, _), (0, _), (1, _), (2, _), (3, _)]) C dL_sources_13 (rfl : 13 + 2 = 15) (by decide) rfl ?_
      refine z_iconst C dL_sources_15 (rfl : 15 + 1 = 16) ?_
      exact z_iret C rfl dL_sources_16 (.inr ⟨1, rfl, hb, rfl⟩) (by decide) (by decide)
    · refine z_catch C (pre := [⟨0, 10, 13, 13⟩]) (x := ⟨0, 10, 17, 15⟩) (suf := []) hT (List.forall_mem_cons.mpr ⟨⟨by decide, sIOB, ncl_sIOB hN, ncc_sIAE_sIOB hN⟩, fun z hz => nomatch hz⟩) (by decide) (by decide) (ncl_sIAE hN) (List.mem_of_getElem? (i := 4) rfl) (fun qe => ?_)
      refine z_astore (lv' := [(4, _), (0, _), (1, _), (2, _), (3, _)]) C dL_sources_17 (rfl : 17 + 2 = 19) (by decide) rfl ?_
      refine z_iconst C dL_sources_19 (rfl : 19 + 1 = 20) ?_
      exact z_iret C rfl dL_sources_20 (.inr ⟨2, rfl, hb, rfl⟩) (by decide) (by decide)
  intro v w hv
  obtain ⟨ans, rfl, L', K', I', F', R', N', O', rfl, hQ⟩ := hp _ _ hv
  refine z_v1 ?_
  refine z_i2l C rfl dL_sources_8 (rfl : 8 + 1 = 9) ?_
  refine z_last C om ⟨by omega, by omega⟩ (by omega) dL_sources_9 (rfl : 9 + 1 = 10) os ?_
  refine z_goto (pc' := 21) C dL_sources_10 (by decide) ?_
  refine z_iconst C dL_sources_21 (rfl : 21 + 1 = 22) ?_
  exact z_iret C rfl dL_sources_22 (.inl ⟨ans, _, rfl, vpL0, hQ _ vpL0⟩) (by decide) (by decide)
abbrev rmL_hasLetter : Room := { frames := 8, cells := 2, slots := 12, locals := 163 }
theorem w_hasLetter {a1 a2 : Int} {x qo : Nat} {fo : Nat → Int64} {V : Nat → Nat → Int} {q : Nat → Nat} {postC : Option Value → va_W → Prop} {excC : String → va_W → Prop} {Qs : Int → (Nat → Int64) → va_W → Prop} {bad : Int → Prop} (hx : x ∈ L ∧ K x = 5)
    (hM : MC l yX5_hasLetter wsX5_hasLetter rmX5_hasLetter G base [.ref x, .int (iI a1), .int (iI a2)] (pw G (xo G q V qo fo) L K I F R N O) postC excC)
    (hp : ∀ v w, postC v w → ∃ ans : Int, v = some (.int (iI ans)) ∧ (ans = 0 ∨ ans = 1) ∧ ∃ (L' : List Nat) (K' : Nat → Nat) (I' : Nat → Nat → Int) (F' : Nat → Nat → Option Nat) (R' : Nat → Nat → Int) (N' : Nat → Nat) (O' : Nat → Nat → Option Nat), w = pw G (xo G q V qo fo) L' K' I' F' R' N' O' ∧ ∀ fo', fo' 0 = (iI ans).toInt64 → Qs ans fo' (pw G (xo G q V qo fo') L' K' I' F' R' N' O'))
    (he : ∀ E w, excC E w → w = pw G (xo G q V qo fo) L K I F R N O ∧ ((E = sIOB ∧ bad 1))) :
    MCW l yL_hasLetter wsL_hasLetter rmL_hasLetter G base [.ref x, .int (iI a1), .int (iI a2), .ref qo] (pw G (xo G q V qo fo) L K I F R N O) (WP (pw G (xo G q V qo fo) L K I F R N O) Qs bad) := by
  refine MCW.of (cc := cL_hasLetter) (hh := [(0, 17, 20, 13)]) (by decide) rfl rfl (Nat.le_of_ble_eq_true rfl) ?_
  intro κ C hT hN hl
  subst hl
  refine z_sub [0, 1, 2, 3] (lv' := [(0, .ref x), (1, .int (iI a1)), (2, .int (iI a2)), (3, .ref qo)]) rfl ?_
  refine z_aload_n C 3 rfl rfl dL_hasLetter_0 (rfl : 0 + 1 = 1) ?_
  refine z_iconst C dL_hasLetter_1 (rfl : 1 + 1 = 2) ?_
  refine z_aload_n C 0 rfl rfl dL_hasLetter_2 (rfl : 2 + 1 = 3) ?_
  refine z_iload_n C 1 rfl rfl dL_hasLetter_3 (rfl : 3 + 1 = 4) ?_
  refine z_iload_n C 2 rfl rfl dL_hasLetter_4 (rfl : 4 + 1 = 5) ?_
  refine z_callV C 2 12 hM gL_hasLetter_X5_hasLetter rfl hd81_X5_hasLetter ⟨Nat.le_of_ble_eq_true rfl, Nat.le_of_ble_eq_true rfl⟩ (pwm_MC hx.1 hx.2) rfl rfl (Nat.le_of_ble_eq_true rfl) dL_hasLetter_5 (rfl : 5 + 3 = 8) rfl rfl ⟨Nat.le_of_ble_eq_true rfl, Nat.le_of_ble_eq_true rfl⟩ (fun E w h => ?_) ?_ rfl
  · obtain ⟨rfl, rfl, hb⟩ := he E w h
    refine z_catch C (pre := []) (x := ⟨0, 17, 20, 13⟩) (suf := []) hT (fun z hz => nomatch hz) (by decide) (by decide) (ncl_sIOB hN) (List.mem_of_getElem? (i := 6) rfl) (fun qe => ?_)
    refine z_astore (lv' := [(4, _), (0, _), (1, _), (2, _), (3, _)]) C dL_hasLetter_20 (rfl : 20 + 2 = 22) (by decide) rfl ?_
    refine z_iconst C dL_hasLetter_22 (rfl : 22 + 1 = 23) ?_
    exact z_iret C rfl dL_hasLetter_23 (.inr ⟨1, rfl, hb, rfl⟩) (by decide) (by decide)
  intro v w hv
  obtain ⟨ans, rfl, h01, L', K', I', F', R', N', O', rfl, hQ⟩ := hp _ _ hv
  refine z_v1 ?_
  rcases h01 with rfl | rfl
  · refine z_if_eq (pt := 15) C dL_hasLetter_8 (by decide) (rfl : 8 + 3 = 11) (iI_eq0 (by decide)).1 (fun q => mt (iI_eq0 (by decide)).2 q) (fun cb => ?_) (fun cb => ?_)
    · refine z_lconst (v := 0) C (by decide) dL_hasLetter_15 (rfl : 15 + 1 = 16) ?_
      refine z_last C om ⟨by omega, by omega⟩ (by omega) dL_hasLetter_16 (rfl : 16 + 1 = 17) os ?_
      refine z_goto (pc' := 24) C dL_hasLetter_17 (by decide) ?_
      refine z_iconst C dL_hasLetter_24 (rfl : 24 + 1 = 25) ?_
      exact z_iret C rfl dL_hasLetter_25 (.inl ⟨0, _, rfl, vpL0.trans i64_0, hQ _ (vpL0.trans i64_0)⟩) (by decide) (by decide)
    · exact absurd rfl cb
  · refine z_if_eq (pt := 15) C dL_hasLetter_8 (by decide) (rfl : 8 + 3 = 11) (iI_eq0 (by decide)).1 (fun q => mt (iI_eq0 (by decide)).2 q) (fun cb => ?_) (fun cb => ?_)
    · exact absurd cb (by decide)
    · refine z_lconst (v := 1) C (by decide) dL_hasLetter_11 (rfl : 11 + 1 = 12) ?_
      refine z_goto (pc' := 16) C dL_hasLetter_12 (by decide) ?_
      refine z_last C om ⟨by omega, by omega⟩ (by omega) dL_hasLetter_16 (rfl : 16 + 1 = 17) os ?_
      refine z_goto (pc' := 24) C dL_hasLetter_17 (by decide) ?_
      refine z_iconst C dL_hasLetter_24 (rfl : 24 + 1 = 25) ?_
      exact z_iret C rfl dL_hasLetter_25 (.inl ⟨1, _, rfl, vpL0.trans i64_1, hQ _ (vpL0.trans i64_1)⟩) (by decide) (by decide)
abbrev rmL_letter : Room := { frames := 8, cells := 1, slots := 6, locals := 162 }
theorem w_letter {a1 : Int} {x qo : Nat} {fo : Nat → Int64} {V : Nat → Nat → Int} {q : Nat → Nat} {postC : Option Value → va_W → Prop} {excC : String → va_W → Prop} {Qs : Int → (Nat → Int64) → va_W → Prop} {bad : Int → Prop} (hx : x ∈ L ∧ K x = 5)
    (hM : MC l yX5_letter wsX5_letter rmX5_letter G base [.ref x, .int (iI a1)] (pw G (xo G q V qo fo) L K I F R N O) postC excC)
    (hp : ∀ v w, postC v w → ∃ ans : Int, v = some (.int (iI ans)) ∧ ∃ (L' : List Nat) (K' : Nat → Nat) (I' : Nat → Nat → Int) (F' : Nat → Nat → Option Nat) (R' : Nat → Nat → Int) (N' : Nat → Nat) (O' : Nat → Nat → Option Nat), w = pw G (xo G q V qo fo) L' K' I' F' R' N' O' ∧ ∀ fo', fo' 0 = (iI ans).toInt64 → Qs ans fo' (pw G (xo G q V qo fo') L' K' I' F' R' N' O'))
    (he : ∀ E w, excC E w → w = pw G (xo G q V qo fo) L K I F R N O ∧ ((E = sIOB ∧ bad 1))) :
    MCW l yL_letter wsL_letter rmL_letter G base [.ref x, .int (iI a1), .ref qo] (pw G (xo G q V qo fo) L K I F R N O) (WP (pw G (xo G q V qo fo) L K I F R N O) Qs bad) := by
  refine MCW.of (cc := cL_letter) (hh := [(0, 9, 12, 13)]) (by decide) rfl rfl (Nat.le_of_ble_eq_true rfl) ?_
  intro κ C hT hN hl
  subst hl
  refine z_sub [0, 1, 2] (lv' := [(0, .ref x), (1, .int (iI a1)), (2, .ref qo)]) rfl ?_
  refine z_aload_n C 2 rfl rfl dL_letter_0 (rfl : 0 + 1 = 1) ?_
  refine z_iconst C dL_letter_1 (rfl : 1 + 1 = 2) ?_
  refine z_aload_n C 0 rfl rfl dL_letter_2 (rfl : 2 + 1 = 3) ?_
  refine z_iload_n C 1 rfl rfl dL_letter_3 (rfl : 3 + 1 = 4) ?_
  refine z_callV C 1 6 hM gL_letter_X5_letter rfl hd81_X5_letter ⟨Nat.le_of_ble_eq_true rfl, Nat.le_of_ble_eq_true rfl⟩ (pwm_MC hx.1 hx.2) rfl rfl (Nat.le_of_ble_eq_true rfl) dL_letter_4 (rfl : 4 + 3 = 7) rfl rfl ⟨Nat.le_of_ble_eq_true rfl, Nat.le_of_ble_eq_true rfl⟩ (fun E w h => ?_) ?_ rfl
  · obtain ⟨rfl, rfl, hb⟩ := he E w h
    refine z_catch C (pre := []) (x := ⟨0, 9, 12, 13⟩) (suf := []) hT (fun z hz => nomatch hz) (by decide) (by decide) (ncl_sIOB hN) (List.mem_of_getElem? (i := 6) rfl) (fun qe => ?_)
    refine z_astore_n (lv' := [(3, _), (0, _), (1, _), (2, _)]) C rfl dL_letter_12 (rfl : 12 + 1 = 13) (by decide) rfl ?_
    refine z_iconst C dL_letter_13 (rfl : 13 + 1 = 14) ?_
    exact z_iret C rfl dL_letter_14 (.inr ⟨1, rfl, hb, rfl⟩) (by decide) (by decide)
  intro v w hv
  obtain ⟨ans, rfl, L', K', I', F', R', N', O', rfl, hQ⟩ := hp _ _ hv
  refine z_v1 ?_
  refine z_i2l C rfl dL_letter_7 (rfl : 7 + 1 = 8) ?_
  refine z_last C om ⟨by omega, by omega⟩ (by omega) dL_letter_8 (rfl : 8 + 1 = 9) os ?_
  refine z_goto (pc' := 15) C dL_letter_9 (by decide) ?_
  refine z_iconst C dL_letter_15 (rfl : 15 + 1 = 16) ?_
  exact z_iret C rfl dL_letter_16 (.inl ⟨ans, _, rfl, vpL0, hQ _ vpL0⟩) (by decide) (by decide)
abbrev rmL_isBack : Room := { frames := 8, cells := 1, slots := 6, locals := 161 }
theorem w_isBack {a1 : Int} {x qo : Nat} {fo : Nat → Int64} {V : Nat → Nat → Int} {q : Nat → Nat} {postC : Option Value → va_W → Prop} {excC : String → va_W → Prop} {Qs : Int → (Nat → Int64) → va_W → Prop} {bad : Int → Prop} (hx : x ∈ L ∧ K x = 5)
    (hM : MC l yX5_isBack wsX5_isBack rmX5_isBack G base [.ref x, .int (iI a1)] (pw G (xo G q V qo fo) L K I F R N O) postC excC)
    (hp : ∀ v w, postC v w → ∃ ans : Int, v = some (.int (iI ans)) ∧ (ans = 0 ∨ ans = 1) ∧ ∃ (L' : List Nat) (K' : Nat → Nat) (I' : Nat → Nat → Int) (F' : Nat → Nat → Option Nat) (R' : Nat → Nat → Int) (N' : Nat → Nat) (O' : Nat → Nat → Option Nat), w = pw G (xo G q V qo fo) L' K' I' F' R' N' O' ∧ ∀ fo', fo' 0 = (iI ans).toInt64 → Qs ans fo' (pw G (xo G q V qo fo') L' K' I' F' R' N' O'))
    (he : ∀ E w, excC E w → w = pw G (xo G q V qo fo) L K I F R N O ∧ ((E = sIOB ∧ bad 1))) :
    MCW l yL_isBack wsL_isBack rmL_isBack G base [.ref x, .int (iI a1), .ref qo] (pw G (xo G q V qo fo) L K I F R N O) (WP (pw G (xo G q V qo fo) L K I F R N O) Qs bad) := by
  refine MCW.of (cc := cL_isBack) (hh := [(0, 16, 19, 13)]) (by decide) rfl rfl (Nat.le_of_ble_eq_true rfl) ?_
  intro κ C hT hN hl
  subst hl
  refine z_sub [0, 1, 2] (lv' := [(0, .ref x), (1, .int (iI a1)), (2, .ref qo)]) rfl ?_
  refine z_aload_n C 2 rfl rfl dL_isBack_0 (rfl : 0 + 1 = 1) ?_
  refine z_iconst C dL_isBack_1 (rfl : 1 + 1 = 2) ?_
  refine z_aload_n C 0 rfl rfl dL_isBack_2 (rfl : 2 + 1 = 3) ?_
  refine z_iload_n C 1 rfl rfl dL_isBack_3 (rfl : 3 + 1 = 4) ?_
  refine z_callV C 1 6 hM gL_isBack_X5_isBack rfl hd81_X5_isBack ⟨Nat.le_of_ble_eq_true rfl, Nat.le_of_ble_eq_true rfl⟩ (pwm_MC hx.1 hx.2) rfl rfl (Nat.le_of_ble_eq_true rfl) dL_isBack_4 (rfl : 4 + 3 = 7) rfl rfl ⟨Nat.le_of_ble_eq_true rfl, Nat.le_of_ble_eq_true rfl⟩ (fun E w h => ?_) ?_ rfl
  · obtain ⟨rfl, rfl, hb⟩ := he E w h
    refine z_catch C (pre := []) (x := ⟨0, 16, 19, 13⟩) (suf := []) hT (fun z hz => nomatch hz) (by decide) (by decide) (ncl_sIOB hN) (List.mem_of_getElem? (i := 6) rfl) (fun qe => ?_)
    refine z_astore_n (lv' := [(3, _), (0, _), (1, _), (2, _)]) C rfl dL_isBack_19 (rfl : 19 + 1 = 20) (by decide) rfl ?_
    refine z_iconst C dL_isBack_20 (rfl : 20 + 1 = 21) ?_
    exact z_iret C rfl dL_isBack_21 (.inr ⟨1, rfl, hb, rfl⟩) (by decide) (by decide)
  intro v w hv
  obtain ⟨ans, rfl, h01, L', K', I', F', R', N', O', rfl, hQ⟩ := hp _ _ hv
  refine z_v1 ?_
  rcases h01 with rfl | rfl
  · refine z_if_eq (pt := 14) C dL_isBack_7 (by decide) (rfl : 7 + 3 = 10) (iI_eq0 (by decide)).1 (fun q => mt (iI_eq0 (by decide)).2 q) (fun cb => ?_) (fun cb => ?_)
    · refine z_lconst (v := 0) C (by decide) dL_isBack_14 (rfl : 14 + 1 = 15) ?_
      refine z_last C om ⟨by omega, by omega⟩ (by omega) dL_isBack_15 (rfl : 15 + 1 = 16) os ?_
      refine z_goto (pc' := 22) C dL_isBack_16 (by decide) ?_
      refine z_iconst C dL_isBack_22 (rfl : 22 + 1 = 23) ?_
      exact z_iret C rfl dL_isBack_23 (.inl ⟨0, _, rfl, vpL0.trans i64_0, hQ _ (vpL0.trans i64_0)⟩) (by decide) (by decide)
    · exact absurd rfl cb
  · refine z_if_eq (pt := 14) C dL_isBack_7 (by decide) (rfl : 7 + 3 = 10) (iI_eq0 (by decide)).1 (fun q => mt (iI_eq0 (by decide)).2 q) (fun cb => ?_) (fun cb => ?_)
    · exact absurd cb (by decide)
    · refine z_lconst (v := 1) C (by decide) dL_isBack_10 (rfl : 10 + 1 = 11) ?_
      refine z_goto (pc' := 15) C dL_isBack_11 (by decide) ?_
      refine z_last C om ⟨by omega, by omega⟩ (by omega) dL_isBack_15 (rfl : 15 + 1 = 16) os ?_
      refine z_goto (pc' := 22) C dL_isBack_16 (by decide) ?_
      refine z_iconst C dL_isBack_22 (rfl : 22 + 1 = 23) ?_
      exact z_iret C rfl dL_isBack_23 (.inl ⟨1, _, rfl, vpL0.trans i64_1, hQ _ (vpL0.trans i64_1)⟩) (by decide) (by decide)
abbrev rmL_late : Room := { frames := 8, cells := 1, slots := 6, locals := 162 }
theorem w_late {a1 : Int} {x qo : Nat} {fo : Nat → Int64} {V : Nat → Nat → Int} {q : Nat → Nat} {postC : Option Value → va_W → Prop} {excC : String → va_W → Prop} {Qs : Int → (Nat → Int64) → va_W → Prop} {bad : Int → Prop} (hx : x ∈ L ∧ K x = 5)
    (hM : MC l yX5_late wsX5_late rmX5_late G base [.ref x, .int (iI a1)] (pw G (xo G q V qo fo) L K I F R N O) postC excC)
    (hp : ∀ v w, postC v w → ∃ ans : Int, v = some (.int (iI ans)) ∧ ∃ (L' : List Nat) (K' : Nat → Nat) (I' : Nat → Nat → Int) (F' : Nat → Nat → Option Nat) (R' : Nat → Nat → Int) (N' : Nat → Nat) (O' : Nat → Nat → Option Nat), w = pw G (xo G q V qo fo) L' K' I' F' R' N' O' ∧ ∀ fo', fo' 0 = (iI ans).toInt64 → Qs ans fo' (pw G (xo G q V qo fo') L' K' I' F' R' N' O'))
    (he : ∀ E w, excC E w → w = pw G (xo G q V qo fo) L K I F R N O ∧ ((E = sIOB ∧ bad 1))) :
    MCW l yL_late wsL_late rmL_late G base [.ref x, .int (iI a1), .ref qo] (pw G (xo G q V qo fo) L K I F R N O) (WP (pw G (xo G q V qo fo) L K I F R N O) Qs bad) := by
  refine MCW.of (cc := cL_late) (hh := [(0, 9, 12, 13)]) (by decide) rfl rfl (Nat.le_of_ble_eq_true rfl) ?_
  intro κ C hT hN hl
  subst hl
  refine z_sub [0, 1, 2] (lv' := [(0, .ref x), (1, .int (iI a1)), (2, .ref qo)]) rfl ?_
  refine z_aload_n C 2 rfl rfl dL_late_0 (rfl : 0 + 1 = 1) ?_
  refine z_iconst C dL_late_1 (rfl : 1 + 1 = 2) ?_
  refine z_aload_n C 0 rfl rfl dL_late_2 (rfl : 2 + 1 = 3) ?_
  refine z_iload_n C 1 rfl rfl dL_late_3 (rfl : 3 + 1 = 4) ?_
  refine z_callV C 1 6 hM gL_late_X5_late rfl hd81_X5_late ⟨Nat.le_of_ble_eq_true rfl, Nat.le_of_ble_eq_true rfl⟩ (pwm_MC hx.1 hx.2) rfl rfl (Nat.le_of_ble_eq_true rfl) dL_late_4 (rfl : 4 + 3 = 7) rfl rfl ⟨Nat.le_of_ble_eq_true rfl, Nat.le_of_ble_eq_true rfl⟩ (fun E w h => ?_) ?_ rfl
  · obtain ⟨rfl, rfl, hb⟩ := he E w h
    refine z_catch C (pre := []) (x := ⟨0, 9, 12, 13⟩) (suf := []) hT (fun z hz => nomatch hz) (by decide) (by decide) (ncl_sIOB hN) (List.mem_of_getElem? (i := 6) rfl) (fun qe => ?_)
    refine z_astore_n (lv' := [(3, _), (0, _), (1, _), (2, _)]) C rfl dL_late_12 (rfl : 12 + 1 = 13) (by decide) rfl ?_
    refine z_iconst C dL_late_13 (rfl : 13 + 1 = 14) ?_
    exact z_iret C rfl dL_late_14 (.inr ⟨1, rfl, hb, rfl⟩) (by decide) (by decide)
  intro v w hv
  obtain ⟨ans, rfl, L', K', I', F', R', N', O', rfl, hQ⟩ := hp _ _ hv
  refine z_v1 ?_
  refine z_i2l C rfl dL_late_7 (rfl : 7 + 1 = 8) ?_
  refine z_last C om ⟨by omega, by omega⟩ (by omega) dL_late_8 (rfl : 8 + 1 = 9) os ?_
  refine z_goto (pc' := 15) C dL_late_9 (by decide) ?_
  refine z_iconst C dL_late_15 (rfl : 15 + 1 = 16) ?_
  exact z_iret C rfl dL_late_16 (.inl ⟨ans, _, rfl, vpL0, hQ _ vpL0⟩) (by decide) (by decide)
abbrev rmL_coins : Room := { frames := 8, cells := 1, slots := 6, locals := 161 }
theorem w_coins {a1 : Int} {x qo : Nat} {fo : Nat → Int64} {V : Nat → Nat → Int} {q : Nat → Nat} {postC : Option Value → va_W → Prop} {excC : String → va_W → Prop} {Qs : Int → (Nat → Int64) → va_W → Prop} {bad : Int → Prop} (hx : x ∈ L ∧ K x = 5)
    (hM : MC l yX5_coins wsX5_coins rmX5_coins G base [.ref x, .int (iI a1)] (pw G (xo G q V qo fo) L K I F R N O) postC excC)
    (hp : ∀ v w, postC v w → ∃ ans : Int, v = some (.int (iI ans)) ∧ ∃ (L' : List Nat) (K' : Nat → Nat) (I' : Nat → Nat → Int) (F' : Nat → Nat → Option Nat) (R' : Nat → Nat → Int) (N' : Nat → Nat) (O' : Nat → Nat → Option Nat), w = pw G (xo G q V qo fo) L' K' I' F' R' N' O' ∧ ∀ fo', fo' 0 = (iI ans).toInt64 → Qs ans fo' (pw G (xo G q V qo fo') L' K' I' F' R' N' O'))
    (he : ∀ E w, excC E w → w = pw G (xo G q V qo fo) L K I F R N O ∧ ((E = sIOB ∧ bad 1))) :
    MCW l yL_coins wsL_coins rmL_coins G base [.ref x, .int (iI a1), .ref qo] (pw G (xo G q V qo fo) L K I F R N O) (WP (pw G (xo G q V qo fo) L K I F R N O) Qs bad) := by
  refine MCW.of (cc := cL_coins) (hh := [(0, 9, 12, 13)]) (by decide) rfl rfl (Nat.le_of_ble_eq_true rfl) ?_
  intro κ C hT hN hl
  subst hl
  refine z_sub [0, 1, 2] (lv' := [(0, .ref x), (1, .int (iI a1)), (2, .ref qo)]) rfl ?_
  refine z_aload_n C 2 rfl rfl dL_coins_0 (rfl : 0 + 1 = 1) ?_
  refine z_iconst C dL_coins_1 (rfl : 1 + 1 = 2) ?_
  refine z_aload_n C 0 rfl rfl dL_coins_2 (rfl : 2 + 1 = 3) ?_
  refine z_iload_n C 1 rfl rfl dL_coins_3 (rfl : 3 + 1 = 4) ?_
  refine z_callV C 1 6 hM gL_coins_X5_coins rfl hd81_X5_coins ⟨Nat.le_of_ble_eq_true rfl, Nat.le_of_ble_eq_true rfl⟩ (pwm_MC hx.1 hx.2) rfl rfl (Nat.le_of_ble_eq_true rfl) dL_coins_4 (rfl : 4 + 3 = 7) rfl rfl ⟨Nat.le_of_ble_eq_true rfl, Nat.le_of_ble_eq_true rfl⟩ (fun E w h => ?_) ?_ rfl
  · obtain ⟨rfl, rfl, hb⟩ := he E w h
    refine z_catch C (pre := []) (x := ⟨0, 9, 12, 13⟩) (suf := []) hT (fun z hz => nomatch hz) (by decide) (by decide) (ncl_sIOB hN) (List.mem_of_getElem? (i := 6) rfl) (fun qe => ?_)
    refine z_astore_n (lv' := [(3, _), (0, _), (1, _), (2, _)]) C rfl dL_coins_12 (rfl : 12 + 1 = 13) (by decide) rfl ?_
    refine z_iconst C dL_coins_13 (rfl : 13 + 1 = 14) ?_
    exact z_iret C rfl dL_coins_14 (.inr ⟨1, rfl, hb, rfl⟩) (by decide) (by decide)
  intro v w hv
  obtain ⟨ans, rfl, L', K', I', F', R', N', O', rfl, hQ⟩ := hp _ _ hv
  refine z_v1 ?_
  refine z_i2l C rfl dL_coins_7 (rfl : 7 + 1 = 8) ?_
  refine z_last C om ⟨by omega, by omega⟩ (by omega) dL_coins_8 (rfl : 8 + 1 = 9) os ?_
  refine z_goto (pc' := 15) C dL_coins_9 (by decide) ?_
  refine z_iconst C dL_coins_15 (rfl : 15 + 1 = 16) ?_
  exact z_iret C rfl dL_coins_16 (.inl ⟨ans, _, rfl, vpL0, hQ _ vpL0⟩) (by decide) (by decide)
abbrev rmL_laidDown : Room := { frames := 8, cells := 1, slots := 6, locals := 161 }
theorem w_laidDown {a1 : Int} {x qo : Nat} {fo : Nat → Int64} {V : Nat → Nat → Int} {q : Nat → Nat} {postC : Option Value → va_W → Prop} {excC : String → va_W → Prop} {Qs : Int → (Nat → Int64) → va_W → Prop} {bad : Int → Prop} (hx : x ∈ L ∧ K x = 5)
    (hM : MC l yX5_laidDown wsX5_laidDown rmX5_laidDown G base [.ref x, .int (iI a1)] (pw G (xo G q V qo fo) L K I F R N O) postC excC)
    (hp : ∀ v w, postC v w → ∃ ans : Int, v = some (.int (iI ans)) ∧ ∃ (L' : List Nat) (K' : Nat → Nat) (I' : Nat → Nat → Int) (F' : Nat → Nat → Option Nat) (R' : Nat → Nat → Int) (N' : Nat → Nat) (O' : Nat → Nat → Option Nat), w = pw G (xo G q V qo fo) L' K' I' F' R' N' O' ∧ ∀ fo', fo' 0 = (iI ans).toInt64 → Qs ans fo' (pw G (xo G q V qo fo') L' K' I' F' R' N' O'))
    (he : ∀ E w, excC E w → w = pw G (xo G q V qo fo) L K I F R N O ∧ ((E = sIOB ∧ bad 1))) :
    MCW l yL_laidDown wsL_laidDown rmL_laidDown G base [.ref x, .int (iI a1), .ref qo] (pw G (xo G q V qo fo) L K I F R N O) (WP (pw G (xo G q V qo fo) L K I F R N O) Qs bad) := by
  refine MCW.of (cc := cL_laidDown) (hh := [(0, 9, 12, 13)]) (by decide) rfl rfl (Nat.le_of_ble_eq_true rfl) ?_
  intro κ C hT hN hl
  subst hl
  refine z_sub [0, 1, 2] (lv' := [(0, .ref x), (1, .int (iI a1)), (2, .ref qo)]) rfl ?_
  refine z_aload_n C 2 rfl rfl dL_laidDown_0 (rfl : 0 + 1 = 1) ?_
  refine z_iconst C dL_laidDown_1 (rfl : 1 + 1 = 2) ?_
  refine z_aload_n C 0 rfl rfl dL_laidDown_2 (rfl : 2 + 1 = 3) ?_
  refine z_iload_n C 1 rfl rfl dL_laidDown_3 (rfl : 3 + 1 = 4) ?_
  refine z_callV C 1 6 hM gL_laidDown_X5_laidDown rfl hd81_X5_laidDown ⟨Nat.le_of_ble_eq_true rfl, Nat.le_of_ble_eq_true rfl⟩ (pwm_MC hx.1 hx.2) rfl rfl (Nat.le_of_ble_eq_true rfl) dL_laidDown_4 (rfl : 4 + 3 = 7) rfl rfl ⟨Nat.le_of_ble_eq_true rfl, Nat.le_of_ble_eq_true rfl⟩ (fun E w h => ?_) ?_ rfl
  · obtain ⟨rfl, rfl, hb⟩ := he E w h
    refine z_catch C (pre := []) (x := ⟨0, 9, 12, 13⟩) (suf := []) hT (fun z hz => nomatch hz) (by decide) (by decide) (ncl_sIOB hN) (List.mem_of_getElem? (i := 6) rfl) (fun qe => ?_)
    refine z_astore_n (lv' := [(3, _), (0, _), (1, _), (2, _)]) C rfl dL_laidDown_12 (rfl : 12 + 1 = 13) (by decide) rfl ?_
    refine z_iconst C dL_laidDown_13 (rfl : 13 + 1 = 14) ?_
    exact z_iret C rfl dL_laidDown_14 (.inr ⟨1, rfl, hb, rfl⟩) (by decide) (by decide)
  intro v w hv
  obtain ⟨ans, rfl, L', K', I', F', R', N', O', rfl, hQ⟩ := hp _ _ hv
  refine z_v1 ?_
  refine z_i2l C rfl dL_laidDown_7 (rfl : 7 + 1 = 8) ?_
  refine z_last C om ⟨by omega, by omega⟩ (by omega) dL_laidDown_8 (rfl : 8 + 1 = 9) os ?_
  refine z_goto (pc' := 15) C dL_laidDown_9 (by decide) ?_
  refine z_iconst C dL_laidDown_15 (rfl : 15 + 1 = 16) ?_
  exact z_iret C rfl dL_laidDown_16 (.inl ⟨ans, _, rfl, vpL0, hQ _ vpL0⟩) (by decide) (by decide)
end
