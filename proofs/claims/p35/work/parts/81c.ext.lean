/-- the script, an old row -/
def SC (base b Ln : Nat) (xs : Nat → Int32) (U : State) : Prop := va_X b Ln xs U U.heap ∧ b < U.heap.size ∧ ¬ Bd base b
theorem SC.blind {base b Ln : Nat} {xs : Nat → Int32} {U V : State} (hv : V.vm = U.vm) (hh : V.heap = U.heap) (h : SC base b Ln xs U) : SC base b Ln xs V := by
  obtain ⟨h1, h2, h3⟩ := h
  have ha : U.vm.Alike V.vm := by rw [hv]; exact Vm.Alike.refl _
  exact ⟨by rw [hh]; exact h1.moved ha, by rw [hh]; exact h2, h3⟩
theorem SC.to {base b Ln : Nat} {xs : Nat → Int32} {s U : State} {H : Heap} {locs : List Loc} (h : SC base b Ln xs s) (hW : s.WarmedH U.vm) (hU : U.heap = H) (hS : va_S (Bd base) s.heap H locs) : SC base b Ln xs U := by
  obtain ⟨h1, h2, h3⟩ := h
  refine ⟨?_, ?_, h3⟩
  · have e : va_X b Ln xs U s.heap := h1.moved hW.alike
    exact e.kept (by rw [hU]; exact hS.2.1 b h2 h3)
  · rw [hU]
    exact Nat.lt_of_lt_of_le h2 hS.1
def PreScr (G : GG) (base b Ln : Nat) (xs : Nat → Int32) (ws : va_W) (U : State) : Prop := Pre G base ws U ∧ SC base b Ln xs U
theorem PreScr.blind {G : GG} {base b Ln : Nat} {xs : Nat → Int32} {as : List Value} {ws : va_W} : FrameBlind (va_Pc as (PreScr G base b Ln xs ws)) := fun a U g mk h => ⟨h.1, ⟨h.2.1.1, h.2.1.2.1, h.2.1.2.2.1, h.2.1.2.2.2.blind rfl⟩, SC.blind (U := U) (V := U.calling g mk a) rfl rfl h.2.2⟩
/-- a contract of a method that reads the script -/
def MCS (l : Launch) (y : MethodName) (wy : List Cond) (rm : Room) (G : GG) (base b Ln : Nat) (xs : Nat → Int32) (as : List Value) (ws : va_W) (post : Option Value → va_W → Prop) : Prop :=
  l.stackTraces = false → vx_Met l y wy rm (va_Pc as (PreScr G base b Ln xs ws)) (QR G base post) (QX G base (fun _ _ => False)) rm.cells rm.slots (Bd base)
theorem MCS.of {l : Launch} {y : MethodName} {wy ws' : List Cond} {rm : Room} {G : GG} {base b Ln : Nat} {xs : Nat → Int32} {as : List Value} {ws : va_W} {post : Option Value → va_W → Prop} {cc : ByteArray} {nL : Nat} {ret : Option FieldType}
    (hy : plainName y.cls = true) (hw : wy = Cond.code y cc nL ret :: ws') {own : String} (ho : y.cls = own) (hn : (lg_sl as).length ≤ nL)
    (body : ∀ κ : KxT, Cx κ cc nL wy own ret rm G base → SC base b Ln xs (ks κ) → kl κ = l → Z κ nL G base rm.cells rm.slots post (fun _ _ => False) 0 0 0 (lv_args 0 as) [] ws) : MCS l y wy rm G base b Ln xs as ws post := by
  intro hst
  refine vx_ofW hy hw ?_
  intro p e s m args below meth c s₁ B hml htb hv
  obtain ⟨rfl, ⟨hb, hP, hD, hE⟩, hS⟩ := hv
  have hown : s.vm.findClass y.cls = some m.cls := findClass_of_methodNamed B.named
  have hl := lv_entry as (n := nL) hn
  rw [lg_entry_eq]
  exact body (p, l, e, (headSpec wy rm).room, s, m, as.toArray, below, meth, c) ⟨B.exec, B.bytes, hml, by rw [← ho]; exact hown, atoms_spec (ws := wy) B.pre, hE, B.returns, B.notSynchronized, hb, hst, rfl⟩ hS rfl _ _ _ hl hP hD va_S.rf
theorem MCS.ofH {l : Launch} {y : MethodName} {wy ws' : List Cond} {rm : Room} {G : GG} {base b Ln : Nat} {xs : Nat → Int32} {as : List Value} {ws : va_W} {post : Option Value → va_W → Prop} {cc : ByteArray} {nL : Nat} {ret : Option FieldType} {hh : List (Nat × Nat × Nat × Nat)}
    (hy : plainName y.cls = true) (hw : wy = Cond.codeWith y cc nL ret hh :: ws') {own : String} (ho : y.cls = own) (hn : (lg_sl as).length ≤ nL)
    (body : ∀ κ : KxT, Cx κ cc nL wy own ret rm G base → SC base b Ln xs (ks κ) → kl κ = l → Z κ nL G base rm.cells rm.slots post (fun _ _ => False) 0 0 0 (lv_args 0 as) [] ws) : MCS l y wy rm G base b Ln xs as ws post := by
  intro hst
  refine vx_ofWH hy hw ?_
  intro p e s m args below meth c s₁ B hml hv
  obtain ⟨rfl, ⟨hb, hP, hD, hE⟩, hS⟩ := hv
  have hown : s.vm.findClass y.cls = some m.cls := findClass_of_methodNamed B.named
  have hl := lv_entry as (n := nL) hn
  rw [lg_entry_eq]
  exact body (p, l, e, (headSpec wy rm).room, s, m, as.toArray, below, meth, c) ⟨B.exec, B.bytes, hml, by rw [← ho]; exact hown, atoms_spec (ws := wy) B.pre, hE, B.returns, B.notSynchronized, hb, hst, rfl⟩ hS rfl _ _ _ hl hP hD va_S.rf
/-- a method with a table of exceptions -/
theorem MC.ofH {l : Launch} {y : MethodName} {wy ws' : List Cond} {rm : Room} {G : GG} {base : Nat} {as : List Value} {ws : va_W} {post : Option Value → va_W → Prop} {cc : ByteArray} {nL : Nat} {ret : Option FieldType} {hh : List (Nat × Nat × Nat × Nat)}
    (hy : plainName y.cls = true) (hw : wy = Cond.codeWith y cc nL ret hh :: ws') {own : String} (ho : y.cls = own) (hn : (lg_sl as).length ≤ nL)
    (body : ∀ κ : KxT, Cx κ cc nL wy own ret rm G base → (kc κ).exceptionTable.toList = tableOf hh → kl κ = l → Z κ nL G base rm.cells rm.slots post (fun _ _ => False) 0 0 0 (lv_args 0 as) [] ws) : MC l y wy rm G base as ws post (fun _ _ => False) := by
  intro hst
  refine vx_ofWH hy hw ?_
  intro p e s m args below meth c s₁ B hml hv
  obtain ⟨rfl, hb, hP, hD, hE⟩ := hv
  have hown : s.vm.findClass y.cls = some m.cls := findClass_of_methodNamed B.named
  have htab : c.exceptionTable.toList = tableOf hh := vx_table (x := y) B (atoms_spec (ws := wy) B.pre _ (by rw [hw]; exact List.mem_cons_self))
  have hl := lv_entry as (n := nL) hn
  rw [lg_entry_eq]
  exact body (p, l, e, (headSpec wy rm).room, s, m, as.toArray, below, meth, c) ⟨B.exec, B.bytes, hml, by rw [← ho]; exact hown, atoms_spec (ws := wy) B.pre, hE, B.returns, B.notSynchronized, hb, hst, rfl⟩ htab rfl _ _ _ hl hP hD va_S.rf
section
variable {κ : KxT} {cc : ByteArray} {nL : Nat} {Ts : List Cond} {own : String} {ret : Option FieldType} {rm0 : Room} {G : GG} {base mc ms : Nat} {post : Option Value → va_W → Prop} {exc : String → va_W → Prop} {cells slots pc pc' : Nat} {lv : List (Nat × Value)} {st : List Value} {ws ws' : va_W} {b Ln : Nat} {xs : Nat → Int32}
theorem z_catch (C : Cx κ cc nL Ts own ret rm0 G base) {E name : String} {suf : List ExceptionTableEntry} {x : ExceptionTableEntry} (hT : (kc κ).exceptionTable.toList = x :: suf)
    (hx : covers x pc = true) (h0 : x.catchType ≠ 0) (hl : (Cond.classLink own x.catchType name).before (ka κ) (ks κ) = true) (hc : (E, name) ∈ castL) (kk : ∀ qe : Nat, Z κ nL G base mc ms post exc cells slots x.handlerPc lv [.ref qe] ws) : ZX κ nL G base mc ms post exc cells slots pc lv st ws E := by
  intro ls H locs qe ce h hP hD hS hq hv hcl
  exact vx_catch C.ow [] x suf hT (fun z hz => nomatch hz) hx h0 hl (va_Nw.use rfl (C.ev.2.2.2.2.1 _ hc)) hq hv hcl (kk qe ls H locs h hP hD hS)
theorem z_callH (C : Cx κ cc nL Ts own ret rm0 G base) {index maxL n : Nat} {y : MethodName} {bytes : ByteArray} {rY : Option FieldType} {wy wy' : List Cond} {hh : List (Nat × Nat × Nat × Nat)} {rm : Room} {As : List Value} {postC : Option Value → va_W → Prop} (cells' slots' : Nat)
    (hM : MC (kl κ) y wy rm G base As ws postC (fun _ _ => False)) (hT : GoodIn Ts (va_wsS own index y wy)) (hw : wy = Cond.codeWith y bytes maxL rY hh :: wy') (hd : y.cls ≠ "java/lang/invoke/MethodHandle" ∧ y.cls ≠ "java/lang/invoke/VarHandle" ∧ (parseMethodDescriptor y.desc).map (fun d => d.parameters.length) = some n) (hR : rm.frames + 1 ≤ rm0.frames ∧ 8 + (maxL + 11) + rm.locals ≤ rm0.locals)
    (hn : As.length = n) (hst : (st.map fun v => v.category).sum ≤ 8) (d : decode cc pc = .ok (.invokestatic index, 3)) (hp : pc + 3 = pc') (h1 : cells + rm.cells = cells') (h2 : slots + rm.slots = slots') (h3 : cells' ≤ rm0.cells ∧ slots' ≤ rm0.slots)
    (kk : ∀ v w, postC v w → Z κ nL G base mc ms post exc cells' slots' pc' lv (v.toList ++ st) w) {st0 : List Value} (hs0 : st0 = As.reverse ++ st) : Z κ nL G base mc ms post exc cells slots pc lv st0 ws := by
  subst hp h1 h2 hs0
  refine z_run (excC := fun _ _ => False) (a := As.toArray) (fun ls H locs h hP hD hS => ?_) (fun _ _ h => h.elim) kk
  exact vx_runSX ⟨C.1, C.2.1, C.2.2.1, C.ow, C.2.2.2.2.1⟩ (hM C.2.2.2.2.2.2.2.2.2.1) (vx_cwSW n C.2.2.2.2.1 hT hw rfl rfl hd (by rw [C.R]; exact hR)) ⟨Pre.blind, fun U hU hW => ⟨rfl, C.pre hP hD hS hU hW⟩⟩ rfl hn h.1 rfl (lv_room hst) d (by rw [C.R]; exact h3)
theorem z_callSS (C : Cx κ cc nL Ts own ret rm0 G base) (hSC : SC base b Ln xs (ks κ)) {index maxL n : Nat} {y : MethodName} {bytes : ByteArray} {rY : Option FieldType} {wy wy' : List Cond} {rm : Room} {As : List Value} {postC : Option Value → va_W → Prop} (cells' slots' : Nat)
    (hM : MCS (kl κ) y wy rm G base b Ln xs As ws postC) (hT : GoodIn Ts (va_wsS own index y wy)) (hw : wy = Cond.code y bytes maxL rY :: wy') (hd : y.cls ≠ "java/lang/invoke/MethodHandle" ∧ y.cls ≠ "java/lang/invoke/VarHandle" ∧ (parseMethodDescriptor y.desc).map (fun d => d.parameters.length) = some n) (hR : rm.frames + 1 ≤ rm0.frames ∧ 8 + (maxL + 11) + rm.locals ≤ rm0.locals)
    (hn : As.length = n) (hst : (st.map fun v => v.category).sum ≤ 8) (d : decode cc pc = .ok (.invokestatic index, 3)) (hp : pc + 3 = pc') (h1 : cells + rm.cells = cells') (h2 : slots + rm.slots = slots') (h3 : cells' ≤ rm0.cells ∧ slots' ≤ rm0.slots)
    (kk : ∀ v w, postC v w → Z κ nL G base mc ms post exc cells' slots' pc' lv (v.toList ++ st) w) {st0 : List Value} (hs0 : st0 = As.reverse ++ st) : Z κ nL G base mc ms post exc cells slots pc lv st0 ws := by
  subst hp h1 h2 hs0
  refine z_run (excC := fun _ _ => False) (a := As.toArray) (fun ls H locs h hP hD hS => ?_) (fun _ _ h => h.elim) kk
  exact vx_runS ⟨C.1, C.2.1, C.2.2.1, C.ow, C.2.2.2.2.1⟩ (hM C.2.2.2.2.2.2.2.2.2.1) (va_cwS n C.2.2.2.2.1 hT hw rfl rfl hd (by rw [C.R]; exact hR)) ⟨PreScr.blind, fun U hU hW => ⟨rfl, C.pre hP hD hS hU hW, hSC.to hW hU hS⟩⟩ rfl hn h.1 rfl (lv_room hst) d (by rw [C.R]; exact h3)
theorem z_callSH (C : Cx κ cc nL Ts own ret rm0 G base) (hSC : SC base b Ln xs (ks κ)) {index maxL n : Nat} {y : MethodName} {bytes : ByteArray} {rY : Option FieldType} {wy wy' : List Cond} {hh : List (Nat × Nat × Nat × Nat)} {rm : Room} {As : List Value} {postC : Option Value → va_W → Prop} (cells' slots' : Nat)
    (hM : MCS (kl κ) y wy rm G base b Ln xs As ws postC) (hT : GoodIn Ts (va_wsS own index y wy)) (hw : wy = Cond.codeWith y bytes maxL rY hh :: wy') (hd : y.cls ≠ "java/lang/invoke/MethodHandle" ∧ y.cls ≠ "java/lang/invoke/VarHandle" ∧ (parseMethodDescriptor y.desc).map (fun d => d.parameters.length) = some n) (hR : rm.frames + 1 ≤ rm0.frames ∧ 8 + (maxL + 11) + rm.locals ≤ rm0.locals)
    (hn : As.length = n) (hst : (st.map fun v => v.category).sum ≤ 8) (d : decode cc pc = .ok (.invokestatic index, 3)) (hp : pc + 3 = pc') (h1 : cells + rm.cells = cells') (h2 : slots + rm.slots = slots') (h3 : cells' ≤ rm0.cells ∧ slots' ≤ rm0.slots)
    (kk : ∀ v w, postC v w → Z κ nL G base mc ms post exc cells' slots' pc' lv (v.toList ++ st) w) {st0 : List Value} (hs0 : st0 = As.reverse ++ st) : Z κ nL G base mc ms post exc cells slots pc lv st0 ws := by
  subst hp h1 h2 hs0
  refine z_run (excC := fun _ _ => False) (a := As.toArray) (fun ls H locs h hP hD hS => ?_) (fun _ _ h => h.elim) kk
  exact vx_runSX ⟨C.1, C.2.1, C.2.2.1, C.ow, C.2.2.2.2.1⟩ (hM C.2.2.2.2.2.2.2.2.2.1) (vx_cwSW n C.2.2.2.2.1 hT hw rfl rfl hd (by rw [C.R]; exact hR)) ⟨PreScr.blind, fun U hU hW => ⟨rfl, C.pre hP hD hS hU hW, hSC.to hW hU hS⟩⟩ rfl hn h.1 rfl (lv_room hst) d (by rw [C.R]; exact h3)
theorem z_slen (C : Cx κ cc nL Ts own ret rm0 G base) (S : SC base b Ln xs (ks κ)) (d : decode cc pc = .ok (.arraylength, 1)) (hn : pc + 1 = pc') (kk : Z κ nL G base mc ms post exc cells slots pc' lv (.int (iI (Ln : Int)) :: st) ws) : Z κ nL G base mc ms post exc cells slots pc lv (.ref b :: st) ws := by
  subst hn
  exact fun ls H locs h hP hD hS => va_slen C.1 C.2.1 S.1 S.2.1 S.2.2 hS d (kk ls H locs h hP hD hS)
theorem z_sld (C : Cx κ cc nL Ts own ret rm0 G base) {z : Int} (S : SC base b Ln xs (ks κ)) (hz : 0 ≤ z ∧ z < Ln) (hb : z < 2147483648) (d : decode cc pc = .ok (.iaload, 1)) (hn : pc + 1 = pc') (kk : Z κ nL G base mc ms post exc cells slots pc' lv (.int (xs z.toNat) :: st) ws) : Z κ nL G base mc ms post exc cells slots pc lv (.int (iI z) :: .ref b :: st) ws := by
  subst hn
  exact fun ls H locs h hP hD hS => va_sld C.1 C.2.1 S.1 S.2.1 S.2.2 hS (iI_in hz hb) d (by rw [iI_cl ⟨hz.1, hb⟩]; exact kk ls H locs h hP hD hS)
end
