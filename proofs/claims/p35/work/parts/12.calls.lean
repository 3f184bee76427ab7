section VXIA
variable {p : Program} {l : Launch} {e : Env} {R : Room} {s : State} {m : MethodId} {args : Array Value} {below : List Frame} {meth : Method} {c : Code} {T : State} {locs : List Loc} {cells slots : Nat}
theorem vx_callI (X : Stand p l e R s m args below meth c T locs cells slots) (hexec : p.tables.exec = Jvm.exec) {own : String} {index : Nat} {y : MethodName} {bytes : ByteArray} {maxL : Nat}
    (hown : s.vm.findClass own = some m.cls) (hy1 : y.name = "<init>") (hlink : (Cond.methodLink own index y).before args s = true) (hinst : (Cond.instanceMethod y).before args s = true)
    (hcode : (Cond.code y bytes maxL none).before args s = true) (hy : y.cls ≠ "java/lang/invoke/MethodHandle" ∧ y.cls ≠ "java/lang/invoke/VarHandle")
    {W9 : Nat} {Pre : Pt → Array Value → Prop} {Post : Pt → Array Value → Option Value → Pt → Prop} {PostX : Pt → Array Value → Addr → Pt → Prop} (hK : vx_Back l R p e below s args y 3 W9 Pre Post PostX)
    {g : JFrame} (hg : g.method = m) (hsize : g.locals.size = c.maxLocals) {a : Addr} {argsL rest : List Value} (hlen : ∀ sig, parseMethodDescriptor y.desc = some sig → argsL.length = sig.parameters.length)
    (hstack : g.stack = argsL.reverse ++ .ref a :: rest) (hW : 2 * g.monitorRoom + (rest.map fun v => v.category).sum ≤ W9) (hdg : decode c.code g.pc = .ok (.invokespecial index, 3))
    (hpre : ∀ vm₁, s.WarmedH vm₁ → Pre ⟨T.setVm vm₁, locs, cells, slots⟩ (Value.ref a :: argsL).toArray) :
    (∃ (v : Option Value) (vm₁ : Vm) (B : Pt), s.WarmedH vm₁ ∧ Stand p l e R s m args below meth c B.U B.locs B.cells B.slots ∧ Post ⟨T.setVm vm₁, locs, cells, slots⟩ (Value.ref a :: argsL).toArray v B ∧
      ∀ target, Steps p.tables e below (B.U.setTop { g with pc := g.pc + 3, stack := v.toList ++ rest }) target → Steps p.tables e below (T.setTop g) target) ∨
    (∃ (q : Addr) (vm₁ : Vm) (B : Pt), s.WarmedH vm₁ ∧ Stand p l e R s m args below meth c B.U B.locs B.cells B.slots ∧ PostX ⟨T.setVm vm₁, locs, cells, slots⟩ (Value.ref a :: argsL).toArray q B ∧
      Steps p.tables e below (T.setTop g) ((B.U.setTop { g with stack := rest }).pushFrame (.throwing q))) := by
  subst hg
  have hpl : e.platform.magicAccessors = ({} : Platform).magicAccessors := by rw [X.admits.platform]
  obtain ⟨mk, methM, cM, kP, vm₁, hnamed, hmethM, hcodeM, -, hlocalsM, -, hkP, -, hW₁, hstep₁⟩ := Steps.initColdArgs (e := e) X.here hexec X.warmed hpl hown hy1 hy hlink hinst hcode (f := g) rfl hlen hstack hdg
  have X₁ := X.noted hW₁
  rcases hK g.method meth c ⟨T.setVm vm₁, locs, cells, slots⟩ { g with stack := rest } (.invokespecial index) mk (Value.ref a :: argsL).toArray X₁ rfl hsize hdg hW (X₁.named hnamed) (hpre vm₁ X₁.warmed) with ⟨v, B, X', hpost, hsteps⟩ | ⟨q, B, X', hpost, hsteps⟩
  · exact Or.inl ⟨v, vm₁, B, X₁.warmed, X', hpost, fun target h => hstep₁ _ fun acts => by rw [doInvoke_state]; exact hsteps.trans h⟩
  · exact Or.inr ⟨q, vm₁, B, X₁.warmed, X', hpost, hstep₁ _ fun acts => by rw [doInvoke_state]; exact hsteps⟩
end VXIA
section VXIB
variable {p : Program} {l : Launch} {e : Env} {R : Room} {s : State} {m : MethodId} {args : Array Value} {below : List Frame} {meth : Method} {c : Code} {H : Heap} {locs : List Loc} {cells slots : Nat}
variable {y : MethodName} {bytes cc : ByteArray} {maxL nL mc ms n index : Nat} {ret : Option FieldType} {ws : List Cond} {rm : Room} {Pc : Array Value → State → Prop} {Qc : Array Value → State → Outcome → State → Prop} {XC : String → State → State → Prop} {free : Addr → Prop} {Ts : List Cond} {own C : String} {b : Addr} {As rest : List Value} {g : JFrame}
theorem vx_runI (S : CallFix p m c cc nL s args Ts own) (hM : vx_Met l y ws rm Pc Qc XC mc ms free) (cw : CallB R s args own index y bytes maxL none ws rm mc ms n ∧ y.name = "<init>" ∧ (Cond.instanceMethod y).before args s = true) (hp : PreS s H Pc (.ref b :: As))
    (hg : g.method = m) (hn : As.length = n) (hsize : g.locals.size = nL) (hstack : g.stack = As.reverse ++ .ref b :: rest) (hW : 2 * g.monitorRoom + (rest.map fun v => v.category).sum ≤ 8) (hdg : decode cc g.pc = .ok (.invokespecial index, 3)) (hf : cells + mc ≤ R.cells ∧ slots + ms ≤ R.slots) :
    vx_Run p l e R s m args below meth c H locs cells slots mc ms g rest (Qc (Value.ref b :: As).toArray) XC free := by
  have hK : vx_Back l R p e below s args y 3 8 (PreOf R mc ms Pc) (PostOf Qc mc ms free) (vx_Post XC mc ms free) := vx_callBack cw.1 hM hp.1
  obtain ⟨⟨-, -, -, -, -, -, hcode, -, hy, hlen, hl⟩, hy1, hin⟩ := cw
  obtain ⟨hx, hb, hml, ho, -⟩ := S
  have hPc := hp.2
  intro T hT X
  rcases vx_callI X hx (bytes := bytes) (maxL := maxL) ho hy1 hl hin hcode hy hK hg (hsize.trans hml.symm) (a := b) (argsL := As) (rest := rest) (fun sig h => hn.trans (hlen sig h)) hstack hW (by rw [hb]; exact hdg)
    (fun vm₁ hW₁ => ⟨hf.1, hf.2, hPc (T.setVm vm₁) hT hW₁⟩) with ⟨v, vm₁, ⟨U', l2, c2, s2⟩, hW₁, X', ⟨g', mk, t, L, e1, e2, hq, h1, hL, h2, h3⟩, st⟩ | ⟨q, vm₁, ⟨U', l2, c2, s2⟩, hW₁, X', ⟨g', mk, t, L, E, ce, e1, e2, hq, hce, hcv, hcl, h1, hL, h2, h3⟩, st⟩
  · dsimp only [Pt.U, Pt.locs, Pt.cells, Pt.slots] at X' e1 e2 h1 h2 h3 st
    subst h1; subst h2; subst h3
    exact Or.inl ⟨v, (T.setVm vm₁).calling g' mk (Value.ref b :: As).toArray, t, U', L, hT, X', hL, e1, e2, hq, st⟩
  · dsimp only [Pt.U, Pt.locs, Pt.cells, Pt.slots] at X' e1 e2 h1 h2 h3 st hcl
    subst h1; subst h2; subst h3
    exact Or.inr ⟨q, (T.setVm vm₁).calling g' mk (Value.ref b :: As).toArray, t, U', L, E, ce, hT, X', hL, e1, e2, hq, hce, hcv, vx_cls hW₁ hcl, st⟩
end VXIB
/-- a throw under way: an exception of class E over the method's frame -/
def ZX (κ : KxT) (nL : Nat) (G : GG) (base mc ms : Nat) (post : Option Value → va_W → Prop) (exc : String → va_W → Prop) (cells slots pc : Nat) (lv : List (Nat × Value)) (st : List Value) (ws : va_W) (E : String) : Prop :=
  ∀ (ls : Array Slot) (H : Heap) (locs : List Loc) (q : Addr) (ce : Cell), lv_has ls nL lv → va_P G.1 vwCl ws H → va_D (Bd base) ws → va_S (Bd base) (ks κ).heap H locs → H[q]? = some ce → ce.vm = .none → (ks κ).vm.findClass E = some ce.cls →
    vx_W (kp κ) (kl κ) (ke κ) (kR κ) (ks κ) (km κ) (ka κ) (kb κ) (kM κ) (kc κ) H locs cells slots (vx_MQ (kb κ) (QR G base post) (QX G base exc) (ka κ) (ks κ) mc ms (Bd base)) (F0 (km κ) pc ls st) q
/-- words of a throw of X by the class ModelCopies, beside the good ones -/
def nbWs : List Cond := [.castable "java/lang/IllegalArgumentException" "java/lang/IllegalArgumentException", .castable "java/lang/IllegalStateException" "java/lang/IllegalStateException", .castable "java/lang/IndexOutOfBoundsException" "java/lang/IndexOutOfBoundsException", .declares (Bundle.initS "java/lang/RuntimeException"), .declares (Bundle.initS "java/lang/Exception"), .declares (Bundle.initS Bundle.tN), .laysStatic Bundle.tN "UNASSIGNED_STACK" Bundle.steD, .laysStatic Bundle.tN "SUPPRESSED_SENTINEL" Bundle.listD]
section
variable {κ : KxT} {cc : ByteArray} {nL : Nat} {Ts : List Cond} {own : String} {ret : Option FieldType} {rm0 : Room} {G : GG} {base mc ms : Nat} {post : Option Value → va_W → Prop} {exc : String → va_W → Prop} {cells slots pc pc' : Nat} {lv : List (Nat × Value)} {st : List Value} {ws ws' : va_W}
theorem Cx.nb (C : Cx κ cc nL Ts own ret rm0 G base) : ∀ w ∈ nbWs, w.before (ka κ) (ks κ) = true := by
  obtain ⟨h1, h2, h3, h4, h5, h6, h7⟩ := C.ev
  have hc : ∀ q ∈ castL, (Cond.castable q.1 q.2).before (ka κ) (ks κ) = true := fun q hq => va_Nw.use rfl (h5 q hq)
  have hd : ∀ x ∈ declL, (Cond.declares x).before (ka κ) (ks κ) = true := fun x hx => va_Nw.use rfl (h6 x hx)
  refine vx_c (hc (_, _) (List.mem_of_getElem? (i := 4) rfl)) (vx_c (hc (_, _) (List.mem_of_getElem? (i := 5) rfl)) (vx_c (hc (_, _) (List.mem_of_getElem? (i := 6) rfl)) (vx_c (hd _ (List.mem_of_getElem? (i := 0) rfl)) (vx_c (hd _ (List.mem_of_getElem? (i := 1) rfl)) (vx_c (hd _ (List.mem_of_getElem? (i := 2) rfl)) (vx_c h2.2.word (vx_c h3.2.word vx_n)))))))
theorem z_out (C : Cx κ cc nL Ts own ret rm0 G base) (hT : NoTb κ) {E : String} (hx : exc E ws) (hc : cells ≤ mc) (hs : slots ≤ ms) : ZX κ nL G base mc ms post exc cells slots pc lv st ws E := by
  intro ls H locs q ce h hP hD hS hq hv hcl
  exact vx_out (fun x hx => (hT x hx).elim) C.2.2.2.2.2.2.2.1 hq hv hcl (fun t ht hvm => ⟨⟨ws, hx, by rw [ht]; exact hP, hD⟩, hS.F ht⟩) hS.2.2 hc hs
/-- behind a call -/
theorem z_run {mc' ms' : Nat} {postC : Option Value → va_W → Prop} {excC : String → va_W → Prop} {st0 : List Value} {a : Array Value}
    (hr : ∀ (ls : Array Slot) (H : Heap) (locs : List Loc), lv_has ls nL lv → va_P G.1 vwCl ws H → va_D (Bd base) ws → va_S (Bd base) (ks κ).heap H locs → vx_Run (kp κ) (kl κ) (ke κ) (kR κ) (ks κ) (km κ) (ka κ) (kb κ) (kM κ) (kc κ) H locs cells slots mc' ms' (F0 (km κ) pc ls st0) st (QR G base postC a) (QX G base excC) (Bd base))
    (kx : ∀ E w, excC E w → ZX κ nL G base mc ms post exc (cells + mc') (slots + ms') pc lv st w E)
    (kk : ∀ v w, postC v w → Z κ nL G base mc ms post exc (cells + mc') (slots + ms') (pc + 3) lv (v.toList ++ st) w) : Z κ nL G base mc ms post exc cells slots pc lv st0 ws := by
  intro ls H locs h hP hD hS T hT X
  rcases hr ls H locs h hP hD hS T hT X with ⟨v, st₀, t, T', L, h0, X', hL, e1, e2, ⟨⟨v', w, hv, hp, hP1, hD1⟩, hF⟩, st⟩ | ⟨q, st₀, t, T', L, E, ce, h0, X', hL, e1, e2, ⟨⟨w, hp, hP1, hD1⟩, hF⟩, hce, hcv, hcl, st⟩
  · cases hv
    obtain ⟨-, -, k3⟩ := vx_keep h0 e1 hS (fun _ _ h => h) (fun _ h => h) hL hF
    obtain ⟨t2, a1, b1⟩ := kk v w hp ls T'.heap (locs ++ L) h (by rw [e1]; exact hP1) hD1 k3 T' rfl X'
    exact ⟨t2, st t2 a1, b1⟩
  · obtain ⟨-, -, k3⟩ := vx_keep h0 e1 hS (fun _ _ h => h) (fun _ h => h) hL hF
    obtain ⟨t2, a1, b1⟩ := kx E w hp ls T'.heap (locs ++ L) q ce h (by rw [e1]; exact hP1) hD1 k3 (by rw [e1]; exact hce) hcv hcl T' rfl X'
    exact ⟨t2, st.trans a1, b1⟩
theorem Cx.pre (C : Cx κ cc nL Ts own ret rm0 G base) {H : Heap} {locs : List Loc} (hP : va_P G.1 vwCl ws H) (hD : va_D (Bd base) ws) (hS : va_S (Bd base) (ks κ).heap H locs) {U : State} (hU : U.heap = H) (hW : (ks κ).WarmedH U.vm) : Pre G base ws U :=
  ⟨by rw [hU]; exact Nat.le_trans C.bs hS.1, by rw [hU]; exact hP, hD, C.ev.to hW hU hS⟩
theorem z_callV (C : Cx κ cc nL Ts own ret rm0 G base) {Cn : String} {T : u_T} {N ci index maxL n b : Nat} {fs : List Value} {y : MethodName} {bytes : ByteArray} {rY : Option FieldType} {wy wy' : List Cond} {rm : Room} {As : List Value} {postC : Option Value → va_W → Prop} {excC : String → va_W → Prop} (cells' slots' : Nat)
    (hM : MC (kl κ) y wy rm G base (.ref b :: As) ws postC excC) (hT : GoodIn Ts (wsV own index Cn y wy)) (hw : wy = Cond.code y bytes maxL rY :: wy') (hd : y.cls = Cn ∧ y.cls ≠ "java/lang/invoke/MethodHandle" ∧ y.cls ≠ "java/lang/invoke/VarHandle" ∧ (parseMethodDescriptor y.desc).map (fun d => d.parameters.length) = some n) (hR : rm.frames + 1 ≤ rm0.frames ∧ 8 + (maxL + 11) + rm.locals ≤ rm0.locals)
    (he : (b, .inr (ci, fs)) ∈ ws) (hc : vwCl[ci]? = some (Cn, T, N)) (hn : As.length = n) (hst : (st.map fun v => v.category).sum ≤ 8) (d : decode cc pc = .ok (.invokevirtual index, 3)) (hp : pc + 3 = pc') (h1 : cells + rm.cells = cells') (h2 : slots + rm.slots = slots') (h3 : cells' ≤ rm0.cells ∧ slots' ≤ rm0.slots)
    (kx : ∀ E w, excC E w → ZX κ nL G base mc ms post exc cells' slots' pc lv st w E)
    (kk : ∀ v w, postC v w → Z κ nL G base mc ms post exc cells' slots' pc' lv (v.toList ++ st) w) {st0 : List Value} (hs0 : st0 = As.reverse ++ .ref b :: st) : Z κ nL G base mc ms post exc cells slots pc lv st0 ws := by
  subst hp h1 h2 hs0
  obtain ⟨q0, hq⟩ := List.getElem?_of_mem he
  refine z_run (a := (Value.ref b :: As).toArray) (fun ls H locs h hP hD hS => ?_) kx kk
  exact vx_runV ⟨C.1, C.2.1, C.2.2.1, C.ow, C.2.2.2.2.1⟩ (hM C.2.2.2.2.2.2.2.2.2.1) (cwV n C.2.2.2.2.1 hT hw rfl rfl hd (by rw [C.R]; exact hR)) ⟨Pre.blind, va_recv C.K hP hc hq, fun U hU hW => ⟨rfl, C.pre hP hD hS hU hW⟩⟩ rfl hn h.1 rfl (lv_room hst) d (by rw [C.R]; exact h3)
theorem z_callS (C : Cx κ cc nL Ts own ret rm0 G base) {index maxL n : Nat} {y : MethodName} {bytes : ByteArray} {rY : Option FieldType} {wy wy' : List Cond} {rm : Room} {As : List Value} {postC : Option Value → va_W → Prop} {excC : String → va_W → Prop} (cells' slots' : Nat)
    (hM : MC (kl κ) y wy rm G base As ws postC excC) (hT : GoodIn Ts (va_wsS own index y wy)) (hw : wy = Cond.code y bytes maxL rY :: wy') (hd : y.cls ≠ "java/lang/invoke/MethodHandle" ∧ y.cls ≠ "java/lang/invoke/VarHandle" ∧ (parseMethodDescriptor y.desc).map (fun d => d.parameters.length) = some n) (hR : rm.frames + 1 ≤ rm0.frames ∧ 8 + (maxL + 11) + rm.locals ≤ rm0.locals)
    (hn : As.length = n) (hst : (st.map fun v => v.category).sum ≤ 8) (d : decode cc pc = .ok (.invokestatic index, 3)) (hp : pc + 3 = pc') (h1 : cells + rm.cells = cells') (h2 : slots + rm.slots = slots') (h3 : cells' ≤ rm0.cells ∧ slots' ≤ rm0.slots)
    (kx : ∀ E w, excC E w → ZX κ nL G base mc ms post exc cells' slots' pc lv st w E)
    (kk : ∀ v w, postC v w → Z κ nL G base mc ms post exc cells' slots' pc' lv (v.toList ++ st) w) {st0 : List Value} (hs0 : st0 = As.reverse ++ st) : Z κ nL G base mc ms post exc cells slots pc lv st0 ws := by
  subst hp h1 h2 hs0
  refine z_run (a := As.toArray) (fun ls H locs h hP hD hS => ?_) kx kk
  exact vx_runS ⟨C.1, C.2.1, C.2.2.1, C.ow, C.2.2.2.2.1⟩ (hM C.2.2.2.2.2.2.2.2.2.1) (va_cwS n C.2.2.2.2.1 hT hw rfl rfl hd (by rw [C.R]; exact hR)) ⟨Pre.blind, fun U hU hW => ⟨rfl, C.pre hP hD hS hU hW⟩⟩ rfl hn h.1 rfl (lv_room hst) d (by rw [C.R]; exact h3)
theorem z_callI (C : Cx κ cc nL Ts own ret rm0 G base) {index maxL n b : Nat} {y : MethodName} {bytes : ByteArray} {wy wy' : List Cond} {rm : Room} {As : List Value} {postC : Option Value → va_W → Prop} {excC : String → va_W → Prop} (cells' slots' : Nat)
    (hM : MC (kl κ) y wy rm G base (.ref b :: As) ws postC excC) (hG : GoodIn Ts wy) (hw : wy = Cond.code y bytes maxL none :: wy') (hini : Cond.initialized y.cls ∈ Ts) (hl : Cond.methodLink own index y ∈ Ts) (hin : Cond.instanceMethod y ∈ Ts) (hy1 : y.name = "<init>") (hd : y.cls ≠ "java/lang/invoke/MethodHandle" ∧ y.cls ≠ "java/lang/invoke/VarHandle" ∧ (parseMethodDescriptor y.desc).map (fun d => d.parameters.length) = some n) (hR : rm.frames + 1 ≤ rm0.frames ∧ 8 + (maxL + 11) + rm.locals ≤ rm0.locals)
    (hn : As.length = n) (hst : (st.map fun v => v.category).sum ≤ 8) (d : decode cc pc = .ok (.invokespecial index, 3)) (hp : pc + 3 = pc') (h1 : cells + rm.cells = cells') (h2 : slots + rm.slots = slots') (h3 : cells' ≤ rm0.cells ∧ slots' ≤ rm0.slots)
    (kx : ∀ E w, excC E w → ZX κ nL G base mc ms post exc cells' slots' pc lv st w E)
    (kk : ∀ v w, postC v w → Z κ nL G base mc ms post exc cells' slots' pc' lv (v.toList ++ st) w) {st0 : List Value} (hs0 : st0 = As.reverse ++ .ref b :: st) : Z κ nL G base mc ms post exc cells slots pc lv st0 ws := by
  subst hp h1 h2 hs0
  refine z_run (a := (Value.ref b :: As).toArray) (fun ls H locs h hP hD hS => ?_) kx kk
  exact vx_runI ⟨C.1, C.2.1, C.2.2.1, C.ow, C.2.2.2.2.1⟩ (hM C.2.2.2.2.2.2.2.2.2.1) (cwI n C.2.2.2.2.1 hG hw rfl rfl (C.hts hini) (C.hts hl) (C.hts hin) hy1 hd (by rw [C.R]; exact hR)) ⟨Pre.blind, fun U hU hW => ⟨rfl, C.pre hP hD hS hU hW⟩⟩ rfl hn h.1 rfl (lv_room hst) d (by rw [C.R]; exact h3)
/-- throw new X("text") in the class ModelCopies -/
theorem z_throw (C : Cx κ cc nL Ts RX5 ret rm0 G base) (hT : NoTb κ) {cls text : String} {ik is ic : Nat} (hcls : Bundle.fit cls = true) (hk : Cond.classLink RX5 ik cls ∈ Ts) (hini : Cond.initialized cls ∈ Ts) (hstr : (is, text) ∈ strL)
    (hg1 : ∀ w ∈ (vx_atS RX5 ic cls ["java/lang/RuntimeException", "java/lang/Exception"]).filter goodWord, w ∈ Ts) (hg2 : ∀ w ∈ (vx_atS RX5 ic cls ["java/lang/RuntimeException", "java/lang/Exception"]).filter (fun w => !goodWord w), w ∈ nbWs) (hgood : ∀ w ∈ Cond.classLink RX5 ik cls :: Cond.initialized cls :: vx_atS RX5 ic cls ["java/lang/RuntimeException", "java/lang/Exception"], vx_ot w = true)
    (d0 : decode cc pc = .ok (.new ik, 3)) (d3 : decode cc (pc + 3) = .ok (.dup, 1)) (d4 : decode cc (pc + 4) = .ok (.ldc is, 2)) (d6 : decode cc (pc + 6) = .ok (.invokespecial ic, 3)) (d9 : decode cc (pc + 9) = .ok (.athrow, 1))
    (h1 : 5 < rm0.frames) (h2 : (st.map fun v => v.category).sum + 82 ≤ rm0.locals) (h3 : cells + 1 ≤ rm0.cells) (h4 : slots + 6 ≤ rm0.slots) (hc : cells + 1 ≤ mc) (hs : slots + 6 ≤ ms) (hx : exc cls ws) : Z κ nL G base mc ms post exc cells slots pc lv st ws := by
  obtain ⟨sa, hsa⟩ := C.ev.2.2.2.1 _ hstr
  intro ls H locs h hP hD hS
  refine vx_throwS C.1 C.2.1 C.2.2.2.2.2.2.2.2.2.1 C.ow hcls (by decide) (C.hts hk) (C.hts hini) hsa (vx_hat (fun w hw => C.hts (hg1 w hw)) hg2 C.nb) hgood C.ev.2.1 C.ev.2.2.1 hS (h.1.trans C.2.2.1.symm) d0 d3 d4 d6 d9 (fun x hx => (hT x hx).elim) (by rw [C.R]; exact h1) (by rw [C.R]; exact h2) (by rw [C.R]; exact h3) (by rw [C.R]; exact h4) C.2.2.2.2.2.2.2.1 (fun t hvm hsz hk => ?_) hS.2.2 hc hs
  exact ⟨⟨ws, hx, hP.kept (fun k q hq => hk q.1 (hP k q hq).lt), hD⟩, ⟨Nat.le_trans hS.1 hsz, fun q h1 h2 => by rw [hk q (Nat.lt_of_lt_of_le h1 hS.1)]; exact hS.2.1 q h1 h2⟩⟩
theorem z_throwW (C : Cx κ cc nL Ts RX5 ret rm0 G base) (hT : NoTb κ) {cls text : String} {ik is ic : Nat} (hcls : Bundle.fit cls = true) (hk : Cond.classLink RX5 ik cls ∈ Ts) (hini : Cond.initialized cls ∈ Ts) (hstr : (is, text) ∈ strL)
    (hg1 : ∀ w ∈ (vx_atS RX5 ic cls ["java/lang/RuntimeException", "java/lang/Exception"]).filter goodWord, w ∈ Ts) (hg2 : ∀ w ∈ (vx_atS RX5 ic cls ["java/lang/RuntimeException", "java/lang/Exception"]).filter (fun w => !goodWord w), w ∈ nbWs) (hgood : ∀ w ∈ Cond.classLink RX5 ik cls :: Cond.initialized cls :: vx_atS RX5 ic cls ["java/lang/RuntimeException", "java/lang/Exception"], vx_ot w = true)
    (d0 : decode cc pc = .ok (.new ik, 3)) (d3 : decode cc (pc + 3) = .ok (.dup, 1)) (d4 : decode cc (pc + 4) = .ok (.ldc_w is, 3)) (d7 : decode cc (pc + 7) = .ok (.invokespecial ic, 3)) (d10 : decode cc (pc + 10) = .ok (.athrow, 1))
    (h1 : 5 < rm0.frames) (h2 : (st.map fun v => v.category).sum + 82 ≤ rm0.locals) (h3 : cells + 1 ≤ rm0.cells) (h4 : slots + 6 ≤ rm0.slots) (hc : cells + 1 ≤ mc) (hs : slots + 6 ≤ ms) (hx : exc cls ws) : Z κ nL G base mc ms post exc cells slots pc lv st ws := by
  obtain ⟨sa, hsa⟩ := C.ev.2.2.2.1 _ hstr
  intro ls H locs h hP hD hS
  refine vx_throwSW C.1 C.2.1 C.2.2.2.2.2.2.2.2.2.1 C.ow hcls (by decide) (C.hts hk) (C.hts hini) hsa (vx_hat (fun w hw => C.hts (hg1 w hw)) hg2 C.nb) hgood C.ev.2.1 C.ev.2.2.1 hS (h.1.trans C.2.2.1.symm) d0 d3 d4 d7 d10 (fun x hx => (hT x hx).elim) (by rw [C.R]; exact h1) (by rw [C.R]; exact h2) (by rw [C.R]; exact h3) (by rw [C.R]; exact h4) C.2.2.2.2.2.2.2.1 (fun t hvm hsz hk => ?_) hS.2.2 hc hs
  exact ⟨⟨ws, hx, hP.kept (fun k q hq => hk q.1 (hP k q hq).lt), hD⟩, ⟨Nat.le_trans hS.1 hsz, fun q h1 h2 => by rw [hk q (Nat.lt_of_lt_of_le h1 hS.1)]; exact hS.2.1 q h1 h2⟩⟩
end
/-- the words of the three throws, once -/
theorem thG_IOB : ∀ w ∈ Cond.classLink RX5 284 "java/lang/IndexOutOfBoundsException" :: Cond.initialized "java/lang/IndexOutOfBoundsException" :: vx_atS RX5 288 "java/lang/IndexOutOfBoundsException" ["java/lang/RuntimeException", "java/lang/Exception"], vx_ot w = true := by decide +kernel
theorem thN_IOB : ∀ w ∈ (vx_atS RX5 288 "java/lang/IndexOutOfBoundsException" ["java/lang/RuntimeException", "java/lang/Exception"]).filter (fun w => !goodWord w), w ∈ nbWs := by decide +kernel
theorem thG_IAE : ∀ w ∈ Cond.classLink RX5 57 "java/lang/IllegalArgumentException" :: Cond.initialized "java/lang/IllegalArgumentException" :: vx_atS RX5 61 "java/lang/IllegalArgumentException" ["java/lang/RuntimeException", "java/lang/Exception"], vx_ot w = true := by decide +kernel
theorem thN_IAE : ∀ w ∈ (vx_atS RX5 61 "java/lang/IllegalArgumentException" ["java/lang/RuntimeException", "java/lang/Exception"]).filter (fun w => !goodWord w), w ∈ nbWs := by decide +kernel
theorem thG_ISE : ∀ w ∈ Cond.classLink RX5 68 "java/lang/IllegalStateException" :: Cond.initialized "java/lang/IllegalStateException" :: vx_atS RX5 72 "java/lang/IllegalStateException" ["java/lang/RuntimeException", "java/lang/Exception"], vx_ot w = true := by decide +kernel
theorem thN_ISE : ∀ w ∈ (vx_atS RX5 72 "java/lang/IllegalStateException" ["java/lang/RuntimeException", "java/lang/Exception"]).filter (fun w => !goodWord w), w ∈ nbWs := by decide +kernel
