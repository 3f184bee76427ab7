/-- a throw under way: an exception of class E over the method's frame -/
def ZX (κ : KxT) (nL : Nat) (G : GG) (base mc ms : Nat) (post : Option Value → va_W → Prop) (exc : String → va_W → Prop) (cells slots pc : Nat) (lv : List (Nat × Value)) (st : List Value) (ws : va_W) (E : String) : Prop :=
  ∀ (ls : Array Slot) (H : Heap) (locs : List Loc) (q : Addr) (ce : Cell), lv_has ls nL lv → va_P G.1 vwCl ws H → va_D (Bd base) ws → va_S (Bd base) (ks κ).heap H locs → H[q]? = some ce → ce.vm = .none → (ks κ).vm.findClass E = some ce.cls →
    vx_W (kp κ) (kl κ) (ke κ) (kR κ) (ks κ) (km κ) (ka κ) (kb κ) (kM κ) (kc κ) H locs cells slots (vx_MQ (kb κ) (QR G base post) (QX G base exc) (ka κ) (ks κ) mc ms (Bd base)) (F0 (km κ) pc ls st) q
/-- words of a throw of X by the class ModelCopies, beside the good ones -/
def nbWs : List Cond := [.castable "java/lang/IllegalArgumentException" "java/lang/IllegalArgumentException", .castable "java/lang/IllegalStateException" "java/lang/IllegalStateException", .castable "java/lang/IndexOutOfBoundsException" "java/lang/IndexOutOfBoundsException", .declares (Bundle.initS "java/lang/RuntimeException"), .declares (Bundle.initS "java/lang/Exception"), .declares (Bundle.initS Bundle.tN), .laysStatic Bundle.tN "UNASSIGNED_STACK" Bundle.steD, .laysStatic Bundle.tN "SUPPRESSED_SENTINEL" Bundle.listD]
section
variable {κ : KxT} {cc : ByteArray} {nL : Nat} {Ts : List Cond} {own : String} {ret : Option FieldType} {rm0 : Room} {G : GG} {base mc ms : Nat} {post : Option Value → va_W → Prop} {exc : String → va_W → Prop} {cells slots pc pc' : Nat} {lv : List (Nat × Value)} {st : List Value} {ws ws' : va_W}
theorem Cx.nb (C : Cx κ cc nL Ts own ret rm0 G base) : ∀ w ∈ nbWs, w.before (ka κ) (ks κ) = true := by
  obtain ⟨h1, h2, h3, h4, h5, h6, h7⟩ := C.ev
  have hc : ∀ q ∈ castL, (Cond.castable q.1 q.2).before (ka κ) (ks κ) = true := fun q hq => va_Nw.use rfl (h5 q hq)
  have hd : ∀ x ∈ declL, (Cond.declares x).before (ka κ) (ks κ) = true := fun x hx => va_Nw.use rfl (h6 x hx)
  refine vx_c (hc (_, _) (List.mem_of_getElem? (i := 4) rfl)) (vx_c (hc (_, _) (List.mem_of_getElem? (i := 5) rfl)) (vx_c (hc (_, _) (List.mem_of_getElem? (i := 6) rfl)) (vx_c (hd _ (List.mem_of_getElem? (i := 0) rfl)) (vx_c (hd _ (List.mem_of_getElem? (i := 1) rfl)) (vx_c (hd _ (List.mem_of_getElem? (i := 2) rfl)) (vx_c h2.2.word (vx_c h3.2.word vx_n)))))))
theorem z_out (C : Cx κ cc nL Ts own ret rm0 G base) (hT : NoTb κ) {E : String} (hx : exc E ws) (hc : cells ≤ mc) (hs : slots ≤ ms) : ZX κ nL G base mc ms post exc cells slots pc lv st ws E := by
  intro ls H locs q ce h hP hD hS hq hv hcl
  exact vx_out (fun x hx => (hT x hx).elim) C.2.2.2.2.2.2.2.1 hq hv hcl (fun t ht hvm => ⟨⟨ws, hx, by rw [ht]; exact hP, hD⟩, hS.F ht⟩) hS.2.2 hc hs
/-- behind a call -/
theorem z_run {mc' ms' : Nat} {postC : Option Value → va_W → Prop} {excC : String → va_W → Prop} {st0 : List Value} {a : Array Value}
    (hr : ∀ (ls : Array Slot) (H : Heap) (locs : List Loc), lv_has ls nL lv → va_P G.1 vwCl ws H → va_D (Bd base) ws → va_S (Bd base) (ks κ).heap H locs → vx_Run (kp κ) (kl κ) (ke κ) (kR κ) (ks κ) (km κ) (ka κ) (kb κ) (kM κ) (kc κ) H locs cells slots mc' ms' (F0 (km κ) pc ls st0) st (QR G base postC a) (QX G base excC) (Bd base))
    (kx : ∀ E w, excC E w → ZX κ nL G base mc ms post exc (cells + mc') (slots + ms') pc lv st w E)
    (kk : ∀ v w, postC v w → Z κ nL G base mc ms post exc (cells + mc') (slots + ms') (pc + 3) lv (v.toList ++ st) w) : Z κ nL G base mc ms post exc cells slots pc lv st0 ws := by
  intro ls H locs h hP hD hS T hT X
  rcases hr ls H locs h hP hD hS T hT X with ⟨v, st₀, t, T', L, h0, X', hL, e1, e2, ⟨⟨v', w, hv, hp, hP1, hD1⟩, hF⟩, st⟩ | ⟨q, st₀, t, T', L, E, ce, h0, X', hL, e1, e2, ⟨⟨w, hp, hP1, hD1⟩, hF⟩, hce, hcv, hcl, st⟩
  · cases hv
    obtain ⟨-, -, k3⟩ := vx_keep h0 e1 hS (fun _ _ h => h) (fun _ h => h) hL hF
    obtain ⟨t2, a1, b1⟩ := kk v w hp ls T'.heap (locs ++ L) h (by rw [e1]; exact hP1) hD1 k3 T' rfl X'
    exact ⟨t2, st t2 a1, b1⟩
  · obtain ⟨-, -, k3⟩ := vx_keep h0 e1 hS (fun _ _ h => h) (fun _ h => h) hL hF
    obtain ⟨t2, a1, b1⟩ := kx E w hp ls T'.heap (locs ++ L) q ce h (by rw [e1]; exact hP1) hD1 k3 (by rw [e1]; exact hce) hcv hcl T' rfl X'
    exact ⟨t2, st.trans a1, b1⟩
theorem Cx.pre (C : Cx κ cc nL Ts own ret rm0 G base) {H : Heap} {locs : List Loc} (hP : va_P G.1 vwCl ws H) (hD : va_D (Bd base) ws) (hS : va_S (Bd base) (ks κ).heap H locs) {U : State} (hU : U.heap = H) (hW : (ks κ).WarmedH U.vm) : Pre G base ws U :=
  ⟨by rw [hU]; exact Nat.le_trans C.bs hS.1, by rw [hU]; exact hP, hD, C.ev.to hW hU hS⟩
theorem z_callV (C : Cx κ cc nL Ts own ret rm0 G base) {Cn : String} {T : u_T} {N ci index maxL n b : Nat} {fs : List Value} {y : MethodName} {bytes : ByteArray} {rY : Option FieldType} {wy wy' : List Cond} {rm : Room} {As : List Value} {postC : Option Value → va_W → Prop} {excC : String → va_W → Prop} (cells' slots' : Nat)
    (hM : MC (kl κ) y wy rm G base (.ref b :: As) ws postC excC) (hT : GoodIn Ts (wsV own index Cn y wy)) (hw : wy = Cond.code y bytes maxL rY :: wy') (hd : y.cls = Cn ∧ y.cls ≠ "java/lang/invoke/MethodHandle" ∧ y.cls ≠ "java/lang/invoke/VarHandle" ∧ (parseMethodDescriptor y.desc).map (fun d => d.parameters.length) = some n) (hR : rm.frames + 1 ≤ rm0.frames ∧ 8 + (maxL + 11) + rm.locals ≤ rm0.locals)
    (he : (b, .inr (ci, fs)) ∈ ws) (hc : vwCl[ci]? = some (Cn, T, N)) (hn : As.length = n) (hst : (st.map fun v => v.category).sum ≤ 8) (d : decode cc pc = .ok (.invokevirtual index, 3)) (hp : pc + 3 = pc') (h1 : cells + rm.cells = cells') (h2 : slots + rm.slots = slots') (h3 : cells' ≤ rm0.cells ∧ slots' ≤ rm0.slots)
    (kx : ∀ E w, excC E w → ZX κ nL G base mc ms post exc cells' slots' pc lv st w E)
    (kk : ∀ v w, postC v w → Z κ nL G base mc ms post exc cells' slots' pc' lv (v.toList ++ st) w) {st0 : List Value} (hs0 : st0 = As.reverse ++ .ref b :: st) : Z κ nL G base mc ms post exc cells slots pc lv st0 ws := by
  subst hp h1 h2 hs0
  obtain ⟨q0, hq⟩ := List.getElem?_of_mem he
  refine z_run (a := (Value.ref b :: As).toArray) (fun ls H locs h hP hD hS => ?_) kx kk
  exact vx_runV ⟨C.1, C.2.1, C.2.2.1, C.own, C.2.2.2.2.1⟩ (hM C.2.2.2.2.2.2.2.2.2.1) (cwV n C.2.2.2.2.1 hT hw rfl rfl hd (by rw [C.R]; exact hR)) ⟨Pre.blind, va_recv C.K hP hc hq, fun U hU hW => ⟨rfl, C.pre hP hD hS hU hW⟩⟩ rfl hn h.1 rfl (lv_room hst) d (by rw [C.R]; exact h3)
theorem z_callS (C : Cx κ cc nL Ts own ret rm0 G base) {index maxL n : Nat} {y : MethodName} {bytes : ByteArray} {rY : Option FieldType} {wy wy' : List Cond} {rm : Room} {As : List Value} {postC : Option Value → va_W → Prop} {excC : String → va_W → Prop} (cells' slots' : Nat)
    (hM : MC (kl κ) y wy rm G base As ws postC excC) (hT : GoodIn Ts (va_wsS own index y wy)) (hw : wy = Cond.code y bytes maxL rY :: wy') (hd : y.cls ≠ "java/lang/invoke/MethodHandle" ∧ y.cls ≠ "java/lang/invoke/VarHandle" ∧ (parseMethodDescriptor y.desc).map (fun d => d.parameters.length) = some n) (hR : rm.frames + 1 ≤ rm0.frames ∧ 8 + (maxL + 11) + rm.locals ≤ rm0.locals)
    (hn : As.length = n) (hst : (st.map fun v => v.category).sum ≤ 8) (d : decode cc pc = .ok (.invokestatic index, 3)) (hp : pc + 3 = pc') (h1 : cells + rm.cells = cells') (h2 : slots + rm.slots = slots') (h3 : cells' ≤ rm0.cells ∧ slots' ≤ rm0.slots)
    (kx : ∀ E w, excC E w → ZX κ nL G base mc ms post exc cells' slots' pc lv st w E)
    (kk : ∀ v w, postC v w → Z κ nL G base mc ms post exc cells' slots' pc' lv (v.toList ++ st) w) {st0 : List Value} (hs0 : st0 = As.reverse ++ st) : Z κ nL G base mc ms post exc cells slots pc lv st0 ws := by
  subst hp h1 h2 hs0
  refine z_run (a := As.toArray) (fun ls H locs h hP hD hS => ?_) kx kk
  exact vx_runS ⟨C.1, C.2.1, C.2.2.1, C.own, C.2.2.2.2.1⟩ (hM C.2.2.2.2.2.2.2.2.2.1) (va_cwS n C.2.2.2.2.1 hT hw rfl rfl hd (by rw [C.R]; exact hR)) ⟨Pre.blind, fun U hU hW => ⟨rfl, C.pre hP hD hS hU hW⟩⟩ rfl hn h.1 rfl (lv_room hst) d (by rw [C.R]; exact h3)
theorem z_callI (C : Cx κ cc nL Ts own ret rm0 G base) {index maxL n b : Nat} {y : MethodName} {bytes : ByteArray} {wy wy' : List Cond} {rm : Room} {As : List Value} {postC : Option Value → va_W → Prop} {excC : String → va_W → Prop} (cells' slots' : Nat)
    (hM : MC (kl κ) y wy rm G base (.ref b :: As) ws postC excC) (hG : GoodIn Ts wy) (hw : wy = Cond.code y bytes maxL none :: wy') (hini : Cond.initialized y.cls ∈ Ts) (hl : Cond.methodLink own index y ∈ Ts) (hin : Cond.instanceMethod y ∈ Ts) (hy1 : y.name = "<init>") (hd : y.cls ≠ "java/lang/invoke/MethodHandle" ∧ y.cls ≠ "java/lang/invoke/VarHandle" ∧ (parseMethodDescriptor y.desc).map (fun d => d.parameters.length) = some n) (hR : rm.frames + 1 ≤ rm0.frames ∧ 8 + (maxL + 11) + rm.locals ≤ rm0.locals)
    (hn : As.length = n) (hst : (st.map fun v => v.category).sum ≤ 8) (d : decode cc pc = .ok (.invokespecial index, 3)) (hp : pc + 3 = pc') (h1 : cells + rm.cells = cells') (h2 : slots + rm.slots = slots') (h3 : cells' ≤ rm0.cells ∧ slots' ≤ rm0.slots)
    (kx : ∀ E w, excC E w → ZX κ nL G base mc ms post exc cells' slots' pc lv st w E)
    (kk : ∀ v w, postC v w → Z κ nL G base mc ms post exc cells' slots' pc' lv (v.toList ++ st) w) {st0 : List Value} (hs0 : st0 = As.reverse ++ .ref b :: st) : Z κ nL G base mc ms post exc cells slots pc lv st0 ws := by
  subst hp h1 h2 hs0
  refine z_run (a := (Value.ref b :: As).toArray) (fun ls H locs h hP hD hS => ?_) kx kk
  exact vx_runI ⟨C.1, C.2.1, C.2.2.1, C.own, C.2.2.2.2.1⟩ (hM C.2.2.2.2.2.2.2.2.2.1) (cwI n C.2.2.2.2.1 hG hw rfl rfl (C.hts hini) (C.hts hl) (C.hts hin) hy1 hd (by rw [C.R]; exact hR)) ⟨Pre.blind, fun U hU hW => ⟨rfl, C.pre hP hD hS hU hW⟩⟩ rfl hn h.1 rfl (lv_room hst) d (by rw [C.R]; exact h3)
/-- throw new X("text") in the class ModelCopies -/
theorem z_throw (C : Cx κ cc nL Ts RX5 ret rm0 G base) (hT : NoTb κ) {cls text : String} {ik is ic : Nat} (hcls : Bundle.fit cls = true) (hk : Cond.classLink RX5 ik cls ∈ Ts) (hini : Cond.initialized cls ∈ Ts) (hstr : (is, text) ∈ strL)
    (hg1 : ∀ w ∈ (vx_atS RX5 ic cls ["java/lang/RuntimeException", "java/lang/Exception"]).filter goodWord, w ∈ Ts) (hg2 : ∀ w ∈ (vx_atS RX5 ic cls ["java/lang/RuntimeException", "java/lang/Exception"]).filter (fun w => !goodWord w), w ∈ nbWs) (hgood : ∀ w ∈ Cond.classLink RX5 ik cls :: Cond.initialized cls :: vx_atS RX5 ic cls ["java/lang/RuntimeException", "java/lang/Exception"], vx_ot w = true)
    (d0 : decode cc pc = .ok (.new ik, 3)) (d3 : decode cc (pc + 3) = .ok (.dup, 1)) (d4 : decode cc (pc + 4) = .ok (.ldc is, 2)) (d6 : decode cc (pc + 6) = .ok (.invokespecial ic, 3)) (d9 : decode cc (pc + 9) = .ok (.athrow, 1))
    (h1 : 5 < rm0.frames) (h2 : (st.map fun v => v.category).sum + 82 ≤ rm0.locals) (h3 : cells + 1 ≤ rm0.cells) (h4 : slots + 6 ≤ rm0.slots) (hc : cells + 1 ≤ mc) (hs : slots + 6 ≤ ms) (hx : exc cls ws) : Z κ nL G base mc ms post exc cells slots pc lv st ws := by
  obtain ⟨sa, hsa⟩ := C.ev.2.2.2.1 _ hstr
  intro ls H locs h hP hD hS
  refine vx_throwS C.1 C.2.1 C.2.2.2.2.2.2.2.2.2.1 C.own hcls (by decide) (C.hts hk) (C.hts hini) hsa (vx_hat (fun w hw => C.hts (hg1 w hw)) hg2 C.nb) hgood C.ev.2.1 C.ev.2.2.1 hS (h.1.trans C.2.2.1.symm) d0 d3 d4 d6 d9 (fun x hx => (hT x hx).elim) (by rw [C.R]; exact h1) (by rw [C.R]; exact h2) (by rw [C.R]; exact h3) (by rw [C.R]; exact h4) C.2.2.2.2.2.2.2.1 (fun t hvm hsz hk => ?_) hS.2.2 hc hs
  exact ⟨⟨ws, hx, hP.kept (fun k q hq => hk q.1 (hP k q hq).lt), hD⟩, ⟨Nat.le_trans hS.1 hsz, fun q h1 h2 => by rw [hk q (Nat.lt_of_lt_of_le h1 hS.1)]; exact hS.2.1 q h1 h2⟩⟩
theorem z_throwW (C : Cx κ cc nL Ts RX5 ret rm0 G base) (hT : NoTb κ) {cls text : String} {ik is ic : Nat} (hcls : Bundle.fit cls = true) (hk : Cond.classLink RX5 ik cls ∈ Ts) (hini : Cond.initialized cls ∈ Ts) (hstr : (is, text) ∈ strL)
    (hg1 : ∀ w ∈ (vx_atS RX5 ic cls ["java/lang/RuntimeException", "java/lang/Exception"]).filter goodWord, w ∈ Ts) (hg2 : ∀ w ∈ (vx_atS RX5 ic cls ["java/lang/RuntimeException", "java/lang/Exception"]).filter (fun w => !goodWord w), w ∈ nbWs) (hgood : ∀ w ∈ Cond.classLink RX5 ik cls :: Cond.initialized cls :: vx_atS RX5 ic cls ["java/lang/RuntimeException", "java/lang/Exception"], vx_ot w = true)
    (d0 : decode cc pc = .ok (.new ik, 3)) (d3 : decode cc (pc + 3) = .ok (.dup, 1)) (d4 : decode cc (pc + 4) = .ok (.ldc_w is, 3)) (d7 : decode cc (pc + 7) = .ok (.invokespecial ic, 3)) (d10 : decode cc (pc + 10) = .ok (.athrow, 1))
    (h1 : 5 < rm0.frames) (h2 : (st.map fun v => v.category).sum + 82 ≤ rm0.locals) (h3 : cells + 1 ≤ rm0.cells) (h4 : slots + 6 ≤ rm0.slots) (hc : cells + 1 ≤ mc) (hs : slots + 6 ≤ ms) (hx : exc cls ws) : Z κ nL G base mc ms post exc cells slots pc lv st ws := by
  obtain ⟨sa, hsa⟩ := C.ev.2.2.2.1 _ hstr
  intro ls H locs h hP hD hS
  refine vx_throwSW C.1 C.2.1 C.2.2.2.2.2.2.2.2.2.1 C.own hcls (by decide) (C.hts hk) (C.hts hini) hsa (vx_hat (fun w hw => C.hts (hg1 w hw)) hg2 C.nb) hgood C.ev.2.1 C.ev.2.2.1 hS (h.1.trans C.2.2.1.symm) d0 d3 d4 d7 d10 (fun x hx => (hT x hx).elim) (by rw [C.R]; exact h1) (by rw [C.R]; exact h2) (by rw [C.R]; exact h3) (by rw [C.R]; exact h4) C.2.2.2.2.2.2.2.1 (fun t hvm hsz hk => ?_) hS.2.2 hc hs
  exact ⟨⟨ws, hx, hP.kept (fun k q hq => hk q.1 (hP k q hq).lt), hD⟩, ⟨Nat.le_trans hS.1 hsz, fun q h1 h2 => by rw [hk q (Nat.lt_of_lt_of_le h1 hS.1)]; exact hS.2.1 q h1 h2⟩⟩
end
/-- the words of the three throws, once -/
theorem thG_IOB : ∀ w ∈ Cond.classLink RX5 284 "java/lang/IndexOutOfBoundsException" :: Cond.initialized "java/lang/IndexOutOfBoundsException" :: vx_atS RX5 288 "java/lang/IndexOutOfBoundsException" ["java/lang/RuntimeException", "java/lang/Exception"], vx_ot w = true := by decide +kernel
theorem thN_IOB : ∀ w ∈ (vx_atS RX5 288 "java/lang/IndexOutOfBoundsException" ["java/lang/RuntimeException", "java/lang/Exception"]).filter (fun w => !goodWord w), w ∈ nbWs := by decide +kernel
theorem thG_IAE : ∀ w ∈ Cond.classLink RX5 57 "java/lang/IllegalArgumentException" :: Cond.initialized "java/lang/IllegalArgumentException" :: vx_atS RX5 61 "java/lang/IllegalArgumentException" ["java/lang/RuntimeException", "java/lang/Exception"], vx_ot w = true := by decide +kernel
theorem thN_IAE : ∀ w ∈ (vx_atS RX5 61 "java/lang/IllegalArgumentException" ["java/lang/RuntimeException", "java/lang/Exception"]).filter (fun w => !goodWord w), w ∈ nbWs := by decide +kernel
theorem thG_ISE : ∀ w ∈ Cond.classLink RX5 68 "java/lang/IllegalStateException" :: Cond.initialized "java/lang/IllegalStateException" :: vx_atS RX5 72 "java/lang/IllegalStateException" ["java/lang/RuntimeException", "java/lang/Exception"], vx_ot w = true := by decide +kernel
theorem thN_ISE : ∀ w ∈ (vx_atS RX5 72 "java/lang/IllegalStateException" ["java/lang/RuntimeException", "java/lang/Exception"]).filter (fun w => !goodWord w), w ∈ nbWs := by decide +kernel
