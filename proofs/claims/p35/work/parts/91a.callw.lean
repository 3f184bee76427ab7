section RunsW
variable {p : Program} {l : Launch} {e : Env} {R : Room} {s : State} {m : MethodId} {args : Array Value} {below : List Frame} {meth : Method} {c : Code} {H : Heap} {locs : List Loc} {cells slots : Nat}
variable {y : MethodName} {bytes cc : ByteArray} {maxL nL mc ms n index : Nat} {ret : Option FieldType} {ws : List Cond} {rm : Room} {Pc : Array Value → State → Prop} {Qc : Array Value → State → Outcome → State → Prop} {XC : String → State → State → Prop} {free : Addr → Prop} {Ts : List Cond} {own C : String} {b : Addr} {As rest : List Value} {g : JFrame}
theorem vx_runSw (S : CallFix p m c cc nL s args Ts own) (hM : vx_Met l y ws rm Pc Qc XC mc ms free) (cw : CallB R s args own index y bytes maxL ret ws rm mc ms n ∧ (Cond.static y).before args s = true) (hlo : 16 + (maxL + 11) + rm.locals ≤ R.locals) (hp : PreS s H Pc As)
    (hg : g.method = m) (hn : As.length = n) (hsize : g.locals.size = nL) (hstack : g.stack = As.reverse ++ rest) (hW : 2 * g.monitorRoom + (rest.map fun v => v.category).sum ≤ 16) (hdg : decode cc g.pc = .ok (.invokestatic index, 3)) (hf : cells + mc ≤ R.cells ∧ slots + ms ≤ R.slots) :
    vx_Run p l e R s m args below meth c H locs cells slots mc ms g rest (Qc As.toArray) XC free := by
  have hK : vx_Back l R p e below s args y 3 16 (PreOf R mc ms Pc) (PostOf Qc mc ms free) (vx_Post XC mc ms free) := by
    obtain ⟨hrc, hrs, hfr, -, hws, hcw, -, hini, -⟩ := cw.1
    exact vx_back (bytes := bytes) (maxL := maxL) (ret := ret) hM hp.1 hrc hrs hfr hlo hws hcw (fun a' U hW => word_at hW (Or.inl (by first | rfl | simp [Cond.onTables, Cond.keeps, Cond.steady])) hini)
  obtain ⟨⟨-, -, -, -, -, -, hcode, hini, hy, hlen, hl⟩, hstt⟩ := cw
  obtain ⟨hx, hb, hml, ho, -⟩ := S
  intro T hT X
  rcases vx_callS X hx (bytes := bytes) (maxL := maxL) (ret := ret) ho hl hstt hini hcode hy hK hg (hsize.trans hml.symm) (argsL := As) (rest := rest) (fun sig h => hn.trans (hlen sig h)) hstack hW (by rw [hb]; exact hdg)
    (fun vm₁ hW₁ => ⟨hf.1, hf.2, hp.2 (T.setVm vm₁) hT hW₁⟩) with ⟨v, vm₁, ⟨U', l2, c2, s2⟩, hW₁, X', ⟨g', mk, t, L, e1, e2, hq, h1, hL, h2, h3⟩, st⟩ | ⟨q, vm₁, ⟨U', l2, c2, s2⟩, hW₁, X', ⟨g', mk, t, L, E, ce, e1, e2, hq, hce, hcv, hcl, h1, hL, h2, h3⟩, st⟩
  · dsimp only [Pt.U, Pt.locs, Pt.cells, Pt.slots] at X' e1 e2 h1 h2 h3 st
    subst h1; subst h2; subst h3
    exact Or.inl ⟨v, (T.setVm vm₁).calling g' mk As.toArray, t, U', L, hT, X', hL, e1, e2, hq, st⟩
  · dsimp only [Pt.U, Pt.locs, Pt.cells, Pt.slots] at X' e1 e2 h1 h2 h3 st hcl
    subst h1; subst h2; subst h3
    exact Or.inr ⟨q, (T.setVm vm₁).calling g' mk As.toArray, t, U', L, E, ce, hT, X', hL, e1, e2, hq, hce, hcv, vx_cls hW₁ hcl, st⟩
end RunsW
theorem va_D.perm {A : Nat → Prop} {ws ws' : va_W} (h : va_D A ws) (p : ws.Perm ws') : va_D A ws' := by
  have n1 : (ws.map Prod.fst).Nodup := by
    rw [List.nodup_iff_pairwise_ne, List.pairwise_iff_getElem]
    intro i j hi hj hij e
    simp only [List.length_map] at hi hj
    simp only [List.getElem_map] at e
    have := h.1 i j _ _ (List.getElem?_eq_getElem hi) (List.getElem?_eq_getElem hj) e
    omega
  have n2 : (ws'.map Prod.fst).Nodup := (p.map Prod.fst).nodup_iff.mp n1
  rw [List.nodup_iff_pairwise_ne, List.pairwise_iff_getElem] at n2
  refine ⟨fun i j a b hi hj e => ?_, fun k q hk => ?_⟩
  · obtain ⟨li, ei⟩ := List.getElem?_eq_some_iff.mp hi
    obtain ⟨lj, ej⟩ := List.getElem?_eq_some_iff.mp hj
    have key : ∀ (i j : Nat) (li : i < ws'.length) (lj : j < ws'.length), i < j → ws'[i].1 ≠ ws'[j].1 := fun i j li lj hij => by
      have := n2 i j (by rw [List.length_map]; exact li) (by rw [List.length_map]; exact lj) hij
      simpa only [List.getElem_map] using this
    rcases Nat.lt_trichotomy i j with c | c | c
    · exact absurd (by rw [ei, ej]; exact e) (key i j li lj c)
    · exact c
    · exact absurd (by rw [ei, ej]; exact e.symm) (key j i lj li c)
  · have hm : q ∈ ws := p.mem_iff.mpr (List.mem_of_getElem? hk)
    obtain ⟨k', hk'⟩ := List.getElem?_of_mem hm
    exact h.2 k' q hk'
theorem va_P.perm {D : va_G} {cl : List vw_C} {ws ws' : va_W} {H : Heap} (h : va_P D cl ws H) (p : ws.Perm ws') : va_P D cl ws' H := fun k q hk => by
  have hm : q ∈ ws := p.mem_iff.mpr (List.mem_of_getElem? hk)
  obtain ⟨k', hk'⟩ := List.getElem?_of_mem hm
  exact h k' q hk'
section
variable {κ : KxT} {cc : ByteArray} {nL : Nat} {Ts : List Cond} {own : String} {ret : Option FieldType} {rm0 : Room} {G : GG} {base mc ms : Nat} {post : Option Value → va_W → Prop} {exc : String → va_W → Prop} {cells slots pc pc' : Nat} {lv : List (Nat × Value)} {st : List Value} {ws ws' : va_W} {b Ln : Nat} {xs : Nat → Int32}
theorem z_perm (p : ws.Perm ws') (kk : Z κ nL G base mc ms post exc cells slots pc lv st ws') : Z κ nL G base mc ms post exc cells slots pc lv st ws := fun ls H locs h hP hD hS => kk ls H locs h (hP.perm p) (hD.perm p) hS
theorem lv_roomW {m : MethodId} {ls : Array Slot} {rest : List Value} (h : (st.map fun v => v.category).sum ≤ 16) : 2 * (F0 m pc ls rest).monitorRoom + (st.map fun v => v.category).sum ≤ 16 := by
  show 2 * 0 + _ ≤ 16
  omega
theorem z_callSW (C : Cx κ cc nL Ts own ret rm0 G base) (hSC : SC base b Ln xs (ks κ)) {index maxL n : Nat} {y : MethodName} {bytes : ByteArray} {rY : Option FieldType} {wy wy' : List Cond} {rm : Room} {As : List Value} {postC : Option Value → va_W → Prop} (cells' slots' : Nat)
    (hM : MCS (kl κ) y wy rm G base b Ln xs As ws postC) (hT : GoodIn Ts (va_wsS own index y wy)) (hw : wy = Cond.code y bytes maxL rY :: wy') (hd : y.cls ≠ "java/lang/invoke/MethodHandle" ∧ y.cls ≠ "java/lang/invoke/VarHandle" ∧ (parseMethodDescriptor y.desc).map (fun d => d.parameters.length) = some n) (hR : rm.frames + 1 ≤ rm0.frames ∧ 16 + (maxL + 11) + rm.locals ≤ rm0.locals)
    (hn : As.length = n) (hst : (st.map fun v => v.category).sum ≤ 16) (d : decode cc pc = .ok (.invokestatic index, 3)) (hp : pc + 3 = pc') (h1 : cells + rm.cells = cells') (h2 : slots + rm.slots = slots') (h3 : cells' ≤ rm0.cells ∧ slots' ≤ rm0.slots)
    (kk : ∀ v w, postC v w → Z κ nL G base mc ms post exc cells' slots' pc' lv (v.toList ++ st) w) {st0 : List Value} (hs0 : st0 = As.reverse ++ st) : Z κ nL G base mc ms post exc cells slots pc lv st0 ws := by
  subst hp h1 h2 hs0
  refine z_run (excC := fun _ _ => False) (a := As.toArray) (fun ls H locs h hP hD hS => ?_) (fun _ _ h => h.elim) kk
  exact vx_runSw ⟨C.1, C.2.1, C.2.2.1, C.ow, C.2.2.2.2.1⟩ (hM C.2.2.2.2.2.2.2.2.2.1) (va_cwS n C.2.2.2.2.1 hT hw rfl rfl hd (by rw [C.R]; exact ⟨hR.1, by omega⟩)) (by rw [C.R]; exact hR.2) ⟨PreScr.blind, fun U hU hW => ⟨rfl, C.pre hP hD hS hU hW, hSC.to hW hU hS⟩⟩ rfl hn h.1 rfl (lv_roomW hst) d (by rw [C.R]; exact h3)
end
