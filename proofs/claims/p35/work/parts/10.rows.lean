def iI (z : Int) : Int32 := Int32.ofInt z
theorem iI_add (a b : Int) : iI a + iI b = iI (a + b) := (Int32.ofInt_add a b).symm
theorem iI_sub (a b : Int) : iI a - iI b = iI (a - b) := (Int32.ofInt_sub a b).symm
theorem iI_mul (a b : Int) : iI a * iI b = iI (a * b) := (Int32.ofInt_mul a b).symm
theorem iI_of (x : Int32) : iI x.toInt = x := Int32.ofInt_toInt x
theorem iI_ex (x : Int32) : ∃ z : Int, (-2147483648 ≤ z ∧ z < 2147483648) ∧ x = iI z := ⟨x.toInt, ⟨Int32.le_toInt x, Int32.toInt_lt x⟩, (iI_of x).symm⟩
theorem iI_toInt {z : Int} (h : -2147483648 ≤ z ∧ z < 2147483648) : (iI z).toInt = z := Int32.toInt_ofInt_of_le h.1 h.2
theorem iI_lt {a b : Int} (ha : -2147483648 ≤ a ∧ a < 2147483648) (hb : -2147483648 ≤ b ∧ b < 2147483648) : iI a < iI b ↔ a < b := by rw [Int32.lt_iff_toInt_lt, iI_toInt ha, iI_toInt hb]
theorem iI_le {a b : Int} (ha : -2147483648 ≤ a ∧ a < 2147483648) (hb : -2147483648 ≤ b ∧ b < 2147483648) : iI a ≤ iI b ↔ a ≤ b := by rw [Int32.le_iff_toInt_le, iI_toInt ha, iI_toInt hb]
theorem iI_eq {a b : Int} (ha : -2147483648 ≤ a ∧ a < 2147483648) (hb : -2147483648 ≤ b ∧ b < 2147483648) : iI a = iI b ↔ a = b := by rw [← Int32.toInt_inj, iI_toInt ha, iI_toInt hb]
theorem iI_0 : (0 : Int32) = iI 0 := rfl
theorem iI_lt0 {a : Int} (ha : -2147483648 ≤ a ∧ a < 2147483648) : iI a < 0 ↔ a < 0 := iI_lt (b := 0) ha (by omega)
theorem iI_le0 {a : Int} (ha : -2147483648 ≤ a ∧ a < 2147483648) : iI a ≤ 0 ↔ a ≤ 0 := iI_le (b := 0) ha (by omega)
theorem iI_0lt {a : Int} (ha : -2147483648 ≤ a ∧ a < 2147483648) : 0 < iI a ↔ 0 < a := iI_lt (a := 0) (by omega) ha
theorem iI_0le {a : Int} (ha : -2147483648 ≤ a ∧ a < 2147483648) : 0 ≤ iI a ↔ 0 ≤ a := iI_le (a := 0) (by omega) ha
theorem iI_eq0 {a : Int} (ha : -2147483648 ≤ a ∧ a < 2147483648) : iI a = 0 ↔ a = 0 := iI_eq (b := 0) ha (by omega)
theorem iI_cl {z : Int} (h : 0 ≤ z ∧ z < 2147483648) : (iI z).toNatClampNeg = z.toNat := by
  show (iI z).toInt.toNat = z.toNat
  rw [iI_toInt ⟨by omega, h.2⟩]
theorem iI_in {z : Int} {n : Nat} (h : 0 ≤ z ∧ z < n) (hn : z < 2147483648) : vp_in (iI z) n := by
  rw [vp_in_iff, iI_toInt ⟨by omega, hn⟩]
  exact h
theorem iI_nat (n : Nat) : Int32.ofNat n = iI (n : Int) := rfl
theorem iI_bool {z : Int} (h : z = 0 ∨ z = 1) : narrow .boolean (.int (iI z)) = .int (iI z) := by rcases h with rfl | rfl <;> decide
theorem iI_fit {z : Int} : fits .int (.int (iI z)) = true := rfl
theorem iI_fitb {z : Int} (h : z = 0 ∨ z = 1) : fits .boolean (.int (iI z)) = true := by rcases h with rfl | rfl <;> decide
theorem iI_nar {z : Int} (h : z = 0 ∨ z = 1) : vp_nar .boolean (iI z) = iI z := by rcases h with rfl | rfl <;> decide
/-! the method's context in one, and the walk as an abstract machine: place, locals, stack, world -/
abbrev KxT : Type := Program × Launch × Env × Room × State × MethodId × Array Value × List Frame × Method × Code
abbrev kp (κ : KxT) := κ.1
abbrev kl (κ : KxT) := κ.2.1
abbrev ke (κ : KxT) := κ.2.2.1
abbrev kR (κ : KxT) := κ.2.2.2.1
abbrev ks (κ : KxT) := κ.2.2.2.2.1
abbrev km (κ : KxT) := κ.2.2.2.2.2.1
abbrev ka (κ : KxT) := κ.2.2.2.2.2.2.1
abbrev kb (κ : KxT) := κ.2.2.2.2.2.2.2.1
abbrev kM (κ : KxT) := κ.2.2.2.2.2.2.2.2.1
abbrev kc (κ : KxT) := κ.2.2.2.2.2.2.2.2.2
/-- class numbers, the array kinds' numbers (int, boolean, Object, long), the cell of ArrayList's empty row -/
abbrev GG : Type := va_G × ClassId × ClassId × ClassId × ClassId × Nat × Nat
abbrev tysG (G : GG) : List (ClassId × FieldType) := [(G.2.1, .int), (G.2.2.1, .boolean), (G.2.2.2.1, .object "java/lang/Object"), (G.2.2.2.2.1, .long)]
abbrev gde (G : GG) : Nat := G.2.2.2.2.2.1
abbrev gmi (G : GG) : Nat := G.2.2.2.2.2.2
def Bd (base : Nat) : Nat → Prop := fun q => base ≤ q
def castL : List (String × String) := [(RX0, "java/lang/Object"), (RX2, "java/lang/Object"), (RX3, "java/lang/Object"), (RX4, "java/lang/Object"), ("java/lang/IllegalArgumentException", "java/lang/IllegalArgumentException"), ("java/lang/IllegalStateException", "java/lang/IllegalStateException"), ("java/lang/IndexOutOfBoundsException", "java/lang/IndexOutOfBoundsException")]
def declL : List MethodName := [Bundle.initS "java/lang/RuntimeException", Bundle.initS "java/lang/Exception", Bundle.initS Bundle.tN]
def strL : List (Nat × String) := [(295, "there is no such place"), (59, "there is no such reading"), (70, "the draft has readings for as many places as it can"), (286, "there is no such copy"), (297, "there is no such scribe"), (289, "there is no such house"), (95, "the model is not in the house"), (101, "there are as many copies as there can be"), (125, "the copy has no model, or its model is told"), (133, "so many days cannot go by at once"), (135, "the last day would be passed"), (137, "not both copies are in the house"), (142, "both copies have the same reading there"), (144, "as many letters were written as can be"), (157, "the copy is not in the house"), (170, "a copy is not lent for so many days"), (172, "a pledge is not so high"), (177, "the copy belongs to the house, or is lent"), (182, "the house does not have so many coins"), (184, "as many loans were made as can be"), (291, "there is no such loan"), (205, "the loan was given back"), (299, "there is no such error"), (293, "there is no such letter")]
/-- what every method needs of the machine beside its own words -/
def Ev (G : GG) (base : Nat) (U : State) (H : Heap) : Prop :=
  va_K G.1 vwCl (tysG G) U ∧ vx_Zq Bundle.tN "UNASSIGNED_STACK" Bundle.steD (Bd base) U H ∧ vx_Zq Bundle.tN "SUPPRESSED_SENTINEL" Bundle.listD (Bd base) U H ∧
  (∀ q ∈ strL, ∃ sa : Nat, vk_R RX5 q.1 q.2 sa U) ∧ (∀ q ∈ castL, va_Nw (.castable q.1 q.2) U) ∧ (∀ x ∈ declL, va_Nw (.declares x) U) ∧
  va_Mi "[Ljava/lang/Object;" (gmi G) U ∧ va_Dc U ∧ va_AO "java/lang/Object" U ∧
  va_Z RJx4a65c "DEFAULTCAPACITY_EMPTY_ELEMENTDATA" "[Ljava/lang/Object;" (.ref (gde G)) (Bd base) U H ∧ va_T (.object "java/lang/Object") (gde G) 0 (fun _ => .null) (Bd base) U H
theorem Ev.to {G : GG} {base : Nat} {s U : State} {H : Heap} {locs : List Loc} (h : Ev G base s s.heap) (hW : s.WarmedH U.vm) (hU : U.heap = H) (hS : va_S (Bd base) s.heap H locs) : Ev G base U U.heap := by
  obtain ⟨h1, h2, h3, h4, h5, h6, h7, h8, h9, h10, h11⟩ := h
  have hq : ∀ a : Nat, a < s.heap.size → ¬ Bd base a → U.heap[a]? = s.heap[a]? := fun a h1 h2 => by rw [hU]; exact hS.2.1 a h1 h2
  refine ⟨va_K.moved hW.alike h1, (h2.moved hW.alike).kept hq, (h3.moved hW.alike).kept hq, fun q hm => ?_, fun q hm => va_Nw.warmC hW (h5 q hm), fun x hm => va_Nw.warmD hW (h6 x hm), va_Mi.moved hW.alike h7, va_Dc.moved hW.alike h8, va_AO.moved hW.alike h9, (h10.moved hW.alike).kept hq, (h11.moved hW.alike).kept hq⟩
  obtain ⟨sa, h⟩ := h4 q hm
  exact ⟨sa, vk_R.warm hW h⟩
theorem Ev.blind {G : GG} {base : Nat} {U V : State} {H : Heap} (hv : V.vm = U.vm) (h : Ev G base U H) : Ev G base V H := by
  obtain ⟨h1, h2, h3, h4, h5, h6, h7, h8, h9, h10, h11⟩ := h
  have ha : U.vm.Alike V.vm := by rw [hv]; exact Vm.Alike.refl _
  refine ⟨va_K.moved ha h1, h2.moved ha, h3.moved ha, fun q hm => ?_, fun q hm => va_Nw.same rfl hv.symm (h5 q hm), fun x hm => va_Nw.same rfl hv.symm (h6 x hm), va_Mi.moved ha h7, va_Dc.moved ha h8, va_AO.moved ha h9, h10.moved ha, h11.moved ha⟩
  obtain ⟨sa, h⟩ := h4 q hm
  exact ⟨sa, vk_R.same hv h⟩
def QR (G : GG) (base : Nat) (post : Option Value → va_W → Prop) : Array Value → State → Outcome → State → Prop := fun _ st oc t => (∃ v ws, oc = .returned v ∧ post v ws ∧ va_P G.1 vwCl ws t.heap ∧ va_D (Bd base) ws) ∧ va_F (Bd base) st t
def QX (G : GG) (base : Nat) (exc : String → va_W → Prop) : String → State → State → Prop := fun E st t => (∃ ws, exc E ws ∧ va_P G.1 vwCl ws t.heap ∧ va_D (Bd base) ws) ∧ va_F (Bd base) st t
def Z (κ : KxT) (nL : Nat) (G : GG) (base mc ms : Nat) (post : Option Value → va_W → Prop) (exc : String → va_W → Prop) (cells slots pc : Nat) (lv : List (Nat × Value)) (st : List Value) (ws : va_W) : Prop :=
  ∀ (ls : Array Slot) (H : Heap) (locs : List Loc), lv_has ls nL lv → va_P G.1 vwCl ws H → va_D (Bd base) ws → va_S (Bd base) (ks κ).heap H locs →
    W (kp κ) (kl κ) (ke κ) (kR κ) (ks κ) (km κ) (ka κ) (kb κ) (kM κ) (kc κ) H locs cells slots (vx_MQ (kb κ) (QR G base post) (QX G base exc) (ka κ) (ks κ) mc ms (Bd base)) (F0 (km κ) pc ls st)
def Cx (κ : KxT) (cc : ByteArray) (nL : Nat) (Ts : List Cond) (own : String) (ret : Option FieldType) (rm0 : Room) (G : GG) (base : Nat) : Prop :=
  (kp κ).tables.exec = Jvm.exec ∧ (kc κ).code = cc ∧ (kc κ).maxLocals = nL ∧ (ks κ).vm.findClass own = some (km κ).cls ∧ (∀ w ∈ Ts, w.before (ka κ) (ks κ) = true) ∧ Ev G base (ks κ) (ks κ).heap ∧ (kM κ).sig.returnType = ret ∧ (kM κ).locks = false ∧ base ≤ (ks κ).heap.size ∧ (kl κ).stackTraces = false ∧ kR κ = rm0
def NoTb (κ : KxT) : Prop := ∀ x ∈ (kc κ).exceptionTable.toList, False
def Pre (G : GG) (base : Nat) (ws : va_W) (U : State) : Prop := base ≤ U.heap.size ∧ va_P G.1 vwCl ws U.heap ∧ va_D (Bd base) ws ∧ Ev G base U U.heap
def MC (l : Launch) (y : MethodName) (wy : List Cond) (rm : Room) (G : GG) (base : Nat) (as : List Value) (ws : va_W) (post : Option Value → va_W → Prop) (exc : String → va_W → Prop) : Prop :=
  l.stackTraces = false → vx_Met l y wy rm (va_Pc as (Pre G base ws)) (QR G base post) (QX G base exc) rm.cells rm.slots (Bd base)
theorem Pre.blind {G : GG} {base : Nat} {as : List Value} {ws : va_W} : FrameBlind (va_Pc as (Pre G base ws)) := fun _ _ _ _ h => ⟨h.1, h.2.1, h.2.2.1, h.2.2.2.1, h.2.2.2.2.blind rfl⟩
/-- a method's contract out of its walk -/
theorem MC.of {l : Launch} {y : MethodName} {wy ws' : List Cond} {rm : Room} {G : GG} {base : Nat} {as : List Value} {ws : va_W} {post : Option Value → va_W → Prop} {exc : String → va_W → Prop} {cc : ByteArray} {nL : Nat} {ret : Option FieldType}
    (hy : plainName y.cls = true) (hw : wy = Cond.code y cc nL ret :: ws') {own : String} (ho : y.cls = own) (hn : (lg_sl as).length ≤ nL)
    (body : ∀ κ : KxT, Cx κ cc nL wy own ret rm G base → NoTb κ → kl κ = l → ((kM κ).name = y.name) → Z κ nL G base rm.cells rm.slots post exc 0 0 0 (lv_args 0 as) [] ws) : MC l y wy rm G base as ws post exc := by
  intro hst
  refine vx_ofW hy hw ?_
  intro p e s m args below meth c s₁ B hml htb hv
  obtain ⟨rfl, hb, hP, hD, hE⟩ := hv
  have hown : s.vm.findClass y.cls = some m.cls := findClass_of_methodNamed B.named
  have hnm : meth.name = y.name := (name_of_methodNamed B.named B.method).1
  have hl := lv_entry as (n := nL) hn
  rw [lg_entry_eq]
  refine body (p, l, e, (headSpec wy rm).room, s, m, as.toArray, below, meth, c) ⟨B.exec, B.bytes, hml, by rw [← ho]; exact hown, atoms_spec (ws := wy) B.pre, hE, B.returns, B.notSynchronized, hb, hst, rfl⟩ htb rfl hnm _ _ _ hl hP hD va_S.rf
section
variable {κ : KxT} {cc : ByteArray} {nL : Nat} {Ts : List Cond} {own : String} {ret : Option FieldType} {rm0 : Room} {G : GG} {base mc ms : Nat} {post : Option Value → va_W → Prop} {exc : String → va_W → Prop} {cells slots pc pc' : Nat} {lv : List (Nat × Value)} {st : List Value} {ws : va_W}

theorem z_iconst (C : Cx κ cc nL Ts own ret rm0 G base) {n : Int} (d : decode cc pc = .ok (.iconst n, 1)) (hn : pc + 1 = pc') (kk : Z κ nL G base mc ms post exc cells slots pc' lv (.int (iI n) :: st) ws) : Z κ nL G base mc ms post exc cells slots pc lv st ws := by
  subst hn
  exact fun ls H locs h hP hD hS => lv_iconst C.1 C.2.1 d rfl (kk ls H locs h hP hD hS)
theorem z_bipush (C : Cx κ cc nL Ts own ret rm0 G base) {n c : Int} (hv : (Int8.ofInt n).toInt32 = iI c) (d : decode cc pc = .ok (.bipush n, 2)) (hn : pc + 2 = pc') (kk : Z κ nL G base mc ms post exc cells slots pc' lv (.int (iI c) :: st) ws) : Z κ nL G base mc ms post exc cells slots pc lv st ws := by
  subst hn
  exact fun ls H locs h hP hD hS => lv_bipush C.1 C.2.1 d hv (kk ls H locs h hP hD hS)
theorem z_sipush (C : Cx κ cc nL Ts own ret rm0 G base) {n c : Int} (hv : (Int16.ofInt n).toInt32 = iI c) (d : decode cc pc = .ok (.sipush n, 3)) (hn : pc + 3 = pc') (kk : Z κ nL G base mc ms post exc cells slots pc' lv (.int (iI c) :: st) ws) : Z κ nL G base mc ms post exc cells slots pc lv st ws := by
  subst hn
  exact fun ls H locs h hP hD hS => lv_sipush C.1 C.2.1 d hv (kk ls H locs h hP hD hS)
theorem z_lconst (C : Cx κ cc nL Ts own ret rm0 G base) {n : Fin 2} {v : Int64} (hv : Int64.ofNat (n : Nat) = v) (d : decode cc pc = .ok (.lconst n, 1)) (hn : pc + 1 = pc') (kk : Z κ nL G base mc ms post exc cells slots pc' lv (.long v :: st) ws) : Z κ nL G base mc ms post exc cells slots pc lv st ws := by
  subst hn
  exact fun ls H locs h hP hD hS => lv_lconst C.1 C.2.1 d hv (kk ls H locs h hP hD hS)
theorem z_null (C : Cx κ cc nL Ts own ret rm0 G base)  (d : decode cc pc = .ok (.aconst_null, 1)) (hn : pc + 1 = pc') (kk : Z κ nL G base mc ms post exc cells slots pc' lv (.null :: st) ws) : Z κ nL G base mc ms post exc cells slots pc lv st ws := by
  subst hn
  exact fun ls H locs h hP hD hS => lv_null C.1 C.2.1 d (kk ls H locs h hP hD hS)
theorem z_iload_n (C : Cx κ cc nL Ts own ret rm0 G base) {k : Fin 4} {i : Nat} {x : Int32} (j : Nat) (hi : (k : Nat) = i) (hl : lv[j]? = some (i, .int x)) (d : decode cc pc = .ok (.iload_n k, 1)) (hn : pc + 1 = pc') (kk : Z κ nL G base mc ms post exc cells slots pc' lv (.int x :: st) ws) : Z κ nL G base mc ms post exc cells slots pc lv st ws := by
  subst hn
  exact fun ls H locs h hP hD hS => lv_iload_n C.1 C.2.1 d hi (lv_at h j hl) (kk ls H locs h hP hD hS)
theorem z_iload (C : Cx κ cc nL Ts own ret rm0 G base) {i : Nat} {x : Int32} (j : Nat) (hl : lv[j]? = some (i, .int x)) (d : decode cc pc = .ok (.iload i, 2)) (hn : pc + 2 = pc') (kk : Z κ nL G base mc ms post exc cells slots pc' lv (.int x :: st) ws) : Z κ nL G base mc ms post exc cells slots pc lv st ws := by
  subst hn
  exact fun ls H locs h hP hD hS => lv_iload C.1 C.2.1 d (lv_at h j hl) (kk ls H locs h hP hD hS)
theorem z_aload_n (C : Cx κ cc nL Ts own ret rm0 G base) {k : Fin 4} {i : Nat} {x : Nat} (j : Nat) (hi : (k : Nat) = i) (hl : lv[j]? = some (i, .ref x)) (d : decode cc pc = .ok (.aload_n k, 1)) (hn : pc + 1 = pc') (kk : Z κ nL G base mc ms post exc cells slots pc' lv (.ref x :: st) ws) : Z κ nL G base mc ms post exc cells slots pc lv st ws := by
  subst hn
  exact fun ls H locs h hP hD hS => lv_aload_n C.1 C.2.1 d hi (lv_at h j hl) (kk ls H locs h hP hD hS)
theorem z_aload (C : Cx κ cc nL Ts own ret rm0 G base) {i : Nat} {x : Nat} (j : Nat) (hl : lv[j]? = some (i, .ref x)) (d : decode cc pc = .ok (.aload i, 2)) (hn : pc + 2 = pc') (kk : Z κ nL G base mc ms post exc cells slots pc' lv (.ref x :: st) ws) : Z κ nL G base mc ms post exc cells slots pc lv st ws := by
  subst hn
  exact fun ls H locs h hP hD hS => lv_aload C.1 C.2.1 d (lv_at h j hl) (kk ls H locs h hP hD hS)
theorem z_lload_n (C : Cx κ cc nL Ts own ret rm0 G base) {k : Fin 4} {i : Nat} {x : Int64} (j : Nat) (hi : (k : Nat) = i) (hl : lv[j]? = some (i, .long x)) (d : decode cc pc = .ok (.lload_n k, 1)) (hn : pc + 1 = pc') (kk : Z κ nL G base mc ms post exc cells slots pc' lv (.long x :: st) ws) : Z κ nL G base mc ms post exc cells slots pc lv st ws := by
  subst hn
  exact fun ls H locs h hP hD hS => lv_lload_n C.1 C.2.1 d hi (lv_at h j hl) (kk ls H locs h hP hD hS)
theorem z_lload (C : Cx κ cc nL Ts own ret rm0 G base) {i : Nat} {x : Int64} (j : Nat) (hl : lv[j]? = some (i, .long x)) (d : decode cc pc = .ok (.lload i, 2)) (hn : pc + 2 = pc') (kk : Z κ nL G base mc ms post exc cells slots pc' lv (.long x :: st) ws) : Z κ nL G base mc ms post exc cells slots pc lv st ws := by
  subst hn
  exact fun ls H locs h hP hD hS => lv_lload C.1 C.2.1 d (lv_at h j hl) (kk ls H locs h hP hD hS)
theorem z_aload_nN (C : Cx κ cc nL Ts own ret rm0 G base) {k : Fin 4} {i : Nat} (j : Nat) (hi : (k : Nat) = i) (hl : lv[j]? = some (i, .null)) (d : decode cc pc = .ok (.aload_n k, 1)) (hn : pc + 1 = pc') (kk : Z κ nL G base mc ms post exc cells slots pc' lv (.null :: st) ws) : Z κ nL G base mc ms post exc cells slots pc lv st ws := by
  subst hn
  exact fun ls H locs h hP hD hS => lv_aload_nN C.1 C.2.1 d hi (lv_at h j hl) (kk ls H locs h hP hD hS)
theorem z_aloadN (C : Cx κ cc nL Ts own ret rm0 G base) {i : Nat} (j : Nat) (hl : lv[j]? = some (i, .null)) (d : decode cc pc = .ok (.aload i, 2)) (hn : pc + 2 = pc') (kk : Z κ nL G base mc ms post exc cells slots pc' lv (.null :: st) ws) : Z κ nL G base mc ms post exc cells slots pc lv st ws := by
  subst hn
  exact fun ls H locs h hP hD hS => lv_aloadN C.1 C.2.1 d (lv_at h j hl) (kk ls H locs h hP hD hS)
theorem z_istore_n (C : Cx κ cc nL Ts own ret rm0 G base) {k : Fin 4} {i : Nat} {x : Int32} (hi : (k : Nat) = i) {lv' : List (Nat × Value)} (d : decode cc pc = .ok (.istore_n k, 1)) (hn : pc + 1 = pc') (hb : i < nL) (hl : (i, Value.int x) :: lv.filter (fun q => !(q.1 == i) && !(q.1 + 1 == i && q.2.category == 2)) = lv') (kk : Z κ nL G base mc ms post exc cells slots pc' lv' st ws) : Z κ nL G base mc ms post exc cells slots pc lv (.int x :: st) ws := by
  subst hn
  exact fun ls H locs h hP hD hS => lv_istore_n C.1 C.2.1 d hi h hb hl (fun ls' h' => kk ls' H locs h' hP hD hS)
theorem z_istore (C : Cx κ cc nL Ts own ret rm0 G base) {i : Nat} {x : Int32} {lv' : List (Nat × Value)} (d : decode cc pc = .ok (.istore i, 2)) (hn : pc + 2 = pc') (hb : i < nL) (hl : (i, Value.int x) :: lv.filter (fun q => !(q.1 == i) && !(q.1 + 1 == i && q.2.category == 2)) = lv') (kk : Z κ nL G base mc ms post exc cells slots pc' lv' st ws) : Z κ nL G base mc ms post exc cells slots pc lv (.int x :: st) ws := by
  subst hn
  exact fun ls H locs h hP hD hS => lv_istore C.1 C.2.1 d h hb hl (fun ls' h' => kk ls' H locs h' hP hD hS)
theorem z_astore_n (C : Cx κ cc nL Ts own ret rm0 G base) {k : Fin 4} {i : Nat} {x : Nat} (hi : (k : Nat) = i) {lv' : List (Nat × Value)} (d : decode cc pc = .ok (.astore_n k, 1)) (hn : pc + 1 = pc') (hb : i < nL) (hl : (i, Value.ref x) :: lv.filter (fun q => !(q.1 == i) && !(q.1 + 1 == i && q.2.category == 2)) = lv') (kk : Z κ nL G base mc ms post exc cells slots pc' lv' st ws) : Z κ nL G base mc ms post exc cells slots pc lv (.ref x :: st) ws := by
  subst hn
  exact fun ls H locs h hP hD hS => lv_astore_n C.1 C.2.1 d hi h hb hl (fun ls' h' => kk ls' H locs h' hP hD hS)
theorem z_astore (C : Cx κ cc nL Ts own ret rm0 G base) {i : Nat} {x : Nat} {lv' : List (Nat × Value)} (d : decode cc pc = .ok (.astore i, 2)) (hn : pc + 2 = pc') (hb : i < nL) (hl : (i, Value.ref x) :: lv.filter (fun q => !(q.1 == i) && !(q.1 + 1 == i && q.2.category == 2)) = lv') (kk : Z κ nL G base mc ms post exc cells slots pc' lv' st ws) : Z κ nL G base mc ms post exc cells slots pc lv (.ref x :: st) ws := by
  subst hn
  exact fun ls H locs h hP hD hS => lv_astore C.1 C.2.1 d h hb hl (fun ls' h' => kk ls' H locs h' hP hD hS)
theorem z_lstore_n (C : Cx κ cc nL Ts own ret rm0 G base) {k : Fin 4} {i : Nat} {x : Int64} (hi : (k : Nat) = i) {lv' : List (Nat × Value)} (d : decode cc pc = .ok (.lstore_n k, 1)) (hn : pc + 1 = pc') (hb : i + 1 < nL) (hl : (i, Value.long x) :: lv.filter (fun q => !(q.1 == i) && (!(q.1 == i + 1) && !(q.1 + 1 == i && q.2.category == 2))) = lv') (kk : Z κ nL G base mc ms post exc cells slots pc' lv' st ws) : Z κ nL G base mc ms post exc cells slots pc lv (.long x :: st) ws := by
  subst hn
  exact fun ls H locs h hP hD hS => lv_lstore_n C.1 C.2.1 d hi h hb hl (fun ls' h' => kk ls' H locs h' hP hD hS)
theorem z_lstore (C : Cx κ cc nL Ts own ret rm0 G base) {i : Nat} {x : Int64} {lv' : List (Nat × Value)} (d : decode cc pc = .ok (.lstore i, 2)) (hn : pc + 2 = pc') (hb : i + 1 < nL) (hl : (i, Value.long x) :: lv.filter (fun q => !(q.1 == i) && (!(q.1 == i + 1) && !(q.1 + 1 == i && q.2.category == 2))) = lv') (kk : Z κ nL G base mc ms post exc cells slots pc' lv' st ws) : Z κ nL G base mc ms post exc cells slots pc lv (.long x :: st) ws := by
  subst hn
  exact fun ls H locs h hP hD hS => lv_lstore C.1 C.2.1 d h hb hl (fun ls' h' => kk ls' H locs h' hP hD hS)
theorem z_astore_nN (C : Cx κ cc nL Ts own ret rm0 G base) {k : Fin 4} {i : Nat} (hi : (k : Nat) = i) {lv' : List (Nat × Value)} (d : decode cc pc = .ok (.astore_n k, 1)) (hn : pc + 1 = pc') (hb : i < nL) (hl : (i, Value.null) :: lv.filter (fun q => !(q.1 == i) && !(q.1 + 1 == i && q.2.category == 2)) = lv') (kk : Z κ nL G base mc ms post exc cells slots pc' lv' st ws) : Z κ nL G base mc ms post exc cells slots pc lv (.null :: st) ws := by
  subst hn
  exact fun ls H locs h hP hD hS => lv_astore_nN C.1 C.2.1 d hi h hb hl (fun ls' h' => kk ls' H locs h' hP hD hS)
theorem z_astoreN (C : Cx κ cc nL Ts own ret rm0 G base) {i : Nat} {lv' : List (Nat × Value)} (d : decode cc pc = .ok (.astore i, 2)) (hn : pc + 2 = pc') (hb : i < nL) (hl : (i, Value.null) :: lv.filter (fun q => !(q.1 == i) && !(q.1 + 1 == i && q.2.category == 2)) = lv') (kk : Z κ nL G base mc ms post exc cells slots pc' lv' st ws) : Z κ nL G base mc ms post exc cells slots pc lv (.null :: st) ws := by
  subst hn
  exact fun ls H locs h hP hD hS => lv_astoreN C.1 C.2.1 d h hb hl (fun ls' h' => kk ls' H locs h' hP hD hS)
theorem z_iinc (C : Cx κ cc nL Ts own ret rm0 G base) {i : Nat} {n a c : Int} {lv' : List (Nat × Value)} (k : Nat) (d : decode cc pc = .ok (.iinc i n, 3)) (hn : pc + 3 = pc') (hk : lv[k]? = some (i, .int (iI a))) (hc : a + n = c) (hb : i < nL) (hl : (i, Value.int (iI c)) :: lv.filter (fun q => !(q.1 == i) && !(q.1 + 1 == i && q.2.category == 2)) = lv') (kk : Z κ nL G base mc ms post exc cells slots pc' lv' st ws) : Z κ nL G base mc ms post exc cells slots pc lv st ws := by
  subst hn
  exact fun ls H locs h hP hD hS => lv_iinc C.1 C.2.1 d h hk (by rw [← hc]; exact iI_add a n) hb hl (fun ls' h' => kk ls' H locs h' hP hD hS)
theorem z_iadd (C : Cx κ cc nL Ts own ret rm0 G base) {a b c : Int} (d : decode cc pc = .ok (.iadd, 1)) (hn : pc + 1 = pc') (hc : a + b = c) (kk : Z κ nL G base mc ms post exc cells slots pc' lv (.int (iI c) :: st) ws) : Z κ nL G base mc ms post exc cells slots pc lv (.int (iI b) :: .int (iI a) :: st) ws := by
  subst hn
  subst hc
  exact fun ls H locs h hP hD hS => lv_iadd C.1 C.2.1 d (by rw [iI_add]; exact kk ls H locs h hP hD hS)
theorem z_isub (C : Cx κ cc nL Ts own ret rm0 G base) {a b c : Int} (d : decode cc pc = .ok (.isub, 1)) (hn : pc + 1 = pc') (hc : a - b = c) (kk : Z κ nL G base mc ms post exc cells slots pc' lv (.int (iI c) :: st) ws) : Z κ nL G base mc ms post exc cells slots pc lv (.int (iI b) :: .int (iI a) :: st) ws := by
  subst hn
  subst hc
  exact fun ls H locs h hP hD hS => lv_isub C.1 C.2.1 d (by rw [iI_sub]; exact kk ls H locs h hP hD hS)
theorem z_imul (C : Cx κ cc nL Ts own ret rm0 G base) {a b c : Int} (d : decode cc pc = .ok (.imul, 1)) (hn : pc + 1 = pc') (hc : a * b = c) (kk : Z κ nL G base mc ms post exc cells slots pc' lv (.int (iI c) :: st) ws) : Z κ nL G base mc ms post exc cells slots pc lv (.int (iI b) :: .int (iI a) :: st) ws := by
  subst hn
  subst hc
  exact fun ls H locs h hP hD hS => lv_imul C.1 C.2.1 d (by rw [iI_mul]; exact kk ls H locs h hP hD hS)
theorem z_idiv (C : Cx κ cc nL Ts own ret rm0 G base) {x y : Int32} (hy : ¬ y = 0) (d : decode cc pc = .ok (.idiv, 1)) (hn : pc + 1 = pc') (kk : Z κ nL G base mc ms post exc cells slots pc' lv (.int (x / y) :: st) ws) : Z κ nL G base mc ms post exc cells slots pc lv (.int y :: .int x :: st) ws := by
  subst hn
  exact fun ls H locs h hP hD hS => lv_idiv C.1 C.2.1 d hy (kk ls H locs h hP hD hS)
theorem z_ishr (C : Cx κ cc nL Ts own ret rm0 G base) {x y : Int32} (d : decode cc pc = .ok (.ishr, 1)) (hn : pc + 1 = pc') (kk : Z κ nL G base mc ms post exc cells slots pc' lv (.int (x >>> (y &&& 31)) :: st) ws) : Z κ nL G base mc ms post exc cells slots pc lv (.int y :: .int x :: st) ws := by
  subst hn
  exact fun ls H locs h hP hD hS => lv_ishr C.1 C.2.1 d (kk ls H locs h hP hD hS)
theorem z_iand (C : Cx κ cc nL Ts own ret rm0 G base) {x y : Int32} (d : decode cc pc = .ok (.iand, 1)) (hn : pc + 1 = pc') (kk : Z κ nL G base mc ms post exc cells slots pc' lv (.int (x &&& y) :: st) ws) : Z κ nL G base mc ms post exc cells slots pc lv (.int y :: .int x :: st) ws := by
  subst hn
  exact fun ls H locs h hP hD hS => lv_iand C.1 C.2.1 d (kk ls H locs h hP hD hS)
theorem z_topi {x y : Int32} (h : x = y) (kk : Z κ nL G base mc ms post exc cells slots pc lv (.int y :: st) ws) : Z κ nL G base mc ms post exc cells slots pc lv (.int x :: st) ws := by subst h; exact kk
theorem z_topl {x y : Int64} (h : x = y) (kk : Z κ nL G base mc ms post exc cells slots pc lv (.long y :: st) ws) : Z κ nL G base mc ms post exc cells slots pc lv (.long x :: st) ws := by subst h; exact kk
theorem z_ladd (C : Cx κ cc nL Ts own ret rm0 G base) {x y : Int64} (d : decode cc pc = .ok (.ladd, 1)) (hn : pc + 1 = pc') (kk : Z κ nL G base mc ms post exc cells slots pc' lv (.long (x + y) :: st) ws) : Z κ nL G base mc ms post exc cells slots pc lv (.long y :: .long x :: st) ws := by
  subst hn
  exact fun ls H locs h hP hD hS => lv_ladd C.1 C.2.1 d (kk ls H locs h hP hD hS)
theorem z_lsub (C : Cx κ cc nL Ts own ret rm0 G base) {x y : Int64} (d : decode cc pc = .ok (.lsub, 1)) (hn : pc + 1 = pc') (kk : Z κ nL G base mc ms post exc cells slots pc' lv (.long (x - y) :: st) ws) : Z κ nL G base mc ms post exc cells slots pc lv (.long y :: .long x :: st) ws := by
  subst hn
  exact fun ls H locs h hP hD hS => lv_lsub C.1 C.2.1 d (kk ls H locs h hP hD hS)
theorem z_land (C : Cx κ cc nL Ts own ret rm0 G base) {x y : Int64} (d : decode cc pc = .ok (.land, 1)) (hn : pc + 1 = pc') (kk : Z κ nL G base mc ms post exc cells slots pc' lv (.long (x &&& y) :: st) ws) : Z κ nL G base mc ms post exc cells slots pc lv (.long y :: .long x :: st) ws := by
  subst hn
  exact fun ls H locs h hP hD hS => lv_land C.1 C.2.1 d (kk ls H locs h hP hD hS)
theorem z_lor (C : Cx κ cc nL Ts own ret rm0 G base) {x y : Int64} (d : decode cc pc = .ok (.lor, 1)) (hn : pc + 1 = pc') (kk : Z κ nL G base mc ms post exc cells slots pc' lv (.long (x ||| y) :: st) ws) : Z κ nL G base mc ms post exc cells slots pc lv (.long y :: .long x :: st) ws := by
  subst hn
  exact fun ls H locs h hP hD hS => lv_lor C.1 C.2.1 d (kk ls H locs h hP hD hS)
theorem z_lxor (C : Cx κ cc nL Ts own ret rm0 G base) {x y : Int64} (d : decode cc pc = .ok (.lxor, 1)) (hn : pc + 1 = pc') (kk : Z κ nL G base mc ms post exc cells slots pc' lv (.long (x ^^^ y) :: st) ws) : Z κ nL G base mc ms post exc cells slots pc lv (.long y :: .long x :: st) ws := by
  subst hn
  exact fun ls H locs h hP hD hS => lv_lxor C.1 C.2.1 d (kk ls H locs h hP hD hS)
theorem z_lshl (C : Cx κ cc nL Ts own ret rm0 G base) {x v : Int64} {y : Int32} (hv : x <<< (y.toInt64 &&& 63) = v) (d : decode cc pc = .ok (.lshl, 1)) (hn : pc + 1 = pc') (kk : Z κ nL G base mc ms post exc cells slots pc' lv (.long v :: st) ws) : Z κ nL G base mc ms post exc cells slots pc lv (.int y :: .long x :: st) ws := by
  subst hn
  exact fun ls H locs h hP hD hS => lv_lshl C.1 C.2.1 d hv (kk ls H locs h hP hD hS)
theorem z_lushr (C : Cx κ cc nL Ts own ret rm0 G base) {x v : Int64} {y : Int32} (hv : (x.toUInt64 >>> (y.toInt64.toUInt64 &&& Int64.toUInt64 63)).toInt64 = v) (d : decode cc pc = .ok (.lushr, 1)) (hn : pc + 1 = pc') (kk : Z κ nL G base mc ms post exc cells slots pc' lv (.long v :: st) ws) : Z κ nL G base mc ms post exc cells slots pc lv (.int y :: .long x :: st) ws := by
  subst hn
  exact fun ls H locs h hP hD hS => lv_lushr C.1 C.2.1 d hv (kk ls H locs h hP hD hS)
theorem z_l2i (C : Cx κ cc nL Ts own ret rm0 G base) {x : Int64} {v : Int32} (hv : x.toInt32 = v) (d : decode cc pc = .ok (.l2i, 1)) (hn : pc + 1 = pc') (kk : Z κ nL G base mc ms post exc cells slots pc' lv (.int v :: st) ws) : Z κ nL G base mc ms post exc cells slots pc lv (.long x :: st) ws := by
  subst hn
  exact fun ls H locs h hP hD hS => lv_l2i C.1 C.2.1 d hv (kk ls H locs h hP hD hS)
theorem z_i2l (C : Cx κ cc nL Ts own ret rm0 G base) {x : Int32} {v : Int64} (hv : x.toInt64 = v) (d : decode cc pc = .ok (.i2l, 1)) (hn : pc + 1 = pc') (kk : Z κ nL G base mc ms post exc cells slots pc' lv (.long v :: st) ws) : Z κ nL G base mc ms post exc cells slots pc lv (.int x :: st) ws := by
  subst hn
  exact fun ls H locs h hP hD hS => lv_i2l C.1 C.2.1 d hv (kk ls H locs h hP hD hS)
theorem z_dup (C : Cx κ cc nL Ts own ret rm0 G base) {v : Value} (hv : v.category = 1) (d : decode cc pc = .ok (.dup, 1)) (hn : pc + 1 = pc') (kk : Z κ nL G base mc ms post exc cells slots pc' lv (v :: v :: st) ws) : Z κ nL G base mc ms post exc cells slots pc lv (v :: st) ws := by
  subst hn
  exact fun ls H locs h hP hD hS => lv_dup C.1 C.2.1 d hv (kk ls H locs h hP hD hS)
theorem z_dup_x1 (C : Cx κ cc nL Ts own ret rm0 G base) {v w : Value} (hv : v.category = 1) (hw : w.category = 1) (d : decode cc pc = .ok (.dup_x1, 1)) (hn : pc + 1 = pc') (kk : Z κ nL G base mc ms post exc cells slots pc' lv (v :: w :: v :: st) ws) : Z κ nL G base mc ms post exc cells slots pc lv (v :: w :: st) ws := by
  subst hn
  exact fun ls H locs h hP hD hS => lv_dup_x1 C.1 C.2.1 d hv hw (kk ls H locs h hP hD hS)
theorem z_dup2 (C : Cx κ cc nL Ts own ret rm0 G base) {v w : Value} (hv : v.category = 1) (hw : w.category = 1) (d : decode cc pc = .ok (.dup2, 1)) (hn : pc + 1 = pc') (kk : Z κ nL G base mc ms post exc cells slots pc' lv (v :: w :: v :: w :: st) ws) : Z κ nL G base mc ms post exc cells slots pc lv (v :: w :: st) ws := by
  subst hn
  exact fun ls H locs h hP hD hS => lv_dup2_11 C.1 C.2.1 d hv hw (kk ls H locs h hP hD hS)
theorem z_pop (C : Cx κ cc nL Ts own ret rm0 G base) {v : Value} (hv : v.category = 1) (d : decode cc pc = .ok (.pop, 1)) (hn : pc + 1 = pc') (kk : Z κ nL G base mc ms post exc cells slots pc' lv st ws) : Z κ nL G base mc ms post exc cells slots pc lv (v :: st) ws := by
  subst hn
  exact fun ls H locs h hP hD hS => lv_pop C.1 C.2.1 d hv (kk ls H locs h hP hD hS)
theorem z_ldc (C : Cx κ cc nL Ts own ret rm0 G base) {i : Nat} {v : Int32} (hc : (Cond.constant own i v).before (ka κ) (ks κ) = true) (d : decode cc pc = .ok (.ldc i, 2)) (hn : pc + 2 = pc') (kk : Z κ nL G base mc ms post exc cells slots pc' lv (.int v :: st) ws) : Z κ nL G base mc ms post exc cells slots pc lv st ws := by
  subst hn
  exact fun ls H locs h hP hD hS => lv_ldc C.1 C.2.1 C.2.2.2.1 hc d (kk ls H locs h hP hD hS)
theorem z_ldc2 (C : Cx κ cc nL Ts own ret rm0 G base) {i : Nat} {v : Int64} (hc : (Cond.constantLong own i v).before (ka κ) (ks κ) = true) (d : decode cc pc = .ok (.ldc2_w i, 3)) (hn : pc + 3 = pc') (kk : Z κ nL G base mc ms post exc cells slots pc' lv (.long v :: st) ws) : Z κ nL G base mc ms post exc cells slots pc lv st ws := by
  subst hn
  exact fun ls H locs h hP hD hS => lv_ldc2 C.1 C.2.1 C.2.2.2.1 hc d (kk ls H locs h hP hD hS)
theorem z_goto (C : Cx κ cc nL Ts own ret rm0 G base) {off : Int} (d : decode cc pc = .ok (.goto off, 3)) (ht : (pc : Int) + off = (pc' : Int)) (kk : Z κ nL G base mc ms post exc cells slots pc' lv st ws) : Z κ nL G base mc ms post exc cells slots pc lv st ws := by
  exact fun ls H locs h hP hD hS => lv_goto C.1 C.2.1 d ht (kk ls H locs h hP hD hS)
theorem z_icmp_eq (C : Cx κ cc nL Ts own ret rm0 G base) {x y : Int32} {off : Int} {pt : Nat} {A B : Prop} (d : decode cc pc = .ok (.if_icmp .eq off, 3)) (ht : (pc : Int) + off = (pt : Int)) (hn : pc + 3 = pc') (ha : (x = y) → A) (hb : (¬ x = y) → B) (k1 : A → Z κ nL G base mc ms post exc cells slots pt lv st ws) (k2 : B → Z κ nL G base mc ms post exc cells slots pc' lv st ws) : Z κ nL G base mc ms post exc cells slots pc lv (.int y :: .int x :: st) ws := by
  subst hn
  exact fun ls H locs h hP hD hS => lv_icmp_eq C.1 C.2.1 d ht (fun q => k1 (ha q) ls H locs h hP hD hS) (fun q => k2 (hb q) ls H locs h hP hD hS)
theorem z_if_eq (C : Cx κ cc nL Ts own ret rm0 G base) {x : Int32} {off : Int} {pt : Nat} {A B : Prop} (d : decode cc pc = .ok (.ifCond .eq off, 3)) (ht : (pc : Int) + off = (pt : Int)) (hn : pc + 3 = pc') (ha : (x = 0) → A) (hb : (¬ x = 0) → B) (k1 : A → Z κ nL G base mc ms post exc cells slots pt lv st ws) (k2 : B → Z κ nL G base mc ms post exc cells slots pc' lv st ws) : Z κ nL G base mc ms post exc cells slots pc lv (.int x :: st) ws := by
  subst hn
  exact fun ls H locs h hP hD hS => lv_if_eq C.1 C.2.1 d ht (fun q => k1 (ha q) ls H locs h hP hD hS) (fun q => k2 (hb q) ls H locs h hP hD hS)
theorem z_icmp_ne (C : Cx κ cc nL Ts own ret rm0 G base) {x y : Int32} {off : Int} {pt : Nat} {A B : Prop} (d : decode cc pc = .ok (.if_icmp .ne off, 3)) (ht : (pc : Int) + off = (pt : Int)) (hn : pc + 3 = pc') (ha : (¬ x = y) → A) (hb : (x = y) → B) (k1 : A → Z κ nL G base mc ms post exc cells slots pt lv st ws) (k2 : B → Z κ nL G base mc ms post exc cells slots pc' lv st ws) : Z κ nL G base mc ms post exc cells slots pc lv (.int y :: .int x :: st) ws := by
  subst hn
  exact fun ls H locs h hP hD hS => lv_icmp_ne C.1 C.2.1 d ht (fun q => k1 (ha q) ls H locs h hP hD hS) (fun q => k2 (hb q) ls H locs h hP hD hS)
theorem z_if_ne (C : Cx κ cc nL Ts own ret rm0 G base) {x : Int32} {off : Int} {pt : Nat} {A B : Prop} (d : decode cc pc = .ok (.ifCond .ne off, 3)) (ht : (pc : Int) + off = (pt : Int)) (hn : pc + 3 = pc') (ha : (¬ x = 0) → A) (hb : (x = 0) → B) (k1 : A → Z κ nL G base mc ms post exc cells slots pt lv st ws) (k2 : B → Z κ nL G base mc ms post exc cells slots pc' lv st ws) : Z κ nL G base mc ms post exc cells slots pc lv (.int x :: st) ws := by
  subst hn
  exact fun ls H locs h hP hD hS => lv_if_ne C.1 C.2.1 d ht (fun q => k1 (ha q) ls H locs h hP hD hS) (fun q => k2 (hb q) ls H locs h hP hD hS)
theorem z_icmp_lt (C : Cx κ cc nL Ts own ret rm0 G base) {x y : Int32} {off : Int} {pt : Nat} {A B : Prop} (d : decode cc pc = .ok (.if_icmp .lt off, 3)) (ht : (pc : Int) + off = (pt : Int)) (hn : pc + 3 = pc') (ha : (x < y) → A) (hb : (¬ x < y) → B) (k1 : A → Z κ nL G base mc ms post exc cells slots pt lv st ws) (k2 : B → Z κ nL G base mc ms post exc cells slots pc' lv st ws) : Z κ nL G base mc ms post exc cells slots pc lv (.int y :: .int x :: st) ws := by
  subst hn
  exact fun ls H locs h hP hD hS => lv_icmp_lt C.1 C.2.1 d ht (fun q => k1 (ha q) ls H locs h hP hD hS) (fun q => k2 (hb q) ls H locs h hP hD hS)
theorem z_if_lt (C : Cx κ cc nL Ts own ret rm0 G base) {x : Int32} {off : Int} {pt : Nat} {A B : Prop} (d : decode cc pc = .ok (.ifCond .lt off, 3)) (ht : (pc : Int) + off = (pt : Int)) (hn : pc + 3 = pc') (ha : (x < 0) → A) (hb : (¬ x < 0) → B) (k1 : A → Z κ nL G base mc ms post exc cells slots pt lv st ws) (k2 : B → Z κ nL G base mc ms post exc cells slots pc' lv st ws) : Z κ nL G base mc ms post exc cells slots pc lv (.int x :: st) ws := by
  subst hn
  exact fun ls H locs h hP hD hS => lv_if_lt C.1 C.2.1 d ht (fun q => k1 (ha q) ls H locs h hP hD hS) (fun q => k2 (hb q) ls H locs h hP hD hS)
theorem z_icmp_ge (C : Cx κ cc nL Ts own ret rm0 G base) {x y : Int32} {off : Int} {pt : Nat} {A B : Prop} (d : decode cc pc = .ok (.if_icmp .ge off, 3)) (ht : (pc : Int) + off = (pt : Int)) (hn : pc + 3 = pc') (ha : (y ≤ x) → A) (hb : (¬ y ≤ x) → B) (k1 : A → Z κ nL G base mc ms post exc cells slots pt lv st ws) (k2 : B → Z κ nL G base mc ms post exc cells slots pc' lv st ws) : Z κ nL G base mc ms post exc cells slots pc lv (.int y :: .int x :: st) ws := by
  subst hn
  exact fun ls H locs h hP hD hS => lv_icmp_ge C.1 C.2.1 d ht (fun q => k1 (ha q) ls H locs h hP hD hS) (fun q => k2 (hb q) ls H locs h hP hD hS)
theorem z_if_ge (C : Cx κ cc nL Ts own ret rm0 G base) {x : Int32} {off : Int} {pt : Nat} {A B : Prop} (d : decode cc pc = .ok (.ifCond .ge off, 3)) (ht : (pc : Int) + off = (pt : Int)) (hn : pc + 3 = pc') (ha : (0 ≤ x) → A) (hb : (¬ 0 ≤ x) → B) (k1 : A → Z κ nL G base mc ms post exc cells slots pt lv st ws) (k2 : B → Z κ nL G base mc ms post exc cells slots pc' lv st ws) : Z κ nL G base mc ms post exc cells slots pc lv (.int x :: st) ws := by
  subst hn
  exact fun ls H locs h hP hD hS => lv_if_ge C.1 C.2.1 d ht (fun q => k1 (ha q) ls H locs h hP hD hS) (fun q => k2 (hb q) ls H locs h hP hD hS)
theorem z_icmp_gt (C : Cx κ cc nL Ts own ret rm0 G base) {x y : Int32} {off : Int} {pt : Nat} {A B : Prop} (d : decode cc pc = .ok (.if_icmp .gt off, 3)) (ht : (pc : Int) + off = (pt : Int)) (hn : pc + 3 = pc') (ha : (y < x) → A) (hb : (¬ y < x) → B) (k1 : A → Z κ nL G base mc ms post exc cells slots pt lv st ws) (k2 : B → Z κ nL G base mc ms post exc cells slots pc' lv st ws) : Z κ nL G base mc ms post exc cells slots pc lv (.int y :: .int x :: st) ws := by
  subst hn
  exact fun ls H locs h hP hD hS => lv_icmp_gt C.1 C.2.1 d ht (fun q => k1 (ha q) ls H locs h hP hD hS) (fun q => k2 (hb q) ls H locs h hP hD hS)
theorem z_if_gt (C : Cx κ cc nL Ts own ret rm0 G base) {x : Int32} {off : Int} {pt : Nat} {A B : Prop} (d : decode cc pc = .ok (.ifCond .gt off, 3)) (ht : (pc : Int) + off = (pt : Int)) (hn : pc + 3 = pc') (ha : (0 < x) → A) (hb : (¬ 0 < x) → B) (k1 : A → Z κ nL G base mc ms post exc cells slots pt lv st ws) (k2 : B → Z κ nL G base mc ms post exc cells slots pc' lv st ws) : Z κ nL G base mc ms post exc cells slots pc lv (.int x :: st) ws := by
  subst hn
  exact fun ls H locs h hP hD hS => lv_if_gt C.1 C.2.1 d ht (fun q => k1 (ha q) ls H locs h hP hD hS) (fun q => k2 (hb q) ls H locs h hP hD hS)
theorem z_icmp_le (C : Cx κ cc nL Ts own ret rm0 G base) {x y : Int32} {off : Int} {pt : Nat} {A B : Prop} (d : decode cc pc = .ok (.if_icmp .le off, 3)) (ht : (pc : Int) + off = (pt : Int)) (hn : pc + 3 = pc') (ha : (x ≤ y) → A) (hb : (¬ x ≤ y) → B) (k1 : A → Z κ nL G base mc ms post exc cells slots pt lv st ws) (k2 : B → Z κ nL G base mc ms post exc cells slots pc' lv st ws) : Z κ nL G base mc ms post exc cells slots pc lv (.int y :: .int x :: st) ws := by
  subst hn
  exact fun ls H locs h hP hD hS => lv_icmp_le C.1 C.2.1 d ht (fun q => k1 (ha q) ls H locs h hP hD hS) (fun q => k2 (hb q) ls H locs h hP hD hS)
theorem z_if_le (C : Cx κ cc nL Ts own ret rm0 G base) {x : Int32} {off : Int} {pt : Nat} {A B : Prop} (d : decode cc pc = .ok (.ifCond .le off, 3)) (ht : (pc : Int) + off = (pt : Int)) (hn : pc + 3 = pc') (ha : (x ≤ 0) → A) (hb : (¬ x ≤ 0) → B) (k1 : A → Z κ nL G base mc ms post exc cells slots pt lv st ws) (k2 : B → Z κ nL G base mc ms post exc cells slots pc' lv st ws) : Z κ nL G base mc ms post exc cells slots pc lv (.int x :: st) ws := by
  subst hn
  exact fun ls H locs h hP hD hS => lv_if_le C.1 C.2.1 d ht (fun q => k1 (ha q) ls H locs h hP hD hS) (fun q => k2 (hb q) ls H locs h hP hD hS)
theorem z_ifnull (C : Cx κ cc nL Ts own ret rm0 G base) {x : Nat} {off : Int} (d : decode cc pc = .ok (.ifnull off, 3)) (hn : pc + 3 = pc') (kk : Z κ nL G base mc ms post exc cells slots pc' lv st ws) : Z κ nL G base mc ms post exc cells slots pc lv (.ref x :: st) ws := by
  subst hn
  exact fun ls H locs h hP hD hS => lv_ifnull C.1 C.2.1 d (kk ls H locs h hP hD hS)
theorem z_ifnullN (C : Cx κ cc nL Ts own ret rm0 G base) {off : Int} (d : decode cc pc = .ok (.ifnull off, 3)) (ht : (pc : Int) + off = (pc' : Int)) (kk : Z κ nL G base mc ms post exc cells slots pc' lv st ws) : Z κ nL G base mc ms post exc cells slots pc lv (.null :: st) ws := by
  exact fun ls H locs h hP hD hS => lv_ifnullN C.1 C.2.1 d ht (kk ls H locs h hP hD hS)
theorem z_ifnonnull (C : Cx κ cc nL Ts own ret rm0 G base) {x : Nat} {off : Int} (d : decode cc pc = .ok (.ifnonnull off, 3)) (ht : (pc : Int) + off = (pc' : Int)) (kk : Z κ nL G base mc ms post exc cells slots pc' lv st ws) : Z κ nL G base mc ms post exc cells slots pc lv (.ref x :: st) ws := by
  exact fun ls H locs h hP hD hS => lv_ifnonnull C.1 C.2.1 d ht (kk ls H locs h hP hD hS)
theorem z_ifnonnullN (C : Cx κ cc nL Ts own ret rm0 G base) {off : Int} (d : decode cc pc = .ok (.ifnonnull off, 3)) (hn : pc + 3 = pc') (kk : Z κ nL G base mc ms post exc cells slots pc' lv st ws) : Z κ nL G base mc ms post exc cells slots pc lv (.null :: st) ws := by
  subst hn
  exact fun ls H locs h hP hD hS => lv_ifnonnullN C.1 C.2.1 d (kk ls H locs h hP hD hS)
theorem z_acmp_eq (C : Cx κ cc nL Ts own ret rm0 G base) {off : Int} {pt : Nat} (x y : Option Nat) (d : decode cc pc = .ok (.if_acmp .eq off, 3)) (ht : (pc : Int) + off = (pt : Int)) (hn : pc + 3 = pc') (k1 : x = y → Z κ nL G base mc ms post exc cells slots pt lv st ws) (k2 : ¬ x = y → Z κ nL G base mc ms post exc cells slots pc' lv st ws) : Z κ nL G base mc ms post exc cells slots pc lv (va_rf y :: va_rf x :: st) ws := by
  subst hn
  exact fun ls H locs h hP hD hS => lv_acmp_eq C.1 C.2.1 d ht (fun q => k1 q ls H locs h hP hD hS) (fun q => k2 q ls H locs h hP hD hS)
theorem z_acmp_ne (C : Cx κ cc nL Ts own ret rm0 G base) {off : Int} {pt : Nat} (x y : Option Nat) (d : decode cc pc = .ok (.if_acmp .ne off, 3)) (ht : (pc : Int) + off = (pt : Int)) (hn : pc + 3 = pc') (k1 : ¬ x = y → Z κ nL G base mc ms post exc cells slots pt lv st ws) (k2 : x = y → Z κ nL G base mc ms post exc cells slots pc' lv st ws) : Z κ nL G base mc ms post exc cells slots pc lv (va_rf y :: va_rf x :: st) ws := by
  subst hn
  exact fun ls H locs h hP hD hS => lv_acmp_ne C.1 C.2.1 d ht (fun q => k1 q ls H locs h hP hD hS) (fun q => k2 q ls H locs h hP hD hS)
theorem z_widen {k n : Nat} (h1 : cells ≤ k) (h2 : slots ≤ n) (kk : Z κ nL G base mc ms post exc k n pc lv st ws) : Z κ nL G base mc ms post exc cells slots pc lv st ws := fun ls H locs h hP hD hS => W.widen h1 h2 (kk ls H locs h hP hD hS)
theorem z_sub {lv' : List (Nat × Value)} (js : List Nat) (hl : lv_pick lv js = lv') (kk : Z κ nL G base mc ms post exc cells slots pc lv' st ws) : Z κ nL G base mc ms post exc cells slots pc lv st ws := fun ls H locs h hP hD hS => kk ls H locs (lv_sub h js hl) hP hD hS
theorem z_ws {ws' : va_W} (h : ws = ws') (kk : Z κ nL G base mc ms post exc cells slots pc lv st ws') : Z κ nL G base mc ms post exc cells slots pc lv st ws := by subst h; exact kk
theorem z_iret (C : Cx κ cc nL Ts own ret rm0 G base) {x : Int32} (hr : ret = some .int) (d : decode cc pc = .ok (.ireturn, 1)) (hp : post (some (.int x)) ws) (hc : cells ≤ mc) (hs : slots ≤ ms) : Z κ nL G base mc ms post exc cells slots pc lv [.int x] ws := by
  intro ls H locs h hP hD hS
  refine W.widen hc hs (vx_ret ?_)
  exact W.iret C.1 C.2.1 (by rw [← hr]; exact C.2.2.2.2.2.2.1) (fun t ht hW => ⟨⟨_, ws, rfl, hp, by rw [ht]; exact hP, hD⟩, hS.F ht⟩) hS.2.2 d C.2.2.2.2.2.2.2.1
theorem z_zret (C : Cx κ cc nL Ts own ret rm0 G base) {z : Int} (hr : ret = some .boolean) (hz : z = 0 ∨ z = 1) (d : decode cc pc = .ok (.ireturn, 1)) (hp : post (some (.int (iI z))) ws) (hc : cells ≤ mc) (hs : slots ≤ ms) : Z κ nL G base mc ms post exc cells slots pc lv [.int (iI z)] ws := by
  intro ls H locs h hP hD hS
  refine W.widen hc hs (vx_ret ?_)
  exact W.zret (ty := .boolean) C.1 C.2.1 (by rw [← hr]; exact C.2.2.2.2.2.2.1) (iI_bool hz) (fun t ht hW => ⟨⟨_, ws, rfl, hp, by rw [ht]; exact hP, hD⟩, hS.F ht⟩) hS.2.2 d C.2.2.2.2.2.2.2.1
theorem z_lret (C : Cx κ cc nL Ts own ret rm0 G base) {x : Int64} (hr : ret = some .long) (d : decode cc pc = .ok (.lreturn, 1)) (hp : post (some (.long x)) ws) (hc : cells ≤ mc) (hs : slots ≤ ms) : Z κ nL G base mc ms post exc cells slots pc lv [.long x] ws := by
  intro ls H locs h hP hD hS
  refine W.widen hc hs (vx_ret ?_)
  exact W.lret C.1 C.2.1 (by rw [← hr]; exact C.2.2.2.2.2.2.1) (fun t ht hW => ⟨⟨_, ws, rfl, hp, by rw [ht]; exact hP, hD⟩, hS.F ht⟩) hS.2.2 d C.2.2.2.2.2.2.2.1
theorem z_vret (C : Cx κ cc nL Ts own ret rm0 G base) (hr : ret = none) (d : decode cc pc = .ok (.return_, 1)) (hp : post none ws) (hc : cells ≤ mc) (hs : slots ≤ ms) : Z κ nL G base mc ms post exc cells slots pc lv [] ws := by
  intro ls H locs h hP hD hS
  refine W.widen hc hs (vx_ret ?_)
  exact W.vret C.1 C.2.1 (by rw [← hr]; exact C.2.2.2.2.2.2.1) (fun t ht hW => ⟨⟨_, ws, rfl, hp, by rw [ht]; exact hP, hD⟩, hS.F ht⟩) hS.2.2 d C.2.2.2.2.2.2.2.1
theorem z_aret (C : Cx κ cc nL Ts own ret rm0 G base) {v : Option Nat} {rt : FieldType} (hr : ret = some rt) (hrt : (∃ n, rt = .object n) ∨ ∃ t, rt = .array t) (d : decode cc pc = .ok (.areturn, 1)) (hp : post (some (va_rf v)) ws) (hc : cells ≤ mc) (hs : slots ≤ ms) : Z κ nL G base mc ms post exc cells slots pc lv [va_rf v] ws := by
  intro ls H locs h hP hD hS
  refine W.widen hc hs (vx_ret ?_)
  exact W.aret (v := va_rf v) C.1 C.2.1 (by rw [← hr]; exact C.2.2.2.2.2.2.1) hrt (va_rf_or v) (fun t ht hW => ⟨⟨_, ws, rfl, hp, by rw [ht]; exact hP, hD⟩, hS.F ht⟩) hS.2.2 d C.2.2.2.2.2.2.2.1
end
