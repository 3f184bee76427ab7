section
-- ===== PART A: goes FIRST, ahead of the names: the tables' words, and 'selects' of the private methods out of them =====
/-- a private method of a class that the tables say can be made, by its rows of tables_1 -/
def lw_okq (q : MethodName × Nat) : Prop := (q.1.cls ≠ "java/lang/invoke/MethodHandle" ∧ q.1.cls ≠ "java/lang/invoke/VarHandle") ∧ Cond.instantiable q.1.cls q.2 ∈ tables_1 ∧ Cond.privateMethod q.1 ∈ tables_1 ∧ Cond.instanceMethod q.1 ∈ tables_1
theorem lw_p0 : lw_okq (⟨"java/util/ArrayList", "add", "(Ljava/lang/Object;[Ljava/lang/Object;I)V"⟩, 3) := ⟨⟨by decide +kernel, by decide +kernel⟩, List.mem_of_getElem? (i := 33) (by decide +kernel), List.mem_of_getElem? (i := 104) (by decide +kernel), List.mem_of_getElem? (i := 105) (by decide +kernel)⟩
theorem lw_p1 : lw_okq (⟨"java/util/ArrayList", "grow", "()[Ljava/lang/Object;"⟩, 3) := ⟨⟨by decide +kernel, by decide +kernel⟩, List.mem_of_getElem? (i := 33) (by decide +kernel), List.mem_of_getElem? (i := 108) (by decide +kernel), List.mem_of_getElem? (i := 109) (by decide +kernel)⟩
theorem lw_p2 : lw_okq (⟨"java/util/ArrayList", "grow", "(I)[Ljava/lang/Object;"⟩, 3) := ⟨⟨by decide +kernel, by decide +kernel⟩, List.mem_of_getElem? (i := 33) (by decide +kernel), List.mem_of_getElem? (i := 112) (by decide +kernel), List.mem_of_getElem? (i := 113) (by decide +kernel)⟩
theorem lw_p3 : lw_okq (⟨"ModelCopies", "guessFor", "(LModelCopies$Copy;)LModelCopies$Copy;"⟩, 7) := ⟨⟨by decide +kernel, by decide +kernel⟩, List.mem_of_getElem? (i := 25) (by decide +kernel), List.mem_of_getElem? (i := 252) (by decide +kernel), List.mem_of_getElem? (i := 253) (by decide +kernel)⟩
theorem lw_p4 : lw_okq (⟨"java/lang/Throwable", "fillInStackTrace", "(I)Ljava/lang/Throwable;"⟩, 6) := ⟨⟨by decide +kernel, by decide +kernel⟩, List.mem_of_getElem? (i := 331) (by decide +kernel), List.mem_of_getElem? (i := 329) (by decide +kernel), List.mem_of_getElem? (i := 330) (by decide +kernel)⟩
theorem lw_p5 : lw_okq (⟨"ModelCopies", "findCopy", "(I)LModelCopies$Copy;"⟩, 7) := ⟨⟨by decide +kernel, by decide +kernel⟩, List.mem_of_getElem? (i := 25) (by decide +kernel), List.mem_of_getElem? (i := 412) (by decide +kernel), List.mem_of_getElem? (i := 413) (by decide +kernel)⟩
theorem lw_p6 : lw_okq (⟨"ModelCopies", "findHouse", "(I)LModelCopies$House;"⟩, 7) := ⟨⟨by decide +kernel, by decide +kernel⟩, List.mem_of_getElem? (i := 25) (by decide +kernel), List.mem_of_getElem? (i := 421) (by decide +kernel), List.mem_of_getElem? (i := 422) (by decide +kernel)⟩
theorem lw_p7 : lw_okq (⟨"ModelCopies", "enterFamily", "(LModelCopies$Copy;)V"⟩, 7) := ⟨⟨by decide +kernel, by decide +kernel⟩, List.mem_of_getElem? (i := 25) (by decide +kernel), List.mem_of_getElem? (i := 436) (by decide +kernel), List.mem_of_getElem? (i := 437) (by decide +kernel)⟩
theorem lw_p8 : lw_okq (⟨"ModelCopies", "joinFamilies", "(II)V"⟩, 7) := ⟨⟨by decide +kernel, by decide +kernel⟩, List.mem_of_getElem? (i := 25) (by decide +kernel), List.mem_of_getElem? (i := 445) (by decide +kernel), List.mem_of_getElem? (i := 446) (by decide +kernel)⟩
theorem lw_p9 : lw_okq (⟨"ModelCopies", "findFamiliesAnew", "()V"⟩, 7) := ⟨⟨by decide +kernel, by decide +kernel⟩, List.mem_of_getElem? (i := 25) (by decide +kernel), List.mem_of_getElem? (i := 501) (by decide +kernel), List.mem_of_getElem? (i := 502) (by decide +kernel)⟩
theorem lw_p10 : lw_okq (⟨"ModelCopies", "findLoan", "(I)LModelCopies$Loan;"⟩, 7) := ⟨⟨by decide +kernel, by decide +kernel⟩, List.mem_of_getElem? (i := 25) (by decide +kernel), List.mem_of_getElem? (i := 576) (by decide +kernel), List.mem_of_getElem? (i := 577) (by decide +kernel)⟩
theorem lw_p11 : lw_okq (⟨"ModelCopies", "lowestIn", "(J)I"⟩, 7) := ⟨⟨by decide +kernel, by decide +kernel⟩, List.mem_of_getElem? (i := 25) (by decide +kernel), List.mem_of_getElem? (i := 662) (by decide +kernel), List.mem_of_getElem? (i := 663) (by decide +kernel)⟩
theorem lw_p12 : lw_okq (⟨"ModelCopies", "kinByErrors", "(LModelCopies$Copy;)J"⟩, 7) := ⟨⟨by decide +kernel, by decide +kernel⟩, List.mem_of_getElem? (i := 25) (by decide +kernel), List.mem_of_getElem? (i := 666) (by decide +kernel), List.mem_of_getElem? (i := 667) (by decide +kernel)⟩
theorem lw_p13 : lw_okq (⟨"ModelCopies", "copiesThatRead", "(II)J"⟩, 7) := ⟨⟨by decide +kernel, by decide +kernel⟩, List.mem_of_getElem? (i := 25) (by decide +kernel), List.mem_of_getElem? (i := 670) (by decide +kernel), List.mem_of_getElem? (i := 671) (by decide +kernel)⟩
theorem lw_p14 : lw_okq (⟨"ModelCopies", "kinByModels", "(LModelCopies$Copy;)J"⟩, 7) := ⟨⟨by decide +kernel, by decide +kernel⟩, List.mem_of_getElem? (i := 25) (by decide +kernel), List.mem_of_getElem? (i := 674) (by decide +kernel), List.mem_of_getElem? (i := 675) (by decide +kernel)⟩
theorem lw_p15 : lw_okq (⟨"ModelCopies", "requireLetter", "(I)V"⟩, 7) := ⟨⟨by decide +kernel, by decide +kernel⟩, List.mem_of_getElem? (i := 25) (by decide +kernel), List.mem_of_getElem? (i := 716) (by decide +kernel), List.mem_of_getElem? (i := 717) (by decide +kernel)⟩
def lw_privs_1 : List (MethodName × Nat) := [(⟨"java/util/ArrayList", "add", "(Ljava/lang/Object;[Ljava/lang/Object;I)V"⟩, 3), (⟨"java/util/ArrayList", "grow", "()[Ljava/lang/Object;"⟩, 3), (⟨"java/util/ArrayList", "grow", "(I)[Ljava/lang/Object;"⟩, 3), (⟨"ModelCopies", "guessFor", "(LModelCopies$Copy;)LModelCopies$Copy;"⟩, 7), (⟨"java/lang/Throwable", "fillInStackTrace", "(I)Ljava/lang/Throwable;"⟩, 6), (⟨"ModelCopies", "findCopy", "(I)LModelCopies$Copy;"⟩, 7), (⟨"ModelCopies", "findHouse", "(I)LModelCopies$House;"⟩, 7), (⟨"ModelCopies", "enterFamily", "(LModelCopies$Copy;)V"⟩, 7), (⟨"ModelCopies", "joinFamilies", "(II)V"⟩, 7), (⟨"ModelCopies", "findFamiliesAnew", "()V"⟩, 7), (⟨"ModelCopies", "findLoan", "(I)LModelCopies$Loan;"⟩, 7), (⟨"ModelCopies", "lowestIn", "(J)I"⟩, 7), (⟨"ModelCopies", "kinByErrors", "(LModelCopies$Copy;)J"⟩, 7), (⟨"ModelCopies", "copiesThatRead", "(II)J"⟩, 7), (⟨"ModelCopies", "kinByModels", "(LModelCopies$Copy;)J"⟩, 7), (⟨"ModelCopies", "requireLetter", "(I)V"⟩, 7)]
theorem lw_r1 : ∀ q ∈ lw_privs_1, lw_okq q := List.forall_mem_cons.mpr ⟨lw_p0, List.forall_mem_cons.mpr ⟨lw_p1, List.forall_mem_cons.mpr ⟨lw_p2, List.forall_mem_cons.mpr ⟨lw_p3, List.forall_mem_cons.mpr ⟨lw_p4, List.forall_mem_cons.mpr ⟨lw_p5, List.forall_mem_cons.mpr ⟨lw_p6, List.forall_mem_cons.mpr ⟨lw_p7, List.forall_mem_cons.mpr ⟨lw_p8, List.forall_mem_cons.mpr ⟨lw_p9, List.forall_mem_cons.mpr ⟨lw_p10, List.forall_mem_cons.mpr ⟨lw_p11, List.forall_mem_cons.mpr ⟨lw_p12, List.forall_mem_cons.mpr ⟨lw_p13, List.forall_mem_cons.mpr ⟨lw_p14, List.forall_mem_cons.mpr ⟨lw_p15, fun _ h => absurd h List.not_mem_nil⟩⟩⟩⟩⟩⟩⟩⟩⟩⟩⟩⟩⟩⟩⟩⟩
theorem lw_p16 : lw_okq (⟨"ModelCopiesModel", "goes", "(ZZZ)Z"⟩, 26) := ⟨⟨by decide +kernel, by decide +kernel⟩, List.mem_of_getElem? (i := 756) (by decide +kernel), List.mem_of_getElem? (i := 855) (by decide +kernel), List.mem_of_getElem? (i := 856) (by decide +kernel)⟩
theorem lw_p17 : lw_okq (⟨"ModelCopiesModel", "isCopy", "(I)Z"⟩, 26) := ⟨⟨by decide +kernel, by decide +kernel⟩, List.mem_of_getElem? (i := 756) (by decide +kernel), List.mem_of_getElem? (i := 863) (by decide +kernel), List.mem_of_getElem? (i := 864) (by decide +kernel)⟩
theorem lw_p18 : lw_okq (⟨"ModelCopiesModel", "sorts", "()V"⟩, 26) := ⟨⟨by decide +kernel, by decide +kernel⟩, List.mem_of_getElem? (i := 756) (by decide +kernel), List.mem_of_getElem? (i := 877) (by decide +kernel), List.mem_of_getElem? (i := 878) (by decide +kernel)⟩
theorem lw_p19 : lw_okq (⟨"ModelCopiesModel", "areKin", "(II)Z"⟩, 26) := ⟨⟨by decide +kernel, by decide +kernel⟩, List.mem_of_getElem? (i := 756) (by decide +kernel), List.mem_of_getElem? (i := 881) (by decide +kernel), List.mem_of_getElem? (i := 882) (by decide +kernel)⟩
theorem lw_p20 : lw_okq (⟨"ModelCopiesModel", "share", "(II)I"⟩, 26) := ⟨⟨by decide +kernel, by decide +kernel⟩, List.mem_of_getElem? (i := 756) (by decide +kernel), List.mem_of_getElem? (i := 885) (by decide +kernel), List.mem_of_getElem? (i := 886) (by decide +kernel)⟩
theorem lw_p21 : lw_okq (⟨"ModelCopiesModel", "gets", "(II)V"⟩, 26) := ⟨⟨by decide +kernel, by decide +kernel⟩, List.mem_of_getElem? (i := 756) (by decide +kernel), List.mem_of_getElem? (i := 905) (by decide +kernel), List.mem_of_getElem? (i := 906) (by decide +kernel)⟩
theorem lw_p22 : lw_okq (⟨"ModelCopiesModel", "isLoan", "(I)Z"⟩, 26) := ⟨⟨by decide +kernel, by decide +kernel⟩, List.mem_of_getElem? (i := 756) (by decide +kernel), List.mem_of_getElem? (i := 913) (by decide +kernel), List.mem_of_getElem? (i := 914) (by decide +kernel)⟩
theorem lw_p23 : lw_okq (⟨"ModelCopiesModel", "lateNow", "(I)I"⟩, 26) := ⟨⟨by decide +kernel, by decide +kernel⟩, List.mem_of_getElem? (i := 756) (by decide +kernel), List.mem_of_getElem? (i := 917) (by decide +kernel), List.mem_of_getElem? (i := 918) (by decide +kernel)⟩
theorem lw_p24 : lw_okq (⟨"ModelCopiesModel", "errorsOf", "(I)I"⟩, 26) := ⟨⟨by decide +kernel, by decide +kernel⟩, List.mem_of_getElem? (i := 756) (by decide +kernel), List.mem_of_getElem? (i := 937) (by decide +kernel), List.mem_of_getElem? (i := 938) (by decide +kernel)⟩
theorem lw_p25 : lw_okq (⟨"ModelCopiesModel", "guesses", "(I)I"⟩, 26) := ⟨⟨by decide +kernel, by decide +kernel⟩, List.mem_of_getElem? (i := 756) (by decide +kernel), List.mem_of_getElem? (i := 978) (by decide +kernel), List.mem_of_getElem? (i := 979) (by decide +kernel)⟩
theorem lw_p26 : lw_okq (⟨"ModelCopiesModel", "isError", "(II)Z"⟩, 26) := ⟨⟨by decide +kernel, by decide +kernel⟩, List.mem_of_getElem? (i := 756) (by decide +kernel), List.mem_of_getElem? (i := 990) (by decide +kernel), List.mem_of_getElem? (i := 991) (by decide +kernel)⟩
theorem lw_p27 : lw_okq (⟨"ModelCopiesModel", "isLetter", "(I)Z"⟩, 26) := ⟨⟨by decide +kernel, by decide +kernel⟩, List.mem_of_getElem? (i := 756) (by decide +kernel), List.mem_of_getElem? (i := 1006) (by decide +kernel), List.mem_of_getElem? (i := 1007) (by decide +kernel)⟩
def lw_privs_2 : List (MethodName × Nat) := [(⟨"ModelCopiesModel", "goes", "(ZZZ)Z"⟩, 26), (⟨"ModelCopiesModel", "isCopy", "(I)Z"⟩, 26), (⟨"ModelCopiesModel", "sorts", "()V"⟩, 26), (⟨"ModelCopiesModel", "areKin", "(II)Z"⟩, 26), (⟨"ModelCopiesModel", "share", "(II)I"⟩, 26), (⟨"ModelCopiesModel", "gets", "(II)V"⟩, 26), (⟨"ModelCopiesModel", "isLoan", "(I)Z"⟩, 26), (⟨"ModelCopiesModel", "lateNow", "(I)I"⟩, 26), (⟨"ModelCopiesModel", "errorsOf", "(I)I"⟩, 26), (⟨"ModelCopiesModel", "guesses", "(I)I"⟩, 26), (⟨"ModelCopiesModel", "isError", "(II)Z"⟩, 26), (⟨"ModelCopiesModel", "isLetter", "(I)Z"⟩, 26)]
theorem lw_r2 : ∀ q ∈ lw_privs_2, lw_okq q := List.forall_mem_cons.mpr ⟨lw_p16, List.forall_mem_cons.mpr ⟨lw_p17, List.forall_mem_cons.mpr ⟨lw_p18, List.forall_mem_cons.mpr ⟨lw_p19, List.forall_mem_cons.mpr ⟨lw_p20, List.forall_mem_cons.mpr ⟨lw_p21, List.forall_mem_cons.mpr ⟨lw_p22, List.forall_mem_cons.mpr ⟨lw_p23, List.forall_mem_cons.mpr ⟨lw_p24, List.forall_mem_cons.mpr ⟨lw_p25, List.forall_mem_cons.mpr ⟨lw_p26, List.forall_mem_cons.mpr ⟨lw_p27, fun _ h => absurd h List.not_mem_nil⟩⟩⟩⟩⟩⟩⟩⟩⟩⟩⟩⟩
def lw_privs : List (MethodName × Nat) := lw_privs_1 ++ (lw_privs_2)
def lw_tbl : List Cond := k2_sels lw_privs ++ tables_1
theorem lw_privs_ok : ∀ q ∈ lw_privs, lw_okq q := by
  show ∀ q ∈ lw_privs_1 ++ (lw_privs_2), lw_okq q
  exact List.forall_mem_append.mpr ⟨lw_r1, lw_r2⟩
end
section
/-! ===== BEGIN words of one list among another's, by their places ===== -/
theorem goodIn_r {big : List Cond} (ws : List Cond) (ps : List Nat) (hp : ws = ps.filterMap (fun i => big[i]?)) (h : ws.all goodWord = true) : GoodIn big ws := by
  intro w hw
  have h1 := List.all_eq_true.mp h w hw
  rw [hp] at hw
  obtain ⟨i, -, hi⟩ := List.mem_filterMap.mp hw
  have hm : w ∈ big := by first | exact List.mem_of_getElem? hi | exact List.getElem?_mem hi
  exact ⟨hm, good_of_word h1⟩
theorem goodIn_app {big a b : List Cond} (ha : GoodIn big a) (hb : GoodIn big b) : GoodIn big (a ++ b) := fun w h => (List.mem_append.mp h).elim (ha w) (hb w)
theorem goodIn_ca {big a b : List Cond} {c : Cond} (ha : GoodIn big (c :: a)) (hb : GoodIn big b) : GoodIn big (c :: (a ++ b)) := fun w h => (List.mem_cons.mp h).elim (fun e => ha w (List.mem_cons.mpr (Or.inl e))) (fun h => (List.mem_append.mp h).elim (fun h => ha w (List.mem_cons.mpr (Or.inr h))) (hb w))
theorem goodIn_sub {big ws : List Cond} (hm : ∀ w ∈ ws, w ∈ big) (h : ws.all goodWord = true) : GoodIn big ws := fun w hw => ⟨hm w hw, good_of_word (List.all_eq_true.mp h w hw)⟩
/-! ===== END ===== -/

/-! ===== BEGIN exceptions that leave a method, and their catching by the caller (launches without stack traces) ===== -/
section VXA
/-! The laws vx_back, vx_callV, vx_callS, vx_callSW, vx_throw0, vx_throwS follow proofs of the library, with one case more: JvmDerived/Free/Laws.lean (Back.of_free), Shelf42/LK1.lean (callV, callS), Shelf/KitTraced.lean (throwNew0V, throwNewS). -/
/-- where a method has thrown q: the class by its name, the cell, what was written, the world -/
def vx_T (XC : String → State → State → Prop) (st : State) (q : Addr) (t : State) (mc ms : Nat) (free : Addr → Prop) : Prop :=
  ∃ (E : String) (ce : Cell) (L : List Loc), XC E st t ∧ t.heap[q]? = some ce ∧ ce.vm = .none ∧ st.vm.findClass E = some ce.cls ∧ st.WarmedH t.vm ∧ st.sameButNew ({ t with vm := st.vm } : State) L mc ms ∧ ∀ z ∈ L, free z.base
def vx_Q (Qc : Array Value → State → Outcome → State → Prop) (XC : String → State → State → Prop) (mc ms : Nat) (free : Addr → Prop) : Array Value → State → Outcome → State → Prop := fun a st o t =>
  (Qc a st o t ∧ ∃ L, FrameEnd st o t L mc ms ∧ ∀ q ∈ L, free q.base) ∨ ∃ q, o = .threw q ∧ vx_T XC st q t mc ms free
/-- a callee that returns or throws -/
def vx_Met (l : Launch) (y : MethodName) (ws : List Cond) (rm : Room) (Pc : Array Value → State → Prop) (Qc : Array Value → State → Outcome → State → Prop) (XC : String → State → State → Prop) (mc ms : Nat) (free : Addr → Prop) : Prop :=
  MetFree l y (headSpec ws rm) Pc (fun _ _ _ _ _ => True) (vx_Q Qc XC mc ms free)
def vx_Post (XC : String → State → State → Prop) (mc ms : Nat) (free : Addr → Prop) : Pt → Array Value → Addr → Pt → Prop := fun A a q B =>
  ∃ (g : JFrame) (mk : MethodId) (t : State) (L : List Loc) (E : String) (ce : Cell), B.U.heap = t.heap ∧ B.U.vm = t.vm ∧ XC E (A.U.calling g mk a) t ∧ t.heap[q]? = some ce ∧ ce.vm = .none ∧ A.U.vm.findClass E = some ce.cls ∧ B.locs = A.locs ++ L ∧ (∀ z ∈ L, free z.base) ∧ B.cells = A.cells + mc ∧ B.slots = A.slots + ms
def vx_Back (l : Launch) (R : Room) (p : Program) (e : Env) (below : List Frame) (s : State) (sargs : Array Value) (y : MethodName) (len W9 : Nat)
    (Pre : Pt → Array Value → Prop) (Post : Pt → Array Value → Option Value → Pt → Prop) (PostX : Pt → Array Value → Addr → Pt → Prop) : Prop :=
  ∀ (m : MethodId) (meth : Method) (c : Code) (A : Pt) (g : JFrame) (ig : Instr) (mk : MethodId) (a : Array Value),
    Stand p l e R s m sargs below meth c A.U A.locs A.cells A.slots → g.method = m → g.locals.size = c.maxLocals → decode c.code g.pc = .ok (ig, len) →
    2 * g.monitorRoom + (g.stack.map fun v => v.category).sum ≤ W9 → A.U.methodNamed? y = some mk → Pre A a →
    (∃ (v : Option Value) (B : Pt), Stand p l e R s m sargs below meth c B.U B.locs B.cells B.slots ∧ Post A a v B ∧
      Steps p.tables e below (doInvoke e (A.U.setTop g) [] mk a).1 (B.U.setTop { g with pc := g.pc + len, stack := v.toList ++ g.stack })) ∨
    (∃ (q : Addr) (B : Pt), Stand p l e R s m sargs below meth c B.U B.locs B.cells B.slots ∧ PostX A a q B ∧
      Steps p.tables e below (doInvoke e (A.U.setTop g) [] mk a).1 ((B.U.setTop g).pushFrame (.throwing q)))
section Payer
variable {l : Launch} {R : Room} {p : Program} {e : Env} {below : List Frame} {s : State} {sargs : Array Value} {y : MethodName} {len W9 : Nat}
theorem vx_back {ws : List Cond} {rm : Room} {Pc : Array Value → State → Prop} {Qc : Array Value → State → Outcome → State → Prop} {XC : String → State → State → Prop} {mc ms : Nat} {free : Addr → Prop} {bytes : ByteArray} {maxL : Nat} {ret : Option FieldType}
    (hM : vx_Met l y ws rm Pc Qc XC mc ms free) (hblind : FrameBlind Pc) (hrc : rm.cells = mc) (hrs : rm.slots = ms)
    (hframes : rm.frames + 1 ≤ R.frames) (hlocals : W9 + (maxL + 11) + rm.locals ≤ R.locals)
    (hws : ∀ w ∈ ws, ∀ a' U, s.WarmedH U.vm → w.before a' U = true) (hcode : Cond.code y bytes maxL ret ∈ ws) (hinit : ∀ a' U, s.WarmedH U.vm → (Cond.initialized y.cls).before a' U = true) :
    vx_Back l R p e below s sargs y len W9 (PreOf R mc ms Pc) (PostOf Qc mc ms free) (vx_Post XC mc ms free) := by
  intro m meth c A g ig mk a X hg hsize hdg hW hn hp
  have h1 : (headSpec ws rm).pre.before a A.U = true := atoms_intro fun w hw => hws w hw _ _ X.warmed
  have h2 : (Cond.code y bytes maxL ret).before a A.U = true := hws _ hcode _ _ X.warmed
  have h3 : (Cond.initialized y.cls).before a A.U = true := hinit _ _ X.warmed
  have h4 : A.cells + (headSpec ws rm).room.cells ≤ R.cells := by rw [show (headSpec ws rm).room.cells = mc from hrc]; exact hp.1
  have h5 : A.slots + (headSpec ws rm).room.slots ≤ R.slots := by rw [show (headSpec ws rm).room.slots = ms from hrs]; exact hp.2.1
  have hPc : Pc a (A.U.calling g mk a) := hblind _ _ _ _ hp.2.2
  obtain ⟨U, Ls, c0, s0⟩ := A
  dsimp only [Pt.U, Pt.locs, Pt.cells, Pt.slots] at h1 h2 h3 h4 h5 X hn hPc ⊢
  obtain ⟨methY, cY, hmY, hcY, -, hlY, -, -, -, -⟩ := Cond.code_spec hn h2
  obtain ⟨kY, hkY, -⟩ := className_of_methodNamed hn
  have hinitY : kY.init = .initialized := Cond.initialized_spec (findClass_of_methodNamed hn) hkY h3
  have h : At U g.method c below := by rw [hg]; exact X.here
  have hlocals9 : W9 + (maxL + 11) + (headSpec ws rm).room.locals ≤ R.locals := hlocals
  have happ : (headSpec ws rm).appliesLoose y e.platform (U.calling g mk a) = true :=
    Spec.appliesLoose_calling (g := g) h hdg hn hkY hinitY
      (X.room_calling (g := g) (R' := (headSpec ws rm).room) hsize hmY hcY hframes (by rw [hlY]; omega) h4 h5) h1
  obtain ⟨mid, hmid⟩ := h.above
  have hfr : (U.setTop g).frames = (.java g :: mid) ++ below := by rw [State.frames_setTop' g h.top, hmid]; rfl
  obtain ⟨o, s₂, hsteps, -, hend, hq⟩ := Steps.callFree hM p X.admits X.cas X.clock (acts := []) hfr happ hPc trivial
  have hq' : vx_Q Qc XC mc ms free a (U.calling g mk a) o s₂ := hq
  rw [State.frames_setTop' g h.top] at hend
  obtain ⟨g₀, hg0⟩ := Option.isSome_iff_exists.mp h.top
  obtain ⟨r, hr⟩ := State.topJava?_eq_some.mp hg0
  have hr' : (({ U with heap := s₂.heap, slotsUsed := s₂.slotsUsed } : State).setVm s₂.vm).frames = .java g₀ :: r := hr
  rcases hq' with ⟨hqc, L, hfe, hL⟩ | ⟨q, rfl, E, ce, L, hx, hce, hcv, hcl, hW₂, hsm, hL⟩
  · obtain ⟨⟨v, rfl⟩, hW₂, e2, q2, q3, q4, q5, q6⟩ := id hfe
    have e3 : s₂ = ({ (U.calling g mk a).setFrames s₂.frames with heap := s₂.heap, slotsUsed := s₂.slotsUsed } : State).setVm s₂.vm := by
      have : s₂ = ({ s₂ with vm := (U.calling g mk a).vm } : State).setVm s₂.vm := rfl
      rw [e2] at this
      exact this
    obtain ⟨c₂, i₂, len₂, hc₂, hd₂, hf₂⟩ := hend
    have hW' : U.WarmedH s₂.vm := hW₂
    have hcc : c₂ = c := by
      have h1 : s₂.code? g.method = U.code? g.method := by
        rw [State.code?_eq, State.code?_eq, hW'.alike.method?]
      exact Option.some.inj (hc₂.symm.trans (h1.trans h.code))
    subst hcc
    have hlen : len₂ = len := by rw [hdg] at hd₂; cases hd₂; rfl
    subst hlen
    have hs₂ : s₂ = (({ U with heap := s₂.heap, slotsUsed := s₂.slotsUsed } : State).setVm s₂.vm).setTop { g with pc := g.pc + len₂, stack := v.toList ++ g.stack } := by
      refine e3.trans ?_
      rw [hf₂, State.calling_eq h.top, State.setFrames_setFrames, State.setTop_of_frames _ hr', hr]
      rfl
    have hsame : U.sameButNew ({ U with heap := s₂.heap, slotsUsed := s₂.slotsUsed } : State) L mc ms := by
      refine ⟨?_, q2, q3, q4, q5, q6⟩
      obtain ⟨t, ht, -⟩ := State.frames_cons hr
      show ({ U with heap := s₂.heap, slotsUsed := s₂.slotsUsed } : State) = { U.setFrames U.frames with heap := s₂.heap, slotsUsed := s₂.slotsUsed }
      rw [State.setFrames_self ht]
    subst hg
    refine Or.inl ⟨v, ⟨(({ U with heap := s₂.heap, slotsUsed := s₂.slotsUsed } : State).setVm s₂.vm), Ls ++ L, c0 + mc, s0 + ms⟩,
      ⟨X.admits, X.cas, X.clock, X.frames, X.room, X.hears, X.method, X.code, (X.here.setHeapUsed s₂.heap s₂.slotsUsed).setVm hW'.alike, X.tail, State.WarmedH.trans X.warmed hW', X.limits, X.bytes, X.same.trans (hsame.setVm s.vm)⟩,
      ⟨g, mk, s₂, L, rfl, rfl, hqc, rfl, hL, rfl, rfl⟩, ?_⟩
    show Steps p.tables e below _ ((({ U with heap := s₂.heap, slotsUsed := s₂.slotsUsed } : State).setVm s₂.vm).setTop { g with pc := g.pc + len₂, stack := v.toList ++ g.stack })
    rw [← hs₂]
    exact hsteps
  · obtain ⟨e2, q2, q3, q4, q5, q6⟩ := id hsm
    have e3 : s₂ = ({ (U.calling g mk a).setFrames s₂.frames with heap := s₂.heap, slotsUsed := s₂.slotsUsed } : State).setVm s₂.vm := by
      have : s₂ = ({ s₂ with vm := (U.calling g mk a).vm } : State).setVm s₂.vm := rfl
      rw [e2] at this
      exact this
    have hf₂ : s₂.frames = .throwing q :: .java g :: U.frames.tail := hend
    have hW' : U.WarmedH s₂.vm := hW₂
    have hs₂ : s₂ = ((({ U with heap := s₂.heap, slotsUsed := s₂.slotsUsed } : State).setVm s₂.vm).setTop g).pushFrame (.throwing q) := by
      refine e3.trans ?_
      rw [hf₂, State.calling_eq h.top, State.setFrames_setFrames, State.pushFrame, State.frames_setTop _ hr', State.setTop_of_frames _ hr', State.setFrames_setFrames, hr]
      rfl
    have hsame : U.sameButNew ({ U with heap := s₂.heap, slotsUsed := s₂.slotsUsed } : State) L mc ms := by
      refine ⟨?_, q2, q3, q4, q5, q6⟩
      obtain ⟨t, ht, -⟩ := State.frames_cons hr
      show ({ U with heap := s₂.heap, slotsUsed := s₂.slotsUsed } : State) = { U.setFrames U.frames with heap := s₂.heap, slotsUsed := s₂.slotsUsed }
      rw [State.setFrames_self ht]
    subst hg
    refine Or.inr ⟨q, ⟨(({ U with heap := s₂.heap, slotsUsed := s₂.slotsUsed } : State).setVm s₂.vm), Ls ++ L, c0 + mc, s0 + ms⟩,
      ⟨X.admits, X.cas, X.clock, X.frames, X.room, X.hears, X.method, X.code, (X.here.setHeapUsed s₂.heap s₂.slotsUsed).setVm hW'.alike, X.tail, State.WarmedH.trans X.warmed hW', X.limits, X.bytes, X.same.trans (hsame.setVm s.vm)⟩,
      ⟨g, mk, s₂, L, E, ce, rfl, rfl, hx, hce, hcv, hcl, rfl, hL, rfl, rfl⟩, ?_⟩
    show Steps p.tables e below _ (((({ U with heap := s₂.heap, slotsUsed := s₂.slotsUsed } : State).setVm s₂.vm).setTop g).pushFrame (.throwing q))
    rw [← hs₂]
    exact hsteps
end Payer
section Calls
variable {p : Program} {l : Launch} {e : Env} {R : Room} {s : State} {m : MethodId} {args : Array Value} {below : List Frame} {meth : Method} {c : Code} {T : State} {locs : List Loc} {cells slots : Nat}
theorem vx_callV (X : Stand p l e R s m args below meth c T locs cells slots) (hexec : p.tables.exec = Jvm.exec) {own C : String} {index : Nat} {y : MethodName} {bytes : ByteArray} {maxL : Nat} {ret : Option FieldType}
    (hown : s.vm.findClass own = some m.cls) (hlink : (Cond.methodLink own index y).before args s = true) (hinst : (Cond.instanceMethod y).before args s = true) (hsel : (Cond.selects C y y).before args s = true)
    (hcode : (Cond.code y bytes maxL ret).before args s = true) (hy : y.cls ≠ "java/lang/invoke/MethodHandle" ∧ y.cls ≠ "java/lang/invoke/VarHandle")
    {W9 : Nat} {Pre : Pt → Array Value → Prop} {Post : Pt → Array Value → Option Value → Pt → Prop} {PostX : Pt → Array Value → Addr → Pt → Prop} (hK : vx_Back l R p e below s args y 3 W9 Pre Post PostX)
    {b : Addr} {cellB : Cell} (hcell : T.heap[b]? = some cellB) (hobj : cellB.vm.isStatics = false) (hcls : s.vm.findClass C = some cellB.cls)
    {g : JFrame} (hg : g.method = m) (hsize : g.locals.size = c.maxLocals) {argsL rest : List Value} (hlen : ∀ sig, parseMethodDescriptor y.desc = some sig → argsL.length = sig.parameters.length)
    (hstack : g.stack = argsL.reverse ++ .ref b :: rest) (hW : 2 * g.monitorRoom + (rest.map fun v => v.category).sum ≤ W9) (hdg : decode c.code g.pc = .ok (.invokevirtual index, 3))
    (hpre : ∀ vm₁, s.WarmedH vm₁ → Pre ⟨T.setVm vm₁, locs, cells, slots⟩ (Value.ref b :: argsL).toArray) :
    (∃ (v : Option Value) (vm₁ : Vm) (B : Pt), s.WarmedH vm₁ ∧ Stand p l e R s m args below meth c B.U B.locs B.cells B.slots ∧ Post ⟨T.setVm vm₁, locs, cells, slots⟩ (Value.ref b :: argsL).toArray v B ∧
      ∀ target, Steps p.tables e below (B.U.setTop { g with pc := g.pc + 3, stack := v.toList ++ rest }) target → Steps p.tables e below (T.setTop g) target) ∨
    (∃ (q : Addr) (vm₁ : Vm) (B : Pt), s.WarmedH vm₁ ∧ Stand p l e R s m args below meth c B.U B.locs B.cells B.slots ∧ PostX ⟨T.setVm vm₁, locs, cells, slots⟩ (Value.ref b :: argsL).toArray q B ∧
      Steps p.tables e below (T.setTop g) ((B.U.setTop { g with stack := rest }).pushFrame (.throwing q))) := by
  obtain ⟨mk, methM, hnamed, hmethM, hstM, habM⟩ := Cond.instanceMethod_spec hinst
  obtain ⟨methM', cM, hmethM', -, -, -, -, -, -, hsigM⟩ := Cond.code_spec hnamed hcode
  cases hmethM.symm.trans hmethM'
  obtain ⟨c2, r2, m2, q1, q2, q3, q4, kP, hkP, hkPi⟩ := Cond.selects_spec hsel
  cases hcls.symm.trans q1
  cases (State.methodFound?_of_named hnamed hy).symm.trans q2
  cases hnamed.symm.trans q3
  have hselP : selectMethod e.platform s.vm cellB.cls mk = .method mk := by rw [Launch.admits_selectMethod X.admits]; exact q4
  obtain ⟨vm₁, X₁, hstep₁⟩ := X.invokevirtual hexec hown hlink hnamed hmethM hstM hkP hkPi hy (a := b) (cell := cellB) hcell
    (fun z h => by rw [h] at hobj; cases hobj) hselP hmethM habM hkP hkPi (g := g) hg (argsL := argsL) (rest := rest) (hlen _ hsigM) hstack hdg
  rcases hK m meth c ⟨T.setVm vm₁, locs, cells, slots⟩ { g with stack := rest } (.invokevirtual index) mk (Value.ref b :: argsL).toArray X₁ hg hsize hdg hW (X₁.named hnamed) (hpre vm₁ X₁.warmed) with ⟨v, B, X', hpost, hsteps⟩ | ⟨q, B, X', hpost, hsteps⟩
  · exact Or.inl ⟨v, vm₁, B, X₁.warmed, X', hpost, fun target h => hstep₁ _ fun acts => by rw [doInvoke_state]; exact hsteps.trans h⟩
  · exact Or.inr ⟨q, vm₁, B, X₁.warmed, X', hpost, hstep₁ _ fun acts => by rw [doInvoke_state]; exact hsteps⟩
theorem vx_callS (X : Stand p l e R s m args below meth c T locs cells slots) (hexec : p.tables.exec = Jvm.exec) {own : String} {index : Nat} {y : MethodName} {bytes : ByteArray} {maxL : Nat} {ret : Option FieldType}
    (hown : s.vm.findClass own = some m.cls) (hlink : (Cond.methodLink own index y).before args s = true) (hstat : (Cond.static y).before args s = true) (hinit : (Cond.initialized y.cls).before args s = true)
    (hcode : (Cond.code y bytes maxL ret).before args s = true) (hy : y.cls ≠ "java/lang/invoke/MethodHandle" ∧ y.cls ≠ "java/lang/invoke/VarHandle")
    {W9 : Nat} {Pre : Pt → Array Value → Prop} {Post : Pt → Array Value → Option Value → Pt → Prop} {PostX : Pt → Array Value → Addr → Pt → Prop} (hK : vx_Back l R p e below s args y 3 W9 Pre Post PostX)
    {g : JFrame} (hg : g.method = m) (hsize : g.locals.size = c.maxLocals) {argsL rest : List Value} (hlen : ∀ sig, parseMethodDescriptor y.desc = some sig → argsL.length = sig.parameters.length)
    (hstack : g.stack = argsL.reverse ++ rest) (hW : 2 * g.monitorRoom + (rest.map fun v => v.category).sum ≤ W9) (hdg : decode c.code g.pc = .ok (.invokestatic index, 3))
    (hpre : ∀ vm₁, s.WarmedH vm₁ → Pre ⟨T.setVm vm₁, locs, cells, slots⟩ argsL.toArray) :
    (∃ (v : Option Value) (vm₁ : Vm) (B : Pt), s.WarmedH vm₁ ∧ Stand p l e R s m args below meth c B.U B.locs B.cells B.slots ∧ Post ⟨T.setVm vm₁, locs, cells, slots⟩ argsL.toArray v B ∧
      ∀ target, Steps p.tables e below (B.U.setTop { g with pc := g.pc + 3, stack := v.toList ++ rest }) target → Steps p.tables e below (T.setTop g) target) ∨
    (∃ (q : Addr) (vm₁ : Vm) (B : Pt), s.WarmedH vm₁ ∧ Stand p l e R s m args below meth c B.U B.locs B.cells B.slots ∧ PostX ⟨T.setVm vm₁, locs, cells, slots⟩ argsL.toArray q B ∧
      Steps p.tables e below (T.setTop g) ((B.U.setTop { g with stack := rest }).pushFrame (.throwing q))) := by
  obtain ⟨mk, hnamed⟩ := Cond.code_named hcode
  obtain ⟨methM, cM, hmethM, -, -, -, -, -, -, hsigM⟩ := Cond.code_spec hnamed hcode
  have hstatic : methM.isStatic = true := Cond.static_spec hnamed hmethM hstat
  obtain ⟨kP, hkP, -⟩ := className_of_methodNamed hnamed
  have hinitP : kP.init = .initialized := Cond.initialized_spec (findClass_of_methodNamed hnamed) hkP hinit
  obtain ⟨vm₁, X₁, hstep₁⟩ := X.invokestatic hexec hown hlink hnamed hmethM hstatic hkP hinitP hy (g := g) hg (argsL := argsL) (rest := rest) (hlen _ hsigM) hstack hdg
  rcases hK m meth c ⟨T.setVm vm₁, locs, cells, slots⟩ { g with stack := rest } (.invokestatic index) mk argsL.toArray X₁ hg hsize hdg hW (X₁.named hnamed) (hpre vm₁ X₁.warmed) with ⟨v, B, X', hpost, hsteps⟩ | ⟨q, B, X', hpost, hsteps⟩
  · exact Or.inl ⟨v, vm₁, B, X₁.warmed, X', hpost, fun target h => hstep₁ _ fun acts => by rw [doInvoke_state]; exact hsteps.trans h⟩
  · exact Or.inr ⟨q, vm₁, B, X₁.warmed, X', hpost, hstep₁ _ fun acts => by rw [doInvoke_state]; exact hsteps⟩
end Calls
theorem vx_cls {s : State} {T : State} {vm₁ : Vm} {E : String} {k : ClassId} (hW : s.WarmedH vm₁) (h : (T.setVm vm₁).vm.findClass E = some k) : s.vm.findClass E = some k := by
  have h1 : vm₁.findClass E = some k := h
  rw [hW.alike.findClass] at h1
  exact h1
/-- the method's frame g, with q thrown over it -/
def vx_W (p : Program) (l : Launch) (e : Env) (R : Room) (s : State) (m : MethodId) (args : Array Value) (below : List Frame) (meth : Method) (c : Code) (H : Heap) (locs : List Loc) (cells slots : Nat) (Q : State → Prop) (g : JFrame) (q : Addr) : Prop :=
  ∀ T : State, T.heap = H → Stand p l e R s m args below meth c T locs cells slots → ∃ t, Steps p.tables e below ((T.setTop g).pushFrame (.throwing q)) t ∧ Q t
def vx_Run (p : Program) (l : Launch) (e : Env) (R : Room) (s : State) (m : MethodId) (args : Array Value) (below : List Frame) (meth : Method) (c : Code) (H : Heap) (locs : List Loc) (cells slots mc ms : Nat) (g : JFrame) (rest : List Value) (Qa : State → Outcome → State → Prop) (XC : String → State → State → Prop) (free : Addr → Prop) : Prop :=
  ∀ T : State, T.heap = H → Stand p l e R s m args below meth c T locs cells slots →
    (∃ (v : Option Value) (st₀ t T' : State) (L : List Loc), st₀.heap = H ∧ Stand p l e R s m args below meth c T' (locs ++ L) (cells + mc) (slots + ms) ∧ (∀ q ∈ L, free q.base) ∧ T'.heap = t.heap ∧ T'.vm = t.vm ∧ Qa st₀ (.returned v) t ∧
      Goes p e below T g T' { g with pc := g.pc + 3, stack := v.toList ++ rest }) ∨
    (∃ (q : Addr) (st₀ t T' : State) (L : List Loc) (E : String) (ce : Cell), st₀.heap = H ∧ Stand p l e R s m args below meth c T' (locs ++ L) (cells + mc) (slots + ms) ∧ (∀ z ∈ L, free z.base) ∧ T'.heap = t.heap ∧ T'.vm = t.vm ∧ XC E st₀ t ∧ t.heap[q]? = some ce ∧ ce.vm = .none ∧ s.vm.findClass E = some ce.cls ∧
      Steps p.tables e below (T.setTop g) ((T'.setTop { g with stack := rest }).pushFrame (.throwing q)))
def vx_X {S : Type} (px : S → Prop) (B : String → S → State → Prop) (A : Nat → Prop) : String → State → State → Prop := fun E st t => ∃ u : S, px u ∧ B E u t ∧ va_F A st t
section Runs
variable {p : Program} {l : Launch} {e : Env} {R : Room} {s : State} {m : MethodId} {args : Array Value} {below : List Frame} {meth : Method} {c : Code} {H : Heap} {locs : List Loc} {cells slots : Nat}
variable {y : MethodName} {bytes cc : ByteArray} {maxL nL mc ms n index : Nat} {ret : Option FieldType} {ws : List Cond} {rm : Room} {Pc : Array Value → State → Prop} {Qc : Array Value → State → Outcome → State → Prop} {XC : String → State → State → Prop} {free : Addr → Prop} {Ts : List Cond} {own C : String} {b : Addr} {As rest : List Value} {g : JFrame}
theorem vx_callBack (cb : CallB R s args own index y bytes maxL ret ws rm mc ms n) (hM : vx_Met l y ws rm Pc Qc XC mc ms free) (hbl : FrameBlind Pc) : vx_Back l R p e below s args y 3 8 (PreOf R mc ms Pc) (PostOf Qc mc ms free) (vx_Post XC mc ms free) := by
  obtain ⟨hrc, hrs, hfr, hlo, hws, hcw, -, hini, -⟩ := cb
  exact vx_back (bytes := bytes) (maxL := maxL) (ret := ret) hM hbl hrc hrs hfr hlo hws hcw (fun a' U hW => word_at hW (Or.inl (by first | rfl | simp [Cond.onTables, Cond.keeps, Cond.steady])) hini)
theorem vx_runV (S : CallFix p m c cc nL s args Ts own) (hM : vx_Met l y ws rm Pc Qc XC mc ms free) (cw : CallW R s args own C index y bytes maxL ret ws rm mc ms n) (hp : PreV s H C b Pc As)
    (hg : g.method = m) (hn : As.length = n) (hsize : g.locals.size = nL) (hstack : g.stack = As.reverse ++ .ref b :: rest) (hW : 2 * g.monitorRoom + (rest.map fun v => v.category).sum ≤ 8) (hdg : decode cc g.pc = .ok (.invokevirtual index, 3)) (hf : cells + mc ≤ R.cells ∧ slots + ms ≤ R.slots) :
    vx_Run p l e R s m args below meth c H locs cells slots mc ms g rest (Qc (Value.ref b :: As).toArray) XC free := by
  have hK : vx_Back l R p e below s args y 3 8 (PreOf R mc ms Pc) (PostOf Qc mc ms free) (vx_Post XC mc ms free) := vx_callBack cw.1 hM hp.1
  obtain ⟨⟨-, -, -, -, -, -, hcode, -, hy, hlen, hl⟩, hin, hse⟩ := cw
  obtain ⟨hx, hb, hml, ho, -⟩ := S
  obtain ⟨-, ⟨cellB, hcB, hoB, hclB⟩, hPc⟩ := hp
  intro T hT X
  rcases vx_callV X hx (C := C) (bytes := bytes) (maxL := maxL) (ret := ret) ho hl hin hse hcode hy hK (by rw [hT]; exact hcB) hoB hclB hg (hsize.trans hml.symm) (argsL := As) (rest := rest) (fun sig h => hn.trans (hlen sig h)) hstack hW (by rw [hb]; exact hdg)
    (fun vm₁ hW₁ => ⟨hf.1, hf.2, hPc (T.setVm vm₁) hT hW₁⟩) with ⟨v, vm₁, ⟨U', l2, c2, s2⟩, hW₁, X', ⟨g', mk, t, L, e1, e2, hq, h1, hL, h2, h3⟩, st⟩ | ⟨q, vm₁, ⟨U', l2, c2, s2⟩, hW₁, X', ⟨g', mk, t, L, E, ce, e1, e2, hq, hce, hcv, hcl, h1, hL, h2, h3⟩, st⟩
  · dsimp only [Pt.U, Pt.locs, Pt.cells, Pt.slots] at X' e1 e2 h1 h2 h3 st
    subst h1; subst h2; subst h3
    exact Or.inl ⟨v, (T.setVm vm₁).calling g' mk (Value.ref b :: As).toArray, t, U', L, hT, X', hL, e1, e2, hq, st⟩
  · dsimp only [Pt.U, Pt.locs, Pt.cells, Pt.slots] at X' e1 e2 h1 h2 h3 st hcl
    subst h1; subst h2; subst h3
    exact Or.inr ⟨q, (T.setVm vm₁).calling g' mk (Value.ref b :: As).toArray, t, U', L, E, ce, hT, X', hL, e1, e2, hq, hce, hcv, vx_cls hW₁ hcl, st⟩
theorem vx_runS (S : CallFix p m c cc nL s args Ts own) (hM : vx_Met l y ws rm Pc Qc XC mc ms free) (cw : CallB R s args own index y bytes maxL ret ws rm mc ms n ∧ (Cond.static y).before args s = true) (hp : PreS s H Pc As)
    (hg : g.method = m) (hn : As.length = n) (hsize : g.locals.size = nL) (hstack : g.stack = As.reverse ++ rest) (hW : 2 * g.monitorRoom + (rest.map fun v => v.category).sum ≤ 8) (hdg : decode cc g.pc = .ok (.invokestatic index, 3)) (hf : cells + mc ≤ R.cells ∧ slots + ms ≤ R.slots) :
    vx_Run p l e R s m args below meth c H locs cells slots mc ms g rest (Qc As.toArray) XC free := by
  have hK : vx_Back l R p e below s args y 3 8 (PreOf R mc ms Pc) (PostOf Qc mc ms free) (vx_Post XC mc ms free) := vx_callBack cw.1 hM hp.1
  obtain ⟨⟨-, -, -, -, -, -, hcode, hini, hy, hlen, hl⟩, hstt⟩ := cw
  obtain ⟨hx, hb, hml, ho, -⟩ := S
  intro T hT X
  rcases vx_callS X hx (bytes := bytes) (maxL := maxL) (ret := ret) ho hl hstt hini hcode hy hK hg (hsize.trans hml.symm) (argsL := As) (rest := rest) (fun sig h => hn.trans (hlen sig h)) hstack hW (by rw [hb]; exact hdg)
    (fun vm₁ hW₁ => ⟨hf.1, hf.2, hp.2 (T.setVm vm₁) hT hW₁⟩) with ⟨v, vm₁, ⟨U', l2, c2, s2⟩, hW₁, X', ⟨g', mk, t, L, e1, e2, hq, h1, hL, h2, h3⟩, st⟩ | ⟨q, vm₁, ⟨U', l2, c2, s2⟩, hW₁, X', ⟨g', mk, t, L, E, ce, e1, e2, hq, hce, hcv, hcl, h1, hL, h2, h3⟩, st⟩
  · dsimp only [Pt.U, Pt.locs, Pt.cells, Pt.slots] at X' e1 e2 h1 h2 h3 st
    subst h1; subst h2; subst h3
    exact Or.inl ⟨v, (T.setVm vm₁).calling g' mk As.toArray, t, U', L, hT, X', hL, e1, e2, hq, st⟩
  · dsimp only [Pt.U, Pt.locs, Pt.cells, Pt.slots] at X' e1 e2 h1 h2 h3 st hcl
    subst h1; subst h2; subst h3
    exact Or.inr ⟨q, (T.setVm vm₁).calling g' mk As.toArray, t, U', L, E, ce, hT, X', hL, e1, e2, hq, hce, hcv, vx_cls hW₁ hcl, st⟩
end Runs
section Rows
variable {p : Program} {l : Launch} {e : Env} {R : Room} {s : State} {m : MethodId} {args : Array Value} {below : List Frame} {meth : Method} {c : Code} {H : Heap} {locs : List Loc} {cells slots : Nat} {Q : State → Prop}
variable {mc ms : Nat} {free : Addr → Prop} {A0 A1 : Nat → Prop} {H0 : Heap} {a : Array Value} {pc : Nat} {ls : Array Slot} {st0 rest : List Value}
theorem vx_keep {st₀ t T' : State} {L : List Loc} (h0 : st₀.heap = H) (e1 : T'.heap = t.heap) (hS : va_S A0 H0 H locs) (hA : ∀ q, q < H.size → A1 q → A0 q) (hf : ∀ q, free q → A0 q) (hL : ∀ q ∈ L, free q.base) (hF : va_F A1 st₀ t) :
    H.size ≤ T'.heap.size ∧ (∀ q : Nat, q < H.size → ¬ A1 q → T'.heap[q]? = H[q]?) ∧ va_S A0 H0 T'.heap (locs ++ L) := by
  obtain ⟨hz, hk⟩ := hF
  rw [h0] at hz hk
  exact ⟨by rw [e1]; exact hz, fun q h1 h2 => by rw [e1]; exact hk q h1 h2,
    ⟨Nat.le_trans hS.1 (by rw [e1]; exact hz), fun q h1 h2 => by rw [e1, hk q (Nat.lt_of_lt_of_le h1 hS.1) (fun z => h2 (hA q (Nat.lt_of_lt_of_le h1 hS.1) z))]; exact hS.2.1 q h1 h2, fun q hq => by
      rcases List.mem_append.mp hq with h | h
      · exact hS.2.2 q h
      · exact hf _ (hL q h)⟩⟩
theorem vx_calli {S SX : Type} {post : Int32 → S → Prop} {px : SX → Prop} {B : S → State → Prop} {BX : String → SX → State → Prop} {AX : Nat → Prop} (hr : vx_Run p l e R s m args below meth c H locs cells slots mc ms (F0 m pc ls st0) rest (va_Qi post B A1 a) (vx_X px BX AX) free) (hS : va_S A0 H0 H locs) (hA : ∀ q, q < H.size → A1 q → A0 q) (hf : ∀ q, free q → A0 q) (hAX : ∀ q, q < H.size → AX q → A0 q)
    (kx : ∀ (E : String) (ce : Cell) (q9 : Addr) (u : SX) (t : State) (H1 : Heap) (locs1 : List Loc), t.heap = H1 → s.vm.Alike t.vm → px u → BX E u t → H.size ≤ H1.size → (∀ q : Nat, q < H.size → ¬ AX q → H1[q]? = H[q]?) → va_S A0 H0 H1 locs1 → H1[q9]? = some ce → ce.vm = .none → s.vm.findClass E = some ce.cls → vx_W p l e R s m args below meth c H1 locs1 (cells + mc) (slots + ms) Q (F0 m pc ls rest) q9)
    (kk : ∀ (r : Int32) (u : S) (t : State) (H1 : Heap) (locs1 : List Loc), t.heap = H1 → s.vm.Alike t.vm → post r u → B u t → H.size ≤ H1.size → (∀ q : Nat, q < H.size → ¬ A1 q → H1[q]? = H[q]?) → va_S A0 H0 H1 locs1 → W p l e R s m args below meth c H1 locs1 (cells + mc) (slots + ms) Q (F0 m (pc + 3) ls (.int r :: rest))) : W p l e R s m args below meth c H locs cells slots Q (F0 m pc ls st0) := by
  intro T hT X
  rcases hr T hT X with ⟨v, st₀, t, T', L, h0, X', hL, e1, e2, ⟨⟨r, u, hv, hp, hb⟩, hF⟩, st⟩ | ⟨q, st₀, t, T', L, E, ce, h0, X', hL, e1, e2, ⟨u, hp, hb, hF⟩, hce, hcv, hcl, st⟩
  · cases hv
    obtain ⟨k1, k2, k3⟩ := vx_keep h0 e1 hS hA hf hL hF
    obtain ⟨t2, a1, b1⟩ := kk r u t T'.heap (locs ++ L) e1.symm (by rw [← e2]; exact X'.warmed.alike) hp hb k1 k2 k3 T' rfl X'
    exact ⟨t2, st t2 a1, b1⟩
  · obtain ⟨k1, k2, k3⟩ := vx_keep h0 e1 hS hAX hf hL hF
    obtain ⟨t2, a1, b1⟩ := kx E ce q u t T'.heap (locs ++ L) e1.symm (by rw [← e2]; exact X'.warmed.alike) hp hb k1 k2 k3 (by rw [e1]; exact hce) hcv hcl T' rfl X'
    exact ⟨t2, st.trans a1, b1⟩
theorem vx_calll {S SX : Type} {post : Int64 → S → Prop} {px : SX → Prop} {B : S → State → Prop} {BX : String → SX → State → Prop} {AX : Nat → Prop} (hr : vx_Run p l e R s m args below meth c H locs cells slots mc ms (F0 m pc ls st0) rest (va_Ql post B A1 a) (vx_X px BX AX) free) (hS : va_S A0 H0 H locs) (hA : ∀ q, q < H.size → A1 q → A0 q) (hf : ∀ q, free q → A0 q) (hAX : ∀ q, q < H.size → AX q → A0 q)
    (kx : ∀ (E : String) (ce : Cell) (q9 : Addr) (u : SX) (t : State) (H1 : Heap) (locs1 : List Loc), t.heap = H1 → s.vm.Alike t.vm → px u → BX E u t → H.size ≤ H1.size → (∀ q : Nat, q < H.size → ¬ AX q → H1[q]? = H[q]?) → va_S A0 H0 H1 locs1 → H1[q9]? = some ce → ce.vm = .none → s.vm.findClass E = some ce.cls → vx_W p l e R s m args below meth c H1 locs1 (cells + mc) (slots + ms) Q (F0 m pc ls rest) q9)
    (kk : ∀ (r : Int64) (u : S) (t : State) (H1 : Heap) (locs1 : List Loc), t.heap = H1 → s.vm.Alike t.vm → post r u → B u t → H.size ≤ H1.size → (∀ q : Nat, q < H.size → ¬ A1 q → H1[q]? = H[q]?) → va_S A0 H0 H1 locs1 → W p l e R s m args below meth c H1 locs1 (cells + mc) (slots + ms) Q (F0 m (pc + 3) ls (.long r :: rest))) : W p l e R s m args below meth c H locs cells slots Q (F0 m pc ls st0) := by
  intro T hT X
  rcases hr T hT X with ⟨v, st₀, t, T', L, h0, X', hL, e1, e2, ⟨⟨r, u, hv, hp, hb⟩, hF⟩, st⟩ | ⟨q, st₀, t, T', L, E, ce, h0, X', hL, e1, e2, ⟨u, hp, hb, hF⟩, hce, hcv, hcl, st⟩
  · cases hv
    obtain ⟨k1, k2, k3⟩ := vx_keep h0 e1 hS hA hf hL hF
    obtain ⟨t2, a1, b1⟩ := kk r u t T'.heap (locs ++ L) e1.symm (by rw [← e2]; exact X'.warmed.alike) hp hb k1 k2 k3 T' rfl X'
    exact ⟨t2, st t2 a1, b1⟩
  · obtain ⟨k1, k2, k3⟩ := vx_keep h0 e1 hS hAX hf hL hF
    obtain ⟨t2, a1, b1⟩ := kx E ce q u t T'.heap (locs ++ L) e1.symm (by rw [← e2]; exact X'.warmed.alike) hp hb k1 k2 k3 (by rw [e1]; exact hce) hcv hcl T' rfl X'
    exact ⟨t2, st.trans a1, b1⟩
theorem vx_callf {S SX : Type} {post : UInt32 → S → Prop} {px : SX → Prop} {B : S → State → Prop} {BX : String → SX → State → Prop} {AX : Nat → Prop} (hr : vx_Run p l e R s m args below meth c H locs cells slots mc ms (F0 m pc ls st0) rest (va_Qf post B A1 a) (vx_X px BX AX) free) (hS : va_S A0 H0 H locs) (hA : ∀ q, q < H.size → A1 q → A0 q) (hf : ∀ q, free q → A0 q) (hAX : ∀ q, q < H.size → AX q → A0 q)
    (kx : ∀ (E : String) (ce : Cell) (q9 : Addr) (u : SX) (t : State) (H1 : Heap) (locs1 : List Loc), t.heap = H1 → s.vm.Alike t.vm → px u → BX E u t → H.size ≤ H1.size → (∀ q : Nat, q < H.size → ¬ AX q → H1[q]? = H[q]?) → va_S A0 H0 H1 locs1 → H1[q9]? = some ce → ce.vm = .none → s.vm.findClass E = some ce.cls → vx_W p l e R s m args below meth c H1 locs1 (cells + mc) (slots + ms) Q (F0 m pc ls rest) q9)
    (kk : ∀ (r : UInt32) (u : S) (t : State) (H1 : Heap) (locs1 : List Loc), t.heap = H1 → s.vm.Alike t.vm → post r u → B u t → H.size ≤ H1.size → (∀ q : Nat, q < H.size → ¬ A1 q → H1[q]? = H[q]?) → va_S A0 H0 H1 locs1 → W p l e R s m args below meth c H1 locs1 (cells + mc) (slots + ms) Q (F0 m (pc + 3) ls (.float r :: rest))) : W p l e R s m args below meth c H locs cells slots Q (F0 m pc ls st0) := by
  intro T hT X
  rcases hr T hT X with ⟨v, st₀, t, T', L, h0, X', hL, e1, e2, ⟨⟨r, u, hv, hp, hb⟩, hF⟩, st⟩ | ⟨q, st₀, t, T', L, E, ce, h0, X', hL, e1, e2, ⟨u, hp, hb, hF⟩, hce, hcv, hcl, st⟩
  · cases hv
    obtain ⟨k1, k2, k3⟩ := vx_keep h0 e1 hS hA hf hL hF
    obtain ⟨t2, a1, b1⟩ := kk r u t T'.heap (locs ++ L) e1.symm (by rw [← e2]; exact X'.warmed.alike) hp hb k1 k2 k3 T' rfl X'
    exact ⟨t2, st t2 a1, b1⟩
  · obtain ⟨k1, k2, k3⟩ := vx_keep h0 e1 hS hAX hf hL hF
    obtain ⟨t2, a1, b1⟩ := kx E ce q u t T'.heap (locs ++ L) e1.symm (by rw [← e2]; exact X'.warmed.alike) hp hb k1 k2 k3 (by rw [e1]; exact hce) hcv hcl T' rfl X'
    exact ⟨t2, st.trans a1, b1⟩
theorem vx_calld {S SX : Type} {post : UInt64 → S → Prop} {px : SX → Prop} {B : S → State → Prop} {BX : String → SX → State → Prop} {AX : Nat → Prop} (hr : vx_Run p l e R s m args below meth c H locs cells slots mc ms (F0 m pc ls st0) rest (va_Qd post B A1 a) (vx_X px BX AX) free) (hS : va_S A0 H0 H locs) (hA : ∀ q, q < H.size → A1 q → A0 q) (hf : ∀ q, free q → A0 q) (hAX : ∀ q, q < H.size → AX q → A0 q)
    (kx : ∀ (E : String) (ce : Cell) (q9 : Addr) (u : SX) (t : State) (H1 : Heap) (locs1 : List Loc), t.heap = H1 → s.vm.Alike t.vm → px u → BX E u t → H.size ≤ H1.size → (∀ q : Nat, q < H.size → ¬ AX q → H1[q]? = H[q]?) → va_S A0 H0 H1 locs1 → H1[q9]? = some ce → ce.vm = .none → s.vm.findClass E = some ce.cls → vx_W p l e R s m args below meth c H1 locs1 (cells + mc) (slots + ms) Q (F0 m pc ls rest) q9)
    (kk : ∀ (r : UInt64) (u : S) (t : State) (H1 : Heap) (locs1 : List Loc), t.heap = H1 → s.vm.Alike t.vm → post r u → B u t → H.size ≤ H1.size → (∀ q : Nat, q < H.size → ¬ A1 q → H1[q]? = H[q]?) → va_S A0 H0 H1 locs1 → W p l e R s m args below meth c H1 locs1 (cells + mc) (slots + ms) Q (F0 m (pc + 3) ls (.double r :: rest))) : W p l e R s m args below meth c H locs cells slots Q (F0 m pc ls st0) := by
  intro T hT X
  rcases hr T hT X with ⟨v, st₀, t, T', L, h0, X', hL, e1, e2, ⟨⟨r, u, hv, hp, hb⟩, hF⟩, st⟩ | ⟨q, st₀, t, T', L, E, ce, h0, X', hL, e1, e2, ⟨u, hp, hb, hF⟩, hce, hcv, hcl, st⟩
  · cases hv
    obtain ⟨k1, k2, k3⟩ := vx_keep h0 e1 hS hA hf hL hF
    obtain ⟨t2, a1, b1⟩ := kk r u t T'.heap (locs ++ L) e1.symm (by rw [← e2]; exact X'.warmed.alike) hp hb k1 k2 k3 T' rfl X'
    exact ⟨t2, st t2 a1, b1⟩
  · obtain ⟨k1, k2, k3⟩ := vx_keep h0 e1 hS hAX hf hL hF
    obtain ⟨t2, a1, b1⟩ := kx E ce q u t T'.heap (locs ++ L) e1.symm (by rw [← e2]; exact X'.warmed.alike) hp hb k1 k2 k3 (by rw [e1]; exact hce) hcv hcl T' rfl X'
    exact ⟨t2, st.trans a1, b1⟩
theorem vx_callv {S SX : Type} {post : S → Prop} {px : SX → Prop} {B : S → State → Prop} {BX : String → SX → State → Prop} {AX : Nat → Prop} (hr : vx_Run p l e R s m args below meth c H locs cells slots mc ms (F0 m pc ls st0) rest (va_Qv post B A1 a) (vx_X px BX AX) free) (hS : va_S A0 H0 H locs) (hA : ∀ q, q < H.size → A1 q → A0 q) (hf : ∀ q, free q → A0 q) (hAX : ∀ q, q < H.size → AX q → A0 q)
    (kx : ∀ (E : String) (ce : Cell) (q9 : Addr) (u : SX) (t : State) (H1 : Heap) (locs1 : List Loc), t.heap = H1 → s.vm.Alike t.vm → px u → BX E u t → H.size ≤ H1.size → (∀ q : Nat, q < H.size → ¬ AX q → H1[q]? = H[q]?) → va_S A0 H0 H1 locs1 → H1[q9]? = some ce → ce.vm = .none → s.vm.findClass E = some ce.cls → vx_W p l e R s m args below meth c H1 locs1 (cells + mc) (slots + ms) Q (F0 m pc ls rest) q9)
    (kk : ∀ (u : S) (t : State) (H1 : Heap) (locs1 : List Loc), t.heap = H1 → s.vm.Alike t.vm → post u → B u t → H.size ≤ H1.size → (∀ q : Nat, q < H.size → ¬ A1 q → H1[q]? = H[q]?) → va_S A0 H0 H1 locs1 → W p l e R s m args below meth c H1 locs1 (cells + mc) (slots + ms) Q (F0 m (pc + 3) ls (rest))) : W p l e R s m args below meth c H locs cells slots Q (F0 m pc ls st0) := by
  intro T hT X
  rcases hr T hT X with ⟨v, st₀, t, T', L, h0, X', hL, e1, e2, ⟨⟨u, hv, hp, hb⟩, hF⟩, st⟩ | ⟨q, st₀, t, T', L, E, ce, h0, X', hL, e1, e2, ⟨u, hp, hb, hF⟩, hce, hcv, hcl, st⟩
  · cases hv
    obtain ⟨k1, k2, k3⟩ := vx_keep h0 e1 hS hA hf hL hF
    obtain ⟨t2, a1, b1⟩ := kk u t T'.heap (locs ++ L) e1.symm (by rw [← e2]; exact X'.warmed.alike) hp hb k1 k2 k3 T' rfl X'
    exact ⟨t2, st t2 a1, b1⟩
  · obtain ⟨k1, k2, k3⟩ := vx_keep h0 e1 hS hAX hf hL hF
    obtain ⟨t2, a1, b1⟩ := kx E ce q u t T'.heap (locs ++ L) e1.symm (by rw [← e2]; exact X'.warmed.alike) hp hb k1 k2 k3 (by rw [e1]; exact hce) hcv hcl T' rfl X'
    exact ⟨t2, st.trans a1, b1⟩
/-- caught by the row x of this method's table; the rows ahead don't take it -/
theorem vx_catch {own name : String} {E : String} {ce : Cell} {q : Addr} (hown : s.vm.findClass own = some m.cls) (pre : List ExceptionTableEntry) (x : ExceptionTableEntry) (suf : List ExceptionTableEntry) (hsplit : c.exceptionTable.toList = pre ++ x :: suf)
    (hpass : ∀ z ∈ pre, covers z pc = false ∨ (z.catchType ≠ 0 ∧ ∃ nm : String, (Cond.classLink own z.catchType nm).before args s = true ∧ va_Nc E nm s)) (hx : covers x pc = true) (h0 : x.catchType ≠ 0)
    (hlink : (Cond.classLink own x.catchType name).before args s = true) (hcast : (Cond.castable E name).before args s = true) (hcell : H[q]? = some ce) (hv : ce.vm = .none) (hcl : s.vm.findClass E = some ce.cls)
    (kk : W p l e R s m args below meth c H locs cells slots Q (F0 m x.handlerPc ls [.ref q])) : vx_W p l e R s m args below meth c H locs cells slots Q (F0 m pc ls rest) q := by
  intro T hT X
  have hpl : e.platform.magicAccessors = ({} : Platform).magicAccessors := by rw [X.admits.platform]
  obtain ⟨c3, c4, hc3, hc4, hasg⟩ := Cond.castable_spec hcast
  cases Option.some.inj (hc3.symm.trans hcl)
  obtain ⟨c5, hc5, hcl5⟩ := Cond.classLink_spec hown hlink e.platform hpl
  cases Option.some.inj (hc4.symm.trans hc5)
  obtain ⟨vm', X', st⟩ := X.thenCaughtThrough q (g := F0 m pc ls rest) rfl (Steps.refl _) (by rw [hT]; exact hcell) (by rw [hv]; rfl) (by obtain ⟨k9, h9, -⟩ := Vm.findClass_spec hcl; exact ⟨k9, h9⟩) pre x suf hsplit
    (fun z hz => by
      rcases hpass z hz with h | ⟨hz0, nm, hl1, hn1⟩
      · exact Or.inl h
      · obtain ⟨c6, hc6, hcl6⟩ := Cond.classLink_spec hown hl1 e.platform hpl
        obtain ⟨a8, b8, h1, h2, h3⟩ := hn1
        cases Option.some.inj (h1.symm.trans hcl)
        cases Option.some.inj (h2.symm.trans hc6)
        exact Or.inr ⟨hz0, _, hcl6, h3⟩) hx (Or.inr ⟨h0, c4, hcl5, hasg⟩)
  obtain ⟨t, a1, b1⟩ := kk (T.setVm vm') hT X'
  exact ⟨t, st.trans a1, b1⟩
end Rows
section Ends
variable {p : Program} {l : Launch} {e : Env} {R : Room} {s : State} {m : MethodId} {args : Array Value} {below : List Frame} {meth : Method} {c : Code} {H : Heap} {locs : List Loc} {cells slots : Nat} {Q : State → Prop}
variable {mc ms : Nat} {free : Addr → Prop} {A0 A1 : Nat → Prop} {H0 : Heap} {a : Array Value} {ls : Array Slot} {st0 rest : List Value}
variable {Qc : Array Value → State → Outcome → State → Prop} {XC : String → State → State → Prop}
/-- what a body that may throw owes at its end -/
def vx_MQ (below : List Frame) (Qc : Array Value → State → Outcome → State → Prop) (XC : String → State → State → Prop) (a : Array Value) (s : State) (mc ms : Nat) (free : Addr → Prop) : State → Prop := fun t =>
  ∃ o, t.status = .running ∧ Ended t below o ∧ vx_Q Qc XC mc ms free a s o t
theorem vx_ret {g : JFrame} {mc ms : Nat} (k : W p l e R s m args below meth c H locs cells slots (MQ below Qc args s mc ms free) g) : W p l e R s m args below meth c H locs cells slots (vx_MQ below Qc XC args s mc ms free) g := by
  intro T hT X
  obtain ⟨t, a1, o, b1, b2, b3, b4⟩ := k T hT X
  exact ⟨t, a1, o, b1, b2, Or.inl ⟨b3, b4⟩⟩
/-- not caught here: it goes on to the caller -/
theorem vx_widen {g : JFrame} {q : Addr} {k n : Nat} (h1 : cells ≤ k) (h2 : slots ≤ n) (kk : vx_W p l e R s m args below meth c H locs k n Q g q) : vx_W p l e R s m args below meth c H locs cells slots Q g q := fun T hT X => kk T hT (stand_widen X h1 h2)
theorem vx_out {pc : Nat} {E : String} {ce : Cell} {q : Addr} {mc ms : Nat} (hout : ∀ x ∈ c.exceptionTable.toList, covers x pc = false) (hlocks : meth.locks = false) (hcell : H[q]? = some ce) (hv : ce.vm = .none) (hcl : s.vm.findClass E = some ce.cls)
    (hx : ∀ t : State, t.heap = H → s.vm.Alike t.vm → XC E s t) (hf : ∀ z ∈ locs, free z.base) (hc : cells ≤ mc) (hs : slots ≤ ms) :
    vx_W p l e R s m args below meth c H locs cells slots (vx_MQ below Qc XC args s mc ms free) (F0 m pc ls rest) q := by
  intro T hT X
  obtain ⟨st1, hrun, hend, hW, hsm⟩ := X.leaveThrown q (g := F0 m pc ls rest) rfl rfl rfl hout hlocks
  have hcell9 : (T.setFrames (.throwing q :: below)).heap[q]? = some ce := by
    show T.heap[q]? = some ce
    rw [hT]; exact hcell
  exact ⟨_, st1, .threw q, hrun, hend, Or.inr ⟨q, rfl, E, ce, locs, hx _ hT hW.alike, hcell9, hv, hcl, hW, hsm.mono hc hs, hf⟩⟩
theorem vx_frame {U : State} {k n : Nat} (h : s.sameButNew ({ U with vm := s.vm } : State) locs k n) : s.heap.size ≤ U.heap.size ∧ ∀ q : Nat, q < s.heap.size → (∀ z ∈ locs, z.base ≠ q) → U.heap[q]? = s.heap[q]? := by
  obtain ⟨-, h2, -, -, -, h6⟩ := h
  refine ⟨h2, fun q hq hz => ?_⟩
  obtain ⟨c9, e1, e2, e3, e4⟩ := h6 q _ (Array.getElem?_eq_getElem hq)
  have hs : c9.slots = (s.heap[q]).slots := Array.ext_getElem? fun i => e4 i fun hm => hz _ hm rfl
  have h9 : c9 = s.heap[q] := by
    rw [hs] at e2
    exact e2
  have e5 : U.heap[q]? = some c9 := e1
  rw [e5, h9, Array.getElem?_eq_getElem hq]
/-- the words of a throw but the four that speak of the heap -/
def vx_no (w : Cond) : Bool := decide (w ≠ .isRef (.static Bundle.tN "UNASSIGNED_STACK" Bundle.steD)) && decide (w ≠ .isRef (.static Bundle.tN "SUPPRESSED_SENTINEL" Bundle.listD)) && decide (w ≠ .laysStatic Bundle.tN "UNASSIGNED_STACK" Bundle.steD) && decide (w ≠ .laysStatic Bundle.tN "SUPPRESSED_SENTINEL" Bundle.listD)
def vx_at0 (own : String) (ic : Nat) (X : String) (names : List String) : List Cond := (Bundle.ownAtoms0 own ic X names).filter vx_no
def vx_atS (own : String) (ic : Nat) (X : String) (names : List String) : List Cond := (Bundle.ownAtoms own ic X names).filter vx_no
/-- a word that the tables alone decide, or a good one -/
def vx_ot (w : Cond) : Bool := w.onTables || goodWord w
theorem vx_ot_at {args a' : Array Value} {s U : State} {w : Cond} (hW : s.WarmedH U.vm) (hvm : s.vm = U.vm) (hg : vx_ot w = true) (h : w.before args s = true) : w.before a' U = true := by
  simp only [vx_ot, Bool.or_eq_true] at hg
  rcases hg with hg | hg
  · exact va_tabs hg hvm h
  · exact word_at hW (good_of_word hg) h
/-- a list's words: the good ones out of the method's own list, the others by premises of their own -/
theorem vx_hat {args : Array Value} {s : State} {L B : List Cond} (h1 : ∀ w ∈ L.filter goodWord, w.before args s = true) (h2 : ∀ w ∈ L.filter (fun w => !goodWord w), w ∈ B) (h3 : ∀ w ∈ B, w.before args s = true) : ∀ w ∈ L, w.before args s = true := by
  intro w hw
  by_cases g : goodWord w = true
  · exact h1 w (List.mem_filter.mpr ⟨hw, g⟩)
  · refine h3 w (h2 w (List.mem_filter.mpr ⟨hw, ?_⟩))
    show (!goodWord w) = true
    cases hgw : goodWord w
    · rfl
    · exact absurd hgw g
theorem vx_c {args : Array Value} {s : State} {w : Cond} {B : List Cond} (h : w.before args s = true) (t : ∀ w ∈ B, w.before args s = true) : ∀ w' ∈ w :: B, w'.before args s = true := fun w' h' => (List.mem_cons.mp h').elim (fun e => by rw [e]; exact h) (t w')
theorem vx_n {args : Array Value} {s : State} : ∀ w ∈ ([] : List Cond), w.before args s = true := fun _ h => nomatch h
theorem vx_own {args : Array Value} {s : State} {L : List Cond} (h1 : ∀ w ∈ L.filter vx_no, w.before args s = true)
    (hU : (Cond.isRef (.static Bundle.tN "UNASSIGNED_STACK" Bundle.steD)).before args s = true) (hN : (Cond.isRef (.static Bundle.tN "SUPPRESSED_SENTINEL" Bundle.listD)).before args s = true)
    (lU : (Cond.laysStatic Bundle.tN "UNASSIGNED_STACK" Bundle.steD).before args s = true) (lN : (Cond.laysStatic Bundle.tN "SUPPRESSED_SENTINEL" Bundle.listD).before args s = true) : ∀ w ∈ L, w.before args s = true := by
  intro w hw
  by_cases e1 : w = .isRef (.static Bundle.tN "UNASSIGNED_STACK" Bundle.steD)
  · rw [e1]; exact hU
  · by_cases e2 : w = .isRef (.static Bundle.tN "SUPPRESSED_SENTINEL" Bundle.listD)
    · rw [e2]; exact hN
    · by_cases e3 : w = .laysStatic Bundle.tN "UNASSIGNED_STACK" Bundle.steD
      · rw [e3]; exact lU
      · by_cases e4 : w = .laysStatic Bundle.tN "SUPPRESSED_SENTINEL" Bundle.listD
        · rw [e4]; exact lN
        · exact h1 w (List.mem_filter.mpr ⟨hw, by unfold vx_no; rw [decide_eq_true e1, decide_eq_true e2, decide_eq_true e3, decide_eq_true e4]; rfl⟩)
/-- where a static field lies, its class's statics cell in H -/
def vx_L (C n d : String) (A : Nat → Prop) (U : State) (H : Heap) : Prop := ∃ (c : ClassId) (k : Class) (i : Nat) (f : Field) (a : Nat) (cell : Cell), U.vm.findClass C = some c ∧ U.fieldFound? C n d = some (c, k, i, f) ∧ f.isStatic = true ∧ k.statics = some a ∧ H[a]? = some cell ∧ cell.vm.isStatics = true ∧ cell.cls = c ∧ f.slot < cell.slots.size ∧ k.staticTypes[f.slot]? = some f.type ∧ ¬ A a
theorem vx_L.moved {C n d : String} {A : Nat → Prop} {u U : State} {H : Heap} (hvm : u.vm.Alike U.vm) (h : vx_L C n d A u H) : vx_L C n d A U H := by
  obtain ⟨c, k, i, f, a, cell, h1, h2, h3, h4, h5, h6, h7, h8, h9, h10⟩ := h
  obtain ⟨k', hi', he⟩ := State.fieldFound?_setVm hvm h2
  exact ⟨c, k', i, f, a, cell, by rw [hvm.findClass]; exact h1, hi', h3, by rw [he]; exact h4, h5, h6, h7, h8, by rw [he]; exact h9, h10⟩
theorem vx_L.kept {C n d : String} {A : Nat → Prop} {U : State} {H H1 : Heap} (h : vx_L C n d A U H) (hq : ∀ a : Nat, a < H.size → ¬ A a → H1[a]? = H[a]?) : vx_L C n d A U H1 := by
  obtain ⟨c, k, i, f, a, cell, h1, h2, h3, h4, h5, h6, h7, h8, h9, h10⟩ := h
  exact ⟨c, k, i, f, a, cell, h1, h2, h3, h4, by rw [hq a (Array.getElem?_eq_some_iff.mp h5).1 h10]; exact h5, h6, h7, h8, h9, h10⟩
theorem vx_L.narrow {C n d : String} {A B : Nat → Prop} {U : State} {H : Heap} (h : vx_L C n d A U H) (hAB : ∀ q, B q → A q) : vx_L C n d B U H := by
  obtain ⟨c, k, i, f, a, cell, h1, h2, h3, h4, h5, h6, h7, h8, h9, h10⟩ := h
  exact ⟨c, k, i, f, a, cell, h1, h2, h3, h4, h5, h6, h7, h8, h9, fun z => h10 (hAB _ z)⟩
theorem vx_L.word {C n d : String} {A : Nat → Prop} {s : State} {args : Array Value} (h : vx_L C n d A s s.heap) : (Cond.laysStatic C n d).before args s = true := by
  obtain ⟨c, k, i, f, a, cell, h1, h2, h3, h4, h5, h6, h7, h8, h9, -⟩ := h
  show (Cond.laysStatic C n d).holds args s none s [] = true
  exact Cond.laysStatic_of h1 h2 h3 h4 h5 h6 h7 h8 h9
/-- .. and what it holds: null or some reference -/
def vx_Zq (C n d : String) (A : Nat → Prop) (U : State) (H : Heap) : Prop := va_Zq C n d A U H ∧ vx_L C n d A U H
theorem vx_Zq.moved {C n d : String} {A : Nat → Prop} {u U : State} {H : Heap} (hvm : u.vm.Alike U.vm) (h : vx_Zq C n d A u H) : vx_Zq C n d A U H := ⟨va_Zq.moved hvm h.1, vx_L.moved hvm h.2⟩
theorem vx_Zq.kept {C n d : String} {A : Nat → Prop} {U : State} {H H1 : Heap} (h : vx_Zq C n d A U H) (hq : ∀ a : Nat, a < H.size → ¬ A a → H1[a]? = H[a]?) : vx_Zq C n d A U H1 := ⟨va_Zq.kept h.1 hq, vx_L.kept h.2 hq⟩
theorem vx_Zq.narrow {C n d : String} {A B : Nat → Prop} {U : State} {H : Heap} (h : vx_Zq C n d A U H) (hAB : ∀ q, B q → A q) : vx_Zq C n d B U H := ⟨va_Zq.narrow h.1 hAB, vx_L.narrow h.2 hAB⟩
theorem vx_Zqof {args : Array Value} {s : State} {C n d : String} {A : Nat → Prop} (hl : (Cond.laysStatic C n d).before args s = true) (hini : (Cond.initialized C).before args s = true) (h : (Cond.isRef (.static C n d)).before args s = true) (hA : ∀ a : Nat, a < s.heap.size → ¬ A a) : vx_Zq C n d A s s.heap := by
  refine ⟨va_Zqof hl hini h hA, ?_⟩
  obtain ⟨c, k, i, f, a, cell, h1, h2, h3, h4, h5, h6, h7, h8, h9⟩ := Cond.laysStatic_spec hl
  exact ⟨c, k, i, f, a, cell, h1, h2, h3, h4, h5, h6, h7, h8, h9, hA a (Array.getElem?_eq_some_iff.mp h5).1⟩
theorem vx_isRef {C n d : String} {v : Value} {A : Nat → Prop} {s : State} {args : Array Value} (h : va_Z C n d v A s s.heap) (hv : v.isRef = true) : (Cond.isRef (.static C n d)).before args s = true := by
  obtain ⟨cf, kf, fi, f, a, cell, h1, h2, h3, h4, h5, h6, h7, -⟩ := h
  have he : (Term.static C n d).eval args s none [] s = some v := by
    simp [Term.eval, State.fieldNamed?, h1, h2, h4, h5, h6, h7]
  simp only [Cond.before, Cond.holds, Cond.value, he]
  cases v <;> simp_all [Value.isRef]
theorem vx_isRefq {C n d : String} {A : Nat → Prop} {s : State} {args : Array Value} (h : va_Zq C n d A s s.heap) : (Cond.isRef (.static C n d)).before args s = true := by
  rcases h with h | ⟨t, h⟩
  · exact vx_isRef h rfl
  · exact vx_isRef h rfl
/-- the same frame, seen from here: as if the method were called anew in this heap -/
theorem vx_rebase {T : State} (X : Stand p l e R s m args below meth c T locs cells slots) {R' : Room} (hf : R'.frames ≤ R.frames) (hl : R'.locals ≤ R.locals) (hc : cells + R'.cells ≤ R.cells) (hs : slots + R'.slots ≤ R.slots) :
    Stand p l e R' ((T.setVm s.vm).setFrames (.invoking m args :: below)) m args below meth c T [] 0 0 := by
  have htop : (T.setVm s.vm).topJava?.isSome := X.here.top
  have hF : ((T.setVm s.vm).setFrames (.invoking m args :: below)).frames = .invoking m args :: below := State.frames_setFrames _ (State.cur_lt_of_top htop)
  obtain ⟨g₀, hg0⟩ := Option.isSome_iff_exists.mp htop
  obtain ⟨r, hr⟩ := State.topJava?_eq_some.mp hg0
  have hl9 : e.platform.stackLimits (T.setVm s.vm).me = e.platform.stackLimits s.me := X.limits
  have hb9 : (T.setVm s.vm).me.stackBytes = s.me.stackBytes := X.bytes
  refine ⟨X.admits, X.cas, X.clock, hF, ?_, X.hears, X.method, X.code, X.here, X.tail, X.warmed, ?_, ?_, ?_⟩
  · have h := X.room
    have hU : ((T.setVm s.vm).setFrames (.invoking m args :: below)).localsInUse = s.localsInUse := by
      rw [State.localsInUse_invoking hF (meth := meth) (c := c) X.method X.code, State.localsInUse_invoking X.frames X.method X.code]
    simp only [State.hasRoom, Bool.and_eq_true, decide_eq_true_eq] at h ⊢
    obtain ⟨⟨⟨⟨h1, h2, h3, h4, h5, h6⟩, h7⟩, h8⟩, h9⟩ := h
    rw [X.frames, List.length_cons] at h2 h3
    have q1 := X.heapSize
    have q2 := X.used
    simp only [hF, hU, List.length_cons, State.stackLimits_setFrames, State.stackBytes_setFrames, hl9, hb9]
    refine ⟨⟨⟨⟨by omega, by omega, by omega, by omega, by omega, h6⟩, ?_⟩, ?_⟩, X.book⟩
    · show T.heap.size + R'.cells ≤ e.platform.maxCells
      omega
    · show T.slotsUsed + R'.slots ≤ e.platform.maxSlots
      omega
  · rw [State.stackLimits_setFrames]; rfl
  · rw [State.stackBytes_setFrames]; rfl
  · refine ⟨?_, Nat.le_refl _, Nat.le_refl _, ?_, ?_, fun a c9 h9 => ⟨c9, h9, rfl, rfl, fun _ _ => rfl⟩⟩
    · obtain ⟨t, ht, -⟩ := State.frames_cons hr
      show T.setVm s.vm = { ((T.setVm s.vm).setFrames (.invoking m args :: below)).setFrames (T.setVm s.vm).frames with heap := T.heap, slotsUsed := T.slotsUsed }
      rw [State.setFrames_setFrames, State.setFrames_self ht]
      rfl
    · show T.slotsUsed = T.slotsUsed + ((T.heap.toList.drop T.heap.size).map (·.slots.size)).sum
      rw [List.drop_eq_nil_of_le (Nat.le_of_eq Array.length_toList)]
      rfl
    · show ((T.heap.toList.drop T.heap.size).map (·.slots.size)).sum ≤ 0
      rw [List.drop_eq_nil_of_le (Nat.le_of_eq Array.length_toList)]
      exact Nat.le_refl _
/-- 'throw new E()': new; dup; invokespecial; athrow -/
theorem vx_throw0 {cc : ByteArray} {pc : Nat} (hexec : p.tables.exec = Jvm.exec) (hb : c.code = cc) (hl : l.stackTraces = false) {own cls : String} {names : List String} {ik ic mc ms : Nat} {A : Nat → Prop}
    (hown : s.vm.findClass own = some m.cls) (hcls : Bundle.fit cls = true) (hnames : ∀ n ∈ names, Bundle.fit n = true)
    (hk : (Cond.classLink own ik cls).before args s = true) (hini : (Cond.initialized cls).before args s = true) (hat : ∀ w ∈ vx_at0 own ic cls names, w.before args s = true)
    (hgood : ∀ w ∈ Cond.classLink own ik cls :: Cond.initialized cls :: vx_at0 own ic cls names, vx_ot w = true)
    (hU : vx_Zq Bundle.tN "UNASSIGNED_STACK" Bundle.steD A s s.heap) (hN : vx_Zq Bundle.tN "SUPPRESSED_SENTINEL" Bundle.listD A s s.heap) (hS : va_S A s.heap H locs) (hsize : ls.size = c.maxLocals)
    (d0 : decode cc pc = .ok (.new ik, 3)) (d3 : decode cc (pc + 3) = .ok (.dup, 1)) (d4 : decode cc (pc + 4) = .ok (.invokespecial ic, 3)) (d7 : decode cc (pc + 7) = .ok (.athrow, 1))
    (hout : ∀ x ∈ c.exceptionTable.toList, covers x (pc + 7) = false)
    (hRframes : names.length + 3 < R.frames) (hRlocals : (rest.map fun v => v.category).sum + (13 * (names.length + 1) + 42) ≤ R.locals) (hRcells : cells + 1 ≤ R.cells) (hRslots : slots + 6 ≤ R.slots) (hlocks : meth.locks = false)
    (hx : ∀ t : State, s.vm.Alike t.vm → H.size ≤ t.heap.size → (∀ q : Nat, q < H.size → t.heap[q]? = H[q]?) → XC cls s t)
    (hf : ∀ z ∈ locs, free z.base) (hc : cells + 1 ≤ mc) (hs : slots + 6 ≤ ms) :
    W p l e R s m args below meth c H locs cells slots (vx_MQ below Qc XC args s mc ms free) (F0 m pc ls rest) := by
  intro T hT X
  have htr : e.platform.stackTraces = false := (show e.platform.stackTraces = l.stackTraces by rw [X.admits.platform]).trans hl
  have Y := vx_rebase X (R' := { frames := R.frames, locals := R.locals, cells := 1, slots := 6 }) (Nat.le_refl _) (Nat.le_refl _) hRcells hRslots
  obtain ⟨s', hA⟩ : ∃ z, z = (T.setVm s.vm).setFrames (.invoking m args :: below) := ⟨_, rfl⟩
  rw [← hA] at Y
  have hvm : s'.vm = s.vm := by rw [hA]; rfl
  have hhp : s'.heap = H := by rw [hA]; exact hT
  have hW0 : s.WarmedH s'.vm := by rw [hvm]; exact State.WarmedH.refl s
  have hat' : ∀ w ∈ vx_at0 own ic cls names, w.before args s' = true := fun w hw => vx_ot_at hW0 hvm.symm (hgood w (List.mem_cons_of_mem _ (List.mem_cons_of_mem _ hw))) (hat w hw)
  have hk' : (Cond.classLink own ik cls).before args s' = true := vx_ot_at hW0 hvm.symm (hgood _ List.mem_cons_self) hk
  have hini' : (Cond.initialized cls).before args s' = true := vx_ot_at hW0 hvm.symm (hgood _ (List.mem_cons_of_mem _ List.mem_cons_self)) hini
  have hU' : vx_Zq Bundle.tN "UNASSIGNED_STACK" Bundle.steD A s' s'.heap := by rw [hhp]; exact vx_Zq.moved hW0.alike (hU.kept hS.2.1)
  have hN' : vx_Zq Bundle.tN "SUPPRESSED_SENTINEL" Bundle.listD A s' s'.heap := by rw [hhp]; exact vx_Zq.moved hW0.alike (hN.kept hS.2.1)
  have h : ∀ w ∈ Bundle.ownAtoms0 own ic cls names, w.before args s' = true := vx_own hat' (vx_isRefq hU'.1) (vx_isRefq hN'.1) hU'.2.word hN'.2.word
  have hown' : s'.vm.findClass own = some m.cls := by rw [hvm]; exact hown
  have hins : (Cond.instantiable cls 6).before args s' = true := h _ (by simp [Bundle.ownAtoms0])
  obtain ⟨vm₁, cX, kX, hfX, hkX, -, -, X₁, st1⟩ := Y.newCold hexec (own := own) (C := cls) (index := ik) (n := 6) hown' hk' hins hini'
    (g := F0 m pc ls rest) rfl (by rw [hb]; exact d0) (Nat.le_refl _) (Nat.le_refl _)
  generalize hT1 : (T.setVm vm₁).pushCell { cls := cX, slots := kX.instanceTypes.map defaultValue, vm := .none } = T1 at X₁ st1
  have hcat : (Value.ref T.heap.size).category = 1 := rfl
  have hcellA : T1.heap[T.heap.size]? = some (freshCell cX kX) := by rw [← hT1]; exact State.heap_pushCell_size _ _
  have d3' : decode c.code (pc + 3) = .ok (.dup, 1) := by rw [hb]; exact d3
  obtain ⟨U, hsteps, hrun, hend, hW, hsame, ce, hce, hO⟩ := X₁.ctorThrow0 hexec htr (own := own) (cls := cls) (names := names) (ic := ic) hown' hcls hnames h (fun x hx => nomatch hx) hfX hkX hcellA (by rw [hhp, hT]; exact Nat.le_refl _)
    (g := { method := m, pc := pc + 4, locals := ls, stack := .ref T.heap.size :: .ref T.heap.size :: rest, locked := none }) rfl hsize rfl rfl (rest := rest) rfl
    (by rw [hb]; exact d4) (by rw [hb]; exact d7) hout hRframes (by simp only [List.map_cons, List.sum_cons, hcat]; omega) hlocks
  obtain ⟨f1, f2⟩ := vx_frame hsame
  rw [hhp] at f1 f2
  have hWs : s.WarmedH U.vm := State.WarmedH.trans hW0 hW
  have hcl : s.vm.findClass cls = some ce.cls := by
    have h9 := hO.cls
    rw [hvm] at h9
    exact h9
  have hall : s.sameButNew ({ U with vm := s.vm } : State) locs mc ms := by
    subst hA
    obtain ⟨e1, e2⟩ := hsame
    rw [State.setFrames_setFrames] at e1
    have h2 : (T.setVm s.vm).sameButNew ({ U with vm := s.vm } : State) [] (0 + 1) (0 + 6) := ⟨e1, e2⟩
    have h3 := X.same.trans h2
    rw [List.append_nil] at h3
    exact h3.mono hc hs
  refine ⟨U, ?_, .threw T.heap.size, hrun, hend, Or.inr ⟨T.heap.size, rfl, cls, ce, locs, hx U hWs.alike f1 (fun q hq => f2 q hq (fun z hz => nomatch hz)), hce, hO.vm, hcl, hWs, hall, hf⟩⟩
  refine st1 _ ?_
  show Steps p.tables e below (T1.setTop { method := m, pc := pc + 3, locals := ls, stack := .ref T.heap.size :: rest, locked := none }) _
  jvm_step X₁.here [X₁.here.top, hexec, d3', Value.category]
  exact hsteps
/-- 'throw new E("text")': new; dup; ldc; invokespecial; athrow -/
theorem vx_throwS {cc : ByteArray} {pc : Nat} (hexec : p.tables.exec = Jvm.exec) (hb : c.code = cc) (hl : l.stackTraces = false) {own cls text : String} {names : List String} {ik is ic mc ms sa : Nat} {A : Nat → Prop}
    (hown : s.vm.findClass own = some m.cls) (hcls : Bundle.fit cls = true) (hnames : ∀ n ∈ names, Bundle.fit n = true)
    (hk : (Cond.classLink own ik cls).before args s = true) (hini : (Cond.initialized cls).before args s = true) (hstr : vk_R own is text sa s) (hat : ∀ w ∈ vx_atS own ic cls names, w.before args s = true)
    (hgood : ∀ w ∈ Cond.classLink own ik cls :: Cond.initialized cls :: vx_atS own ic cls names, vx_ot w = true)
    (hU : vx_Zq Bundle.tN "UNASSIGNED_STACK" Bundle.steD A s s.heap) (hN : vx_Zq Bundle.tN "SUPPRESSED_SENTINEL" Bundle.listD A s s.heap) (hS : va_S A s.heap H locs) (hsize : ls.size = c.maxLocals)
    (d0 : decode cc pc = .ok (.new ik, 3)) (d3 : decode cc (pc + 3) = .ok (.dup, 1)) (d4 : decode cc (pc + 4) = .ok (.ldc is, 2)) (d6 : decode cc (pc + 6) = .ok (.invokespecial ic, 3)) (d9 : decode cc (pc + 9) = .ok (.athrow, 1))
    (hout : ∀ x ∈ c.exceptionTable.toList, covers x (pc + 9) = false)
    (hRframes : names.length + 3 < R.frames) (hRlocals : (rest.map fun v => v.category).sum + (13 * (names.length + 1) + 43) ≤ R.locals) (hRcells : cells + 1 ≤ R.cells) (hRslots : slots + 6 ≤ R.slots) (hlocks : meth.locks = false)
    (hx : ∀ t : State, s.vm.Alike t.vm → H.size ≤ t.heap.size → (∀ q : Nat, q < H.size → t.heap[q]? = H[q]?) → XC cls s t)
    (hf : ∀ z ∈ locs, free z.base) (hc : cells + 1 ≤ mc) (hs : slots + 6 ≤ ms) :
    W p l e R s m args below meth c H locs cells slots (vx_MQ below Qc XC args s mc ms free) (F0 m pc ls rest) := by
  intro T hT X
  have htr : e.platform.stackTraces = false := (show e.platform.stackTraces = l.stackTraces by rw [X.admits.platform]).trans hl
  have Y := vx_rebase X (R' := { frames := R.frames, locals := R.locals, cells := 1, slots := 6 }) (Nat.le_refl _) (Nat.le_refl _) hRcells hRslots
  obtain ⟨s', hA⟩ : ∃ z, z = (T.setVm s.vm).setFrames (.invoking m args :: below) := ⟨_, rfl⟩
  rw [← hA] at Y
  have hvm : s'.vm = s.vm := by rw [hA]; rfl
  have hhp : s'.heap = H := by rw [hA]; exact hT
  have hW0 : s.WarmedH s'.vm := by rw [hvm]; exact State.WarmedH.refl s
  have hat' : ∀ w ∈ vx_atS own ic cls names, w.before args s' = true := fun w hw => vx_ot_at hW0 hvm.symm (hgood w (List.mem_cons_of_mem _ (List.mem_cons_of_mem _ hw))) (hat w hw)
  have hk' : (Cond.classLink own ik cls).before args s' = true := vx_ot_at hW0 hvm.symm (hgood _ List.mem_cons_self) hk
  have hini' : (Cond.initialized cls).before args s' = true := vx_ot_at hW0 hvm.symm (hgood _ (List.mem_cons_of_mem _ List.mem_cons_self)) hini
  have hU' : vx_Zq Bundle.tN "UNASSIGNED_STACK" Bundle.steD A s' s'.heap := by rw [hhp]; exact vx_Zq.moved hW0.alike (hU.kept hS.2.1)
  have hN' : vx_Zq Bundle.tN "SUPPRESSED_SENTINEL" Bundle.listD A s' s'.heap := by rw [hhp]; exact vx_Zq.moved hW0.alike (hN.kept hS.2.1)
  have h : ∀ w ∈ Bundle.ownAtoms own ic cls names, w.before args s' = true := vx_own hat' (vx_isRefq hU'.1) (vx_isRefq hN'.1) hU'.2.word hN'.2.word
  have hown' : s'.vm.findClass own = some m.cls := by rw [hvm]; exact hown
  have hins : (Cond.instantiable cls 6).before args s' = true := h _ (by simp [Bundle.ownAtoms])
  obtain ⟨vm₁, cX, kX, hfX, hkX, -, -, X₁, st1⟩ := Y.newCold hexec (own := own) (C := cls) (index := ik) (n := 6) hown' hk' hins hini'
    (g := F0 m pc ls rest) rfl (by rw [hb]; exact d0) (Nat.le_refl _) (Nat.le_refl _)
  generalize hT1 : (T.setVm vm₁).pushCell { cls := cX, slots := kX.instanceTypes.map defaultValue, vm := .none } = T1 at X₁ st1
  have hcat : (Value.ref T.heap.size).category = 1 := rfl
  have hcellA : T1.heap[T.heap.size]? = some (freshCell cX kX) := by rw [← hT1]; exact State.heap_pushCell_size _ _
  have d3' : decode c.code (pc + 3) = .ok (.dup, 1) := by rw [hb]; exact d3
  have d4' : decode c.code (pc + 4) = .ok (.ldc is, 2) := by rw [hb]; exact d4
  have hstr' : vk_R own is text sa s' := vk_R.warm hW0 hstr
  obtain ⟨U, hsteps, hrun, hend, hW, hsame, ce, hce, hO⟩ := X₁.ctorThrowS hexec htr (own := own) (cls := cls) (names := names) (ic := ic) hown' hcls hnames h (fun x hx => nomatch hx) hfX hkX hcellA (by rw [hhp, hT]; exact Nat.le_refl _) (msg := .ref sa) rfl
    (g := { method := m, pc := pc + 6, locals := ls, stack := .ref sa :: .ref T.heap.size :: .ref T.heap.size :: rest, locked := none }) rfl hsize rfl rfl (rest := rest) rfl
    (by rw [hb]; exact d6) (by rw [hb]; exact d9) hout hRframes (by simp only [List.map_cons, List.sum_cons, hcat]; omega) hlocks
  obtain ⟨f1, f2⟩ := vx_frame hsame
  rw [hhp] at f1 f2
  have hWs : s.WarmedH U.vm := State.WarmedH.trans hW0 hW
  have hcl : s.vm.findClass cls = some ce.cls := by
    have h9 := hO.cls
    rw [hvm] at h9
    exact h9
  have hall : s.sameButNew ({ U with vm := s.vm } : State) locs mc ms := by
    subst hA
    obtain ⟨e1, e2⟩ := hsame
    rw [State.setFrames_setFrames] at e1
    have h2 : (T.setVm s.vm).sameButNew ({ U with vm := s.vm } : State) [] (0 + 1) (0 + 6) := ⟨e1, e2⟩
    have h3 := X.same.trans h2
    rw [List.append_nil] at h3
    exact h3.mono hc hs
  refine ⟨U, ?_, .threw T.heap.size, hrun, hend, Or.inr ⟨T.heap.size, rfl, cls, ce, locs, hx U hWs.alike f1 (fun q hq => f2 q hq (fun z hz => nomatch hz)), hce, hO.vm, hcl, hWs, hall, hf⟩⟩
  refine st1 _ ?_
  show Steps p.tables e below (T1.setTop { method := m, pc := pc + 3, locals := ls, stack := .ref T.heap.size :: rest, locked := none }) _
  jvm_step X₁.here [X₁.here.top, hexec, d3', Value.category]
  exact X₁.ldcString hexec (own := own) (text := text) (index := is) (a := sa) hown' hstr'.1 hstr'.2
    (g := { method := m, pc := pc + 4, locals := ls, stack := .ref T.heap.size :: .ref T.heap.size :: rest, locked := none }) rfl d4' _ hsteps
/-- 'throw new E("text")', the text by a wide index -/
theorem vx_throwSW {cc : ByteArray} {pc : Nat} (hexec : p.tables.exec = Jvm.exec) (hb : c.code = cc) (hl : l.stackTraces = false) {own cls text : String} {names : List String} {ik is ic mc ms sa : Nat} {A : Nat → Prop}
    (hown : s.vm.findClass own = some m.cls) (hcls : Bundle.fit cls = true) (hnames : ∀ n ∈ names, Bundle.fit n = true)
    (hk : (Cond.classLink own ik cls).before args s = true) (hini : (Cond.initialized cls).before args s = true) (hstr : vk_R own is text sa s) (hat : ∀ w ∈ vx_atS own ic cls names, w.before args s = true)
    (hgood : ∀ w ∈ Cond.classLink own ik cls :: Cond.initialized cls :: vx_atS own ic cls names, vx_ot w = true)
    (hU : vx_Zq Bundle.tN "UNASSIGNED_STACK" Bundle.steD A s s.heap) (hN : vx_Zq Bundle.tN "SUPPRESSED_SENTINEL" Bundle.listD A s s.heap) (hS : va_S A s.heap H locs) (hsize : ls.size = c.maxLocals)
    (d0 : decode cc pc = .ok (.new ik, 3)) (d3 : decode cc (pc + 3) = .ok (.dup, 1)) (d4 : decode cc (pc + 4) = .ok (.ldc_w is, 3)) (d7 : decode cc (pc + 7) = .ok (.invokespecial ic, 3)) (d10 : decode cc (pc + 10) = .ok (.athrow, 1))
    (hout : ∀ x ∈ c.exceptionTable.toList, covers x (pc + 10) = false)
    (hRframes : names.length + 3 < R.frames) (hRlocals : (rest.map fun v => v.category).sum + (13 * (names.length + 1) + 43) ≤ R.locals) (hRcells : cells + 1 ≤ R.cells) (hRslots : slots + 6 ≤ R.slots) (hlocks : meth.locks = false)
    (hx : ∀ t : State, s.vm.Alike t.vm → H.size ≤ t.heap.size → (∀ q : Nat, q < H.size → t.heap[q]? = H[q]?) → XC cls s t)
    (hf : ∀ z ∈ locs, free z.base) (hc : cells + 1 ≤ mc) (hs : slots + 6 ≤ ms) :
    W p l e R s m args below meth c H locs cells slots (vx_MQ below Qc XC args s mc ms free) (F0 m pc ls rest) := by
  intro T hT X
  have htr : e.platform.stackTraces = false := (show e.platform.stackTraces = l.stackTraces by rw [X.admits.platform]).trans hl
  have Y := vx_rebase X (R' := { frames := R.frames, locals := R.locals, cells := 1, slots := 6 }) (Nat.le_refl _) (Nat.le_refl _) hRcells hRslots
  obtain ⟨s', hA⟩ : ∃ z, z = (T.setVm s.vm).setFrames (.invoking m args :: below) := ⟨_, rfl⟩
  rw [← hA] at Y
  have hvm : s'.vm = s.vm := by rw [hA]; rfl
  have hhp : s'.heap = H := by rw [hA]; exact hT
  have hW0 : s.WarmedH s'.vm := by rw [hvm]; exact State.WarmedH.refl s
  have hat' : ∀ w ∈ vx_atS own ic cls names, w.before args s' = true := fun w hw => vx_ot_at hW0 hvm.symm (hgood w (List.mem_cons_of_mem _ (List.mem_cons_of_mem _ hw))) (hat w hw)
  have hk' : (Cond.classLink own ik cls).before args s' = true := vx_ot_at hW0 hvm.symm (hgood _ List.mem_cons_self) hk
  have hini' : (Cond.initialized cls).before args s' = true := vx_ot_at hW0 hvm.symm (hgood _ (List.mem_cons_of_mem _ List.mem_cons_self)) hini
  have hU' : vx_Zq Bundle.tN "UNASSIGNED_STACK" Bundle.steD A s' s'.heap := by rw [hhp]; exact vx_Zq.moved hW0.alike (hU.kept hS.2.1)
  have hN' : vx_Zq Bundle.tN "SUPPRESSED_SENTINEL" Bundle.listD A s' s'.heap := by rw [hhp]; exact vx_Zq.moved hW0.alike (hN.kept hS.2.1)
  have h : ∀ w ∈ Bundle.ownAtoms own ic cls names, w.before args s' = true := vx_own hat' (vx_isRefq hU'.1) (vx_isRefq hN'.1) hU'.2.word hN'.2.word
  have hown' : s'.vm.findClass own = some m.cls := by rw [hvm]; exact hown
  have hins : (Cond.instantiable cls 6).before args s' = true := h _ (by simp [Bundle.ownAtoms])
  obtain ⟨vm₁, cX, kX, hfX, hkX, -, -, X₁, st1⟩ := Y.newCold hexec (own := own) (C := cls) (index := ik) (n := 6) hown' hk' hins hini'
    (g := F0 m pc ls rest) rfl (by rw [hb]; exact d0) (Nat.le_refl _) (Nat.le_refl _)
  generalize hT1 : (T.setVm vm₁).pushCell { cls := cX, slots := kX.instanceTypes.map defaultValue, vm := .none } = T1 at X₁ st1
  have hcat : (Value.ref T.heap.size).category = 1 := rfl
  have hcellA : T1.heap[T.heap.size]? = some (freshCell cX kX) := by rw [← hT1]; exact State.heap_pushCell_size _ _
  have d3' : decode c.code (pc + 3) = .ok (.dup, 1) := by rw [hb]; exact d3
  have d4' : decode c.code (pc + 4) = .ok (.ldc_w is, 3) := by rw [hb]; exact d4
  have hstr' : vk_R own is text sa s' := vk_R.warm hW0 hstr
  obtain ⟨U, hsteps, hrun, hend, hW, hsame, ce, hce, hO⟩ := X₁.ctorThrowS hexec htr (own := own) (cls := cls) (names := names) (ic := ic) hown' hcls hnames h (fun x hx => nomatch hx) hfX hkX hcellA (by rw [hhp, hT]; exact Nat.le_refl _) (msg := .ref sa) rfl
    (g := { method := m, pc := pc + 7, locals := ls, stack := .ref sa :: .ref T.heap.size :: .ref T.heap.size :: rest, locked := none }) rfl hsize rfl rfl (rest := rest) rfl
    (by rw [hb]; exact d7) (by rw [hb]; exact d10) hout hRframes (by simp only [List.map_cons, List.sum_cons, hcat]; omega) hlocks
  obtain ⟨f1, f2⟩ := vx_frame hsame
  rw [hhp] at f1 f2
  have hWs : s.WarmedH U.vm := State.WarmedH.trans hW0 hW
  have hcl : s.vm.findClass cls = some ce.cls := by
    have h9 := hO.cls
    rw [hvm] at h9
    exact h9
  have hall : s.sameButNew ({ U with vm := s.vm } : State) locs mc ms := by
    subst hA
    obtain ⟨e1, e2⟩ := hsame
    rw [State.setFrames_setFrames] at e1
    have h2 : (T.setVm s.vm).sameButNew ({ U with vm := s.vm } : State) [] (0 + 1) (0 + 6) := ⟨e1, e2⟩
    have h3 := X.same.trans h2
    rw [List.append_nil] at h3
    exact h3.mono hc hs
  refine ⟨U, ?_, .threw T.heap.size, hrun, hend, Or.inr ⟨T.heap.size, rfl, cls, ce, locs, hx U hWs.alike f1 (fun q hq => f2 q hq (fun z hz => nomatch hz)), hce, hO.vm, hcl, hWs, hall, hf⟩⟩
  refine st1 _ ?_
  show Steps p.tables e below (T1.setTop { method := m, pc := pc + 3, locals := ls, stack := .ref T.heap.size :: rest, locked := none }) _
  jvm_step X₁.here [X₁.here.top, hexec, d3', Value.category]
  exact X₁.ldcStringW hexec (own := own) (text := text) (index := is) (a := sa) hown' hstr'.1 hstr'.2
    (g := { method := m, pc := pc + 4, locals := ls, stack := .ref T.heap.size :: .ref T.heap.size :: rest, locked := none }) rfl d4' _ hsteps
end Ends
section Bodies
variable {l : Launch}
theorem vx_ofW {y : MethodName} {ws ws' : List Cond} {rm : Room} {Pc : Array Value → State → Prop} {Qc : Array Value → State → Outcome → State → Prop} {XC : String → State → State → Prop} {mc ms : Nat} {free : Addr → Prop} {cc : ByteArray} {maxL : Nat} {ret : Option FieldType}
    (hy : plainName y.cls = true) (hw : ws = Cond.code y cc maxL ret :: ws')
    (body : ∀ p e s m args below meth c s₁, BodyLoose p l y (headSpec ws rm) cc maxL ret e s m args below meth c s₁ → c.maxLocals = maxL → (∀ x ∈ c.exceptionTable.toList, False) → Pc args s →
      W p l e (headSpec ws rm).room s m args below meth c s.heap [] 0 0 (vx_MQ below Qc XC args s mc ms free) (entryFrame m args maxL)) : vx_Met l y ws rm Pc Qc XC mc ms free := by
  refine MetFree.of_bodyS (code := cc) (maxLocals := maxL) (ret := ret) hy ?_ ?_
  · intro args s m h hn
    obtain ⟨meth, c, h1, h2, h3, h4, h5, h6, -, -⟩ := Cond.code_spec hn (atoms_spec (ws := ws) h _ (by rw [hw]; exact List.mem_cons_self))
    exact ⟨meth, c, h1, h2, h3, h4, h5, h6⟩
  · intro p e s m args below meth c s₁ B hml hP _
    have hh0 : s₁.heap = s.heap := by rw [B.state]; rfl
    have ht : ∀ x ∈ c.exceptionTable.toList, False := by
      obtain ⟨meth9, c9, h1, h2, -, -, -, -, h7, -⟩ := Cond.code_spec B.named (atoms_spec (ws := ws) B.pre _ (by rw [hw]; exact List.mem_cons_self))
      cases Option.some.inj (h1.symm.trans B.method)
      cases Option.some.inj (h2.symm.trans (Stand.of_body B).code)
      intro x hx
      rw [Array.isEmpty_iff.mp h7] at hx
      cases hx
    obtain ⟨t, a1, o, b1, b2, b3⟩ := body p e s m args below meth c s₁ B hml ht hP s₁ hh0 (Stand.of_body B)
    exact ⟨t, o, a1, b1, b2, b3⟩
/-- the table of a body with handlers -/
theorem vx_table {p : Program} {x y : MethodName} {S : Spec} {cc bytes : ByteArray} {maxL maxL' : Nat} {ret ret' : Option FieldType} {e : Env} {s s₁ : State} {m : MethodId} {args : Array Value} {below : List Frame} {meth : Method} {c : Code} {hh : List (Nat × Nat × Nat × Nat)}
    (B : BodyLoose p l y S cc maxL ret e s m args below meth c s₁) (h : (Cond.codeWith y bytes maxL' ret' hh).before args s = true) : c.exceptionTable.toList = tableOf hh := by
  obtain ⟨m9, meth9, c9, hn9, h1, h2, -, -, h6, -⟩ := Cond.codeWith_spec h
  cases Option.some.inj (hn9.symm.trans B.named)
  cases Option.some.inj (h1.symm.trans B.method)
  cases Option.some.inj (h2.symm.trans (Stand.of_body B).code)
  rw [← h6, table_eq]
end Bodies
end VXA
/-! ===== END ===== -/
/-! ===== BEGIN a static call of a method with an exception table ===== -/
section VXS
variable {p : Program} {l : Launch} {e : Env} {R : Room} {s : State} {m : MethodId} {args : Array Value} {below : List Frame} {meth : Method} {c : Code} {T : State} {H : Heap} {locs : List Loc} {cells slots : Nat}
abbrev vx_CSW (R : Room) (s : State) (args : Array Value) (own : String) (index : Nat) (y : MethodName) (bytes : ByteArray) (maxL : Nat) (ret : Option FieldType) (hh : List (Nat × Nat × Nat × Nat)) (ws : List Cond) (rm : Room) (mc ms n : Nat) : Prop :=
  (rm.cells = mc ∧ rm.slots = ms ∧ rm.frames + 1 ≤ R.frames ∧ 8 + (maxL + 11) + rm.locals ≤ R.locals ∧ (∀ w ∈ ws, ∀ (a' : Array Value) (U : State), s.WarmedH U.vm → w.before a' U = true) ∧ Cond.codeWith y bytes maxL ret hh ∈ ws) ∧
  (Cond.codeWith y bytes maxL ret hh).before args s = true ∧ (Cond.initialized y.cls).before args s = true ∧ (y.cls ≠ "java/lang/invoke/MethodHandle" ∧ y.cls ≠ "java/lang/invoke/VarHandle") ∧
  (∀ sig, parseMethodDescriptor y.desc = some sig → n = sig.parameters.length) ∧ (Cond.methodLink own index y).before args s = true ∧ (Cond.static y).before args s = true
theorem vx_cwSW {own : String} {index maxL mc ms : Nat} {y : MethodName} {bytes : ByteArray} {ret : Option FieldType} {hh : List (Nat × Nat × Nat × Nat)} {Ts ws ws' : List Cond} {rm : Room} (n : Nat) (ht : ∀ w ∈ Ts, w.before args s = true) (hT : GoodIn Ts (va_wsS own index y ws)) (hw : ws = Cond.codeWith y bytes maxL ret hh :: ws') (hrc : rm.cells = mc) (hrs : rm.slots = ms)
    (hd : y.cls ≠ "java/lang/invoke/MethodHandle" ∧ y.cls ≠ "java/lang/invoke/VarHandle" ∧ (parseMethodDescriptor y.desc).map (fun d => d.parameters.length) = some n) (hR : rm.frames + 1 ≤ R.frames ∧ 8 + (maxL + 11) + rm.locals ≤ R.locals) :
    vx_CSW R s args own index y bytes maxL ret hh ws rm mc ms n := by
  have ok : ∀ w ∈ va_wsS own index y ws, w.before args s = true := fun w h => ht w (hT w h).1
  have hG : GoodIn Ts ws := fun w h => hT w (by unfold va_wsS; exact List.mem_append_right _ h)
  have hc : Cond.codeWith y bytes maxL ret hh ∈ ws := by rw [hw]; exact List.mem_cons_self
  refine ⟨⟨hrc, hrs, hR.1, hR.2, pay_in ht hG, hc⟩, ht _ (hG _ hc).1, ok _ (by simp [va_wsS]), ⟨hd.1, hd.2.1⟩, fun sig h => ?_, ok _ (by simp [va_wsS]), ok _ (by simp [va_wsS])⟩
  have h2 := hd.2.2
  rw [h] at h2
  exact (Option.some.inj h2).symm
theorem vx_callSW (X : Stand p l e R s m args below meth c T locs cells slots) (hexec : p.tables.exec = Jvm.exec) {own : String} {index : Nat} {y : MethodName} {bytes : ByteArray} {maxL : Nat} {ret : Option FieldType} {hh : List (Nat × Nat × Nat × Nat)}
    (hown : s.vm.findClass own = some m.cls) (hlink : (Cond.methodLink own index y).before args s = true) (hstat : (Cond.static y).before args s = true) (hinit : (Cond.initialized y.cls).before args s = true)
    (hcode : (Cond.codeWith y bytes maxL ret hh).before args s = true) (hy : y.cls ≠ "java/lang/invoke/MethodHandle" ∧ y.cls ≠ "java/lang/invoke/VarHandle")
    {W9 : Nat} {Pre : Pt → Array Value → Prop} {Post : Pt → Array Value → Option Value → Pt → Prop} (hK : Back l R p e below s args y 3 W9 Pre Post)
    {g : JFrame} (hg : g.method = m) (hsize : g.locals.size = c.maxLocals) {argsL rest : List Value} (hlen : ∀ sig, parseMethodDescriptor y.desc = some sig → argsL.length = sig.parameters.length)
    (hstack : g.stack = argsL.reverse ++ rest) (hW : 2 * g.monitorRoom + (rest.map fun v => v.category).sum ≤ W9) (hdg : decode c.code g.pc = .ok (.invokestatic index, 3))
    (hpre : ∀ vm₁, s.WarmedH vm₁ → Pre ⟨T.setVm vm₁, locs, cells, slots⟩ argsL.toArray) :
    ∃ (v : Option Value) (vm₁ : Vm) (B : Pt), s.WarmedH vm₁ ∧ Stand p l e R s m args below meth c B.U B.locs B.cells B.slots ∧ Post ⟨T.setVm vm₁, locs, cells, slots⟩ argsL.toArray v B ∧
      ∀ target, Steps p.tables e below (B.U.setTop { g with pc := g.pc + 3, stack := v.toList ++ rest }) target → Steps p.tables e below (T.setTop g) target := by
  obtain ⟨mk, methM, cM, hnamed, hmethM, -, -, -, -, -, -, hsigM⟩ := Cond.codeWith_spec hcode
  have hstatic : methM.isStatic = true := Cond.static_spec hnamed hmethM hstat
  obtain ⟨kP, hkP, -⟩ := className_of_methodNamed hnamed
  have hinitP : kP.init = .initialized := Cond.initialized_spec (findClass_of_methodNamed hnamed) hkP hinit
  obtain ⟨vm₁, X₁, hstep₁⟩ := X.invokestatic hexec hown hlink hnamed hmethM hstatic hkP hinitP hy (g := g) hg (argsL := argsL) (rest := rest) (hlen _ hsigM) hstack hdg
  obtain ⟨v, B, X', hpost, hsteps⟩ := hK m meth c ⟨T.setVm vm₁, locs, cells, slots⟩ { g with stack := rest } (.invokestatic index) mk argsL.toArray X₁ hg hsize hdg hW (X₁.named hnamed) (hpre vm₁ X₁.warmed)
  exact ⟨v, vm₁, B, X₁.warmed, X', hpost, fun target h => hstep₁ _ fun acts => by rw [doInvoke_state]; exact hsteps.trans h⟩
theorem vx_runSW {y : MethodName} {bytes cc : ByteArray} {maxL nL mc ms n index : Nat} {ret : Option FieldType} {hh : List (Nat × Nat × Nat × Nat)} {ws : List Cond} {rm : Room} {Pc : Array Value → State → Prop} {Qc : Array Value → State → Outcome → State → Prop} {free : Addr → Prop} {Ts : List Cond} {own : String} {As rest : List Value} {g : JFrame}
    (S : CallFix p m c cc nL s args Ts own) (hM : Met l y ws rm Pc Qc mc ms free) (cw : vx_CSW R s args own index y bytes maxL ret hh ws rm mc ms n) (hp : PreS s H Pc As)
    (hg : g.method = m) (hn : As.length = n) (hsize : g.locals.size = nL) (hstack : g.stack = As.reverse ++ rest) (hW : 2 * g.monitorRoom + (rest.map fun v => v.category).sum ≤ 8) (hdg : decode cc g.pc = .ok (.invokestatic index, 3)) (hf : cells + mc ≤ R.cells ∧ slots + ms ≤ R.slots) :
    va_Run p l e R s m args below meth c H locs cells slots mc ms g rest (Qc As.toArray) (free) := by
  obtain ⟨⟨hrc, hrs, hfr, hlo, hws, hcw⟩, hcode, hini, hy, hlen, hl, hstt⟩ := cw
  have hK : Back l R p e below s args y 3 8 (PreOf R mc ms Pc) (PostOf Qc mc ms free) := va_backW (hh := hh) (bytes := bytes) (maxL := maxL) (ret := ret) hM hp.1 hrc hrs hfr hlo hws hcw (fun a' U hW => word_at hW (Or.inl (by first | rfl | simp [Cond.onTables, Cond.keeps, Cond.steady])) hini)
  obtain ⟨hx, hb, hml, ho, -⟩ := S
  intro T hT X
  obtain ⟨v, vm₁, ⟨U', l2, c2, s2⟩, hW₁, X', ⟨g', mk, t, L, e1, e2, hq, h1, hL, h2, h3⟩, st⟩ := vx_callSW X hx (hh := hh) (bytes := bytes) (maxL := maxL) (ret := ret) ho hl hstt hini hcode hy hK hg (hsize.trans hml.symm) (argsL := As) (rest := rest) (fun sig h => hn.trans (hlen sig h)) hstack hW (by rw [hb]; exact hdg)
    (fun vm₁ hW₁ => ⟨hf.1, hf.2, hp.2 (T.setVm vm₁) hT hW₁⟩)
  dsimp only [Pt.U, Pt.locs, Pt.cells, Pt.slots] at X' e1 e2 h1 h2 h3 st
  subst h1; subst h2; subst h3
  exact ⟨v, (T.setVm vm₁).calling g' mk As.toArray, t, U', L, hT, X', hL, e1, e2, hq, st⟩
/-- not caught here, past rows that name other classes: it goes on to the caller -/
theorem vx_outP {p : Program} {l : Launch} {e : Env} {R : Room} {s : State} {m : MethodId} {args : Array Value} {below : List Frame} {meth : Method} {c : Code} {H : Heap} {locs : List Loc} {cells slots : Nat} {free : Addr → Prop} {ls : Array Slot} {rest : List Value} {Qc : Array Value → State → Outcome → State → Prop} {XC : String → State → State → Prop}
    {pc : Nat} {own E : String} {ce : Cell} {q : Addr} {mc ms : Nat} (hown : s.vm.findClass own = some m.cls) (hlocks : meth.locks = false)
    (hpass : ∀ z ∈ c.exceptionTable.toList, covers z pc = false ∨ (z.catchType ≠ 0 ∧ ∃ nm : String, (Cond.classLink own z.catchType nm).before args s = true ∧ va_Nc E nm s)) (hcell : H[q]? = some ce) (hv : ce.vm = .none) (hcl : s.vm.findClass E = some ce.cls)
    (hx : ∀ t : State, t.heap = H → s.vm.Alike t.vm → XC E s t) (hf : ∀ z ∈ locs, free z.base) (hc : cells ≤ mc) (hs : slots ≤ ms) :
    vx_W p l e R s m args below meth c H locs cells slots (vx_MQ below Qc XC args s mc ms free) (F0 m pc ls rest) q := by
  intro T hT X
  have hpl : e.platform.magicAccessors = ({} : Platform).magicAccessors := by rw [X.admits.platform]
  obtain ⟨vm', hW', X', st⟩ := X.outThrough hlocks q (g := F0 m pc ls rest) rfl rfl rfl (cell := ce) (by rw [hT]; exact hcell) (by rw [hv]; rfl)
    (by obtain ⟨k9, h9, -⟩ := Vm.findClass_spec hcl; exact ⟨k9, h9⟩) (fun z hz => by
      rcases hpass z hz with h | ⟨hz0, nm, hl1, hn1⟩
      · exact Or.inl h
      · obtain ⟨c6, hc6, hcl6⟩ := Cond.classLink_spec hown hl1 e.platform hpl
        obtain ⟨a8, b8, h1, h2, h3⟩ := hn1
        cases Option.some.inj (h1.symm.trans hcl)
        cases Option.some.inj (h2.symm.trans hc6)
        exact Or.inr ⟨hz0, _, hcl6, h3⟩)
  obtain ⟨g₀, hfr⟩ := X'.frames_eq
  have hcell9 : ((T.setVm vm').setFrames (.throwing q :: below)).heap[q]? = some ce := by
    show T.heap[q]? = some ce
    rw [hT]; exact hcell
  have hend : Ended ((T.setVm vm').setFrames (.throwing q :: below)) below (.threw q) := State.frames_setFrames _ (State.cur_lt_of_frames hfr)
  refine ⟨(T.setVm vm').setFrames (.throwing q :: below), ?_, .threw q, X'.here.running, hend, Or.inr ⟨q, rfl, E, ce, locs, hx _ hT (X'.ends _).1.alike, hcell9, hv, hcl, (X'.ends _).1, (X'.ends _).2.mono hc hs, hf⟩⟩
  rw [X.pushThrowing_eq]
  exact st
/-- a thing of a world lies in the heap -/
theorem vx_lt {D : va_G} {cl : List vw_C} {ws : va_W} {H1 : Heap} (h : va_P D cl ws H1) {k : Nat} {q : Nat × va_E} (hk : ws[k]? = some q) : q.1 < H1.size := (h k q hk).lt
end VXS
/-! ===== END ===== -/
/-! ===== BEGIN methods with a table of their own: called by a name, returning or throwing ===== -/
section VXH
/-! vx_backW, vx_callVX, vx_callSX, vx_callVW, vx_runVW, vx_runVX, vx_runSX, vx_ofWH follow the same proofs as their sisters above (Free/Laws.lean, Shelf42/LK1.lean); vx_outP calls Shelf42/NT130.lean (outThrough). -/
section
variable {l : Launch} {R : Room} {p : Program} {e : Env} {below : List Frame} {s : State} {sargs : Array Value} {y : MethodName} {len W9 : Nat}
theorem vx_backW {ws : List Cond} {rm : Room} {Pc : Array Value → State → Prop} {Qc : Array Value → State → Outcome → State → Prop} {XC : String → State → State → Prop} {mc ms : Nat} {free : Addr → Prop} {bytes : ByteArray} {maxL : Nat} {ret : Option FieldType} {hh : List (Nat × Nat × Nat × Nat)}
    (hM : vx_Met l y ws rm Pc Qc XC mc ms free) (hblind : FrameBlind Pc) (hrc : rm.cells = mc) (hrs : rm.slots = ms)
    (hframes : rm.frames + 1 ≤ R.frames) (hlocals : W9 + (maxL + 11) + rm.locals ≤ R.locals)
    (hws : ∀ w ∈ ws, ∀ a' U, s.WarmedH U.vm → w.before a' U = true) (hcode : Cond.codeWith y bytes maxL ret hh ∈ ws) (hinit : ∀ a' U, s.WarmedH U.vm → (Cond.initialized y.cls).before a' U = true) :
    vx_Back l R p e below s sargs y len W9 (PreOf R mc ms Pc) (PostOf Qc mc ms free) (vx_Post XC mc ms free) := by
  intro m meth c A g ig mk a X hg hsize hdg hW hn hp
  have h1 : (headSpec ws rm).pre.before a A.U = true := atoms_intro fun w hw => hws w hw _ _ X.warmed
  have h2 : (Cond.codeWith y bytes maxL ret hh).before a A.U = true := hws _ hcode _ _ X.warmed
  have h3 : (Cond.initialized y.cls).before a A.U = true := hinit _ _ X.warmed
  have h4 : A.cells + (headSpec ws rm).room.cells ≤ R.cells := by rw [show (headSpec ws rm).room.cells = mc from hrc]; exact hp.1
  have h5 : A.slots + (headSpec ws rm).room.slots ≤ R.slots := by rw [show (headSpec ws rm).room.slots = ms from hrs]; exact hp.2.1
  have hPc : Pc a (A.U.calling g mk a) := hblind _ _ _ _ hp.2.2
  obtain ⟨U, Ls, c0, s0⟩ := A
  dsimp only [Pt.U, Pt.locs, Pt.cells, Pt.slots] at h1 h2 h3 h4 h5 X hn hPc ⊢
  obtain ⟨m9, methY, cY, hn9, hmY, hcY, -, hlY, -⟩ := Cond.codeWith_spec h2
  cases Option.some.inj (hn9.symm.trans hn)
  obtain ⟨kY, hkY, -⟩ := className_of_methodNamed hn
  have hinitY : kY.init = .initialized := Cond.initialized_spec (findClass_of_methodNamed hn) hkY h3
  have h : At U g.method c below := by rw [hg]; exact X.here
  have hlocals9 : W9 + (maxL + 11) + (headSpec ws rm).room.locals ≤ R.locals := hlocals
  have happ : (headSpec ws rm).appliesLoose y e.platform (U.calling g mk a) = true :=
    Spec.appliesLoose_calling (g := g) h hdg hn hkY hinitY
      (X.room_calling (g := g) (R' := (headSpec ws rm).room) hsize hmY hcY hframes (by rw [hlY]; omega) h4 h5) h1
  obtain ⟨mid, hmid⟩ := h.above
  have hfr : (U.setTop g).frames = (.java g :: mid) ++ below := by rw [State.frames_setTop' g h.top, hmid]; rfl
  obtain ⟨o, s₂, hsteps, -, hend, hq⟩ := Steps.callFree hM p X.admits X.cas X.clock (acts := []) hfr happ hPc trivial
  have hq' : vx_Q Qc XC mc ms free a (U.calling g mk a) o s₂ := hq
  rw [State.frames_setTop' g h.top] at hend
  obtain ⟨g₀, hg0⟩ := Option.isSome_iff_exists.mp h.top
  obtain ⟨r, hr⟩ := State.topJava?_eq_some.mp hg0
  have hr' : (({ U with heap := s₂.heap, slotsUsed := s₂.slotsUsed } : State).setVm s₂.vm).frames = .java g₀ :: r := hr
  rcases hq' with ⟨hqc, L, hfe, hL⟩ | ⟨q, rfl, E, ce, L, hx, hce, hcv, hcl, hW₂, hsm, hL⟩
  · obtain ⟨⟨v, rfl⟩, hW₂, e2, q2, q3, q4, q5, q6⟩ := id hfe
    have e3 : s₂ = ({ (U.calling g mk a).setFrames s₂.frames with heap := s₂.heap, slotsUsed := s₂.slotsUsed } : State).setVm s₂.vm := by
      have : s₂ = ({ s₂ with vm := (U.calling g mk a).vm } : State).setVm s₂.vm := rfl
      rw [e2] at this
      exact this
    obtain ⟨c₂, i₂, len₂, hc₂, hd₂, hf₂⟩ := hend
    have hW' : U.WarmedH s₂.vm := hW₂
    have hcc : c₂ = c := by
      have h1 : s₂.code? g.method = U.code? g.method := by
        rw [State.code?_eq, State.code?_eq, hW'.alike.method?]
      exact Option.some.inj (hc₂.symm.trans (h1.trans h.code))
    subst hcc
    have hlen : len₂ = len := by rw [hdg] at hd₂; cases hd₂; rfl
    subst hlen
    have hs₂ : s₂ = (({ U with heap := s₂.heap, slotsUsed := s₂.slotsUsed } : State).setVm s₂.vm).setTop { g with pc := g.pc + len₂, stack := v.toList ++ g.stack } := by
      refine e3.trans ?_
      rw [hf₂, State.calling_eq h.top, State.setFrames_setFrames, State.setTop_of_frames _ hr', hr]
      rfl
    have hsame : U.sameButNew ({ U with heap := s₂.heap, slotsUsed := s₂.slotsUsed } : State) L mc ms := by
      refine ⟨?_, q2, q3, q4, q5, q6⟩
      obtain ⟨t, ht, -⟩ := State.frames_cons hr
      show ({ U with heap := s₂.heap, slotsUsed := s₂.slotsUsed } : State) = { U.setFrames U.frames with heap := s₂.heap, slotsUsed := s₂.slotsUsed }
      rw [State.setFrames_self ht]
    subst hg
    refine Or.inl ⟨v, ⟨(({ U with heap := s₂.heap, slotsUsed := s₂.slotsUsed } : State).setVm s₂.vm), Ls ++ L, c0 + mc, s0 + ms⟩,
      ⟨X.admits, X.cas, X.clock, X.frames, X.room, X.hears, X.method, X.code, (X.here.setHeapUsed s₂.heap s₂.slotsUsed).setVm hW'.alike, X.tail, State.WarmedH.trans X.warmed hW', X.limits, X.bytes, X.same.trans (hsame.setVm s.vm)⟩,
      ⟨g, mk, s₂, L, rfl, rfl, hqc, rfl, hL, rfl, rfl⟩, ?_⟩
    show Steps p.tables e below _ ((({ U with heap := s₂.heap, slotsUsed := s₂.slotsUsed } : State).setVm s₂.vm).setTop { g with pc := g.pc + len₂, stack := v.toList ++ g.stack })
    rw [← hs₂]
    exact hsteps
  · obtain ⟨e2, q2, q3, q4, q5, q6⟩ := id hsm
    have e3 : s₂ = ({ (U.calling g mk a).setFrames s₂.frames with heap := s₂.heap, slotsUsed := s₂.slotsUsed } : State).setVm s₂.vm := by
      have : s₂ = ({ s₂ with vm := (U.calling g mk a).vm } : State).setVm s₂.vm := rfl
      rw [e2] at this
      exact this
    have hf₂ : s₂.frames = .throwing q :: .java g :: U.frames.tail := hend
    have hW' : U.WarmedH s₂.vm := hW₂
    have hs₂ : s₂ = ((({ U with heap := s₂.heap, slotsUsed := s₂.slotsUsed } : State).setVm s₂.vm).setTop g).pushFrame (.throwing q) := by
      refine e3.trans ?_
      rw [hf₂, State.calling_eq h.top, State.setFrames_setFrames, State.pushFrame, State.frames_setTop _ hr', State.setTop_of_frames _ hr', State.setFrames_setFrames, hr]
      rfl
    have hsame : U.sameButNew ({ U with heap := s₂.heap, slotsUsed := s₂.slotsUsed } : State) L mc ms := by
      refine ⟨?_, q2, q3, q4, q5, q6⟩
      obtain ⟨t, ht, -⟩ := State.frames_cons hr
      show ({ U with heap := s₂.heap, slotsUsed := s₂.slotsUsed } : State) = { U.setFrames U.frames with heap := s₂.heap, slotsUsed := s₂.slotsUsed }
      rw [State.setFrames_self ht]
    subst hg
    refine Or.inr ⟨q, ⟨(({ U with heap := s₂.heap, slotsUsed := s₂.slotsUsed } : State).setVm s₂.vm), Ls ++ L, c0 + mc, s0 + ms⟩,
      ⟨X.admits, X.cas, X.clock, X.frames, X.room, X.hears, X.method, X.code, (X.here.setHeapUsed s₂.heap s₂.slotsUsed).setVm hW'.alike, X.tail, State.WarmedH.trans X.warmed hW', X.limits, X.bytes, X.same.trans (hsame.setVm s.vm)⟩,
      ⟨g, mk, s₂, L, E, ce, rfl, rfl, hx, hce, hcv, hcl, rfl, hL, rfl, rfl⟩, ?_⟩
    show Steps p.tables e below _ (((({ U with heap := s₂.heap, slotsUsed := s₂.slotsUsed } : State).setVm s₂.vm).setTop g).pushFrame (.throwing q))
    rw [← hs₂]
    exact hsteps
end
variable {p : Program} {l : Launch} {e : Env} {R : Room} {s : State} {m : MethodId} {args : Array Value} {below : List Frame} {meth : Method} {c : Code} {T : State} {H : Heap} {locs : List Loc} {cells slots : Nat}
theorem vx_callVX (X : Stand p l e R s m args below meth c T locs cells slots) (hexec : p.tables.exec = Jvm.exec) {own C : String} {index : Nat} {y : MethodName} {bytes : ByteArray} {maxL : Nat} {ret : Option FieldType} {hh : List (Nat × Nat × Nat × Nat)}
    (hown : s.vm.findClass own = some m.cls) (hlink : (Cond.methodLink own index y).before args s = true) (hinst : (Cond.instanceMethod y).before args s = true) (hsel : (Cond.selects C y y).before args s = true)
    (hcode : (Cond.codeWith y bytes maxL ret hh).before args s = true) (hy : y.cls ≠ "java/lang/invoke/MethodHandle" ∧ y.cls ≠ "java/lang/invoke/VarHandle")
    {W9 : Nat} {Pre : Pt → Array Value → Prop} {Post : Pt → Array Value → Option Value → Pt → Prop} {PostX : Pt → Array Value → Addr → Pt → Prop} (hK : vx_Back l R p e below s args y 3 W9 Pre Post PostX)
    {b : Addr} {cellB : Cell} (hcell : T.heap[b]? = some cellB) (hobj : cellB.vm.isStatics = false) (hcls : s.vm.findClass C = some cellB.cls)
    {g : JFrame} (hg : g.method = m) (hsize : g.locals.size = c.maxLocals) {argsL rest : List Value} (hlen : ∀ sig, parseMethodDescriptor y.desc = some sig → argsL.length = sig.parameters.length)
    (hstack : g.stack = argsL.reverse ++ .ref b :: rest) (hW : 2 * g.monitorRoom + (rest.map fun v => v.category).sum ≤ W9) (hdg : decode c.code g.pc = .ok (.invokevirtual index, 3))
    (hpre : ∀ vm₁, s.WarmedH vm₁ → Pre ⟨T.setVm vm₁, locs, cells, slots⟩ (Value.ref b :: argsL).toArray) :
    (∃ (v : Option Value) (vm₁ : Vm) (B : Pt), s.WarmedH vm₁ ∧ Stand p l e R s m args below meth c B.U B.locs B.cells B.slots ∧ Post ⟨T.setVm vm₁, locs, cells, slots⟩ (Value.ref b :: argsL).toArray v B ∧
      ∀ target, Steps p.tables e below (B.U.setTop { g with pc := g.pc + 3, stack := v.toList ++ rest }) target → Steps p.tables e below (T.setTop g) target) ∨
    (∃ (q : Addr) (vm₁ : Vm) (B : Pt), s.WarmedH vm₁ ∧ Stand p l e R s m args below meth c B.U B.locs B.cells B.slots ∧ PostX ⟨T.setVm vm₁, locs, cells, slots⟩ (Value.ref b :: argsL).toArray q B ∧
      Steps p.tables e below (T.setTop g) ((B.U.setTop { g with stack := rest }).pushFrame (.throwing q))) := by
  obtain ⟨mk, methM, hnamed, hmethM, hstM, habM⟩ := Cond.instanceMethod_spec hinst
  obtain ⟨m8, methM', cM, hn8, hmethM', -, -, -, -, -, -, hsigM⟩ := Cond.codeWith_spec hcode
  cases Option.some.inj (hn8.symm.trans hnamed)
  cases hmethM.symm.trans hmethM'
  obtain ⟨c2, r2, m2, q1, q2, q3, q4, kP, hkP, hkPi⟩ := Cond.selects_spec hsel
  cases hcls.symm.trans q1
  cases (State.methodFound?_of_named hnamed hy).symm.trans q2
  cases hnamed.symm.trans q3
  have hselP : selectMethod e.platform s.vm cellB.cls mk = .method mk := by rw [Launch.admits_selectMethod X.admits]; exact q4
  obtain ⟨vm₁, X₁, hstep₁⟩ := X.invokevirtual hexec hown hlink hnamed hmethM hstM hkP hkPi hy (a := b) (cell := cellB) hcell
    (fun z h => by rw [h] at hobj; cases hobj) hselP hmethM habM hkP hkPi (g := g) hg (argsL := argsL) (rest := rest) (hlen _ hsigM) hstack hdg
  rcases hK m meth c ⟨T.setVm vm₁, locs, cells, slots⟩ { g with stack := rest } (.invokevirtual index) mk (Value.ref b :: argsL).toArray X₁ hg hsize hdg hW (X₁.named hnamed) (hpre vm₁ X₁.warmed) with ⟨v, B, X', hpost, hsteps⟩ | ⟨q, B, X', hpost, hsteps⟩
  · exact Or.inl ⟨v, vm₁, B, X₁.warmed, X', hpost, fun target h => hstep₁ _ fun acts => by rw [doInvoke_state]; exact hsteps.trans h⟩
  · exact Or.inr ⟨q, vm₁, B, X₁.warmed, X', hpost, hstep₁ _ fun acts => by rw [doInvoke_state]; exact hsteps⟩
theorem vx_callSX (X : Stand p l e R s m args below meth c T locs cells slots) (hexec : p.tables.exec = Jvm.exec) {own : String} {index : Nat} {y : MethodName} {bytes : ByteArray} {maxL : Nat} {ret : Option FieldType} {hh : List (Nat × Nat × Nat × Nat)}
    (hown : s.vm.findClass own = some m.cls) (hlink : (Cond.methodLink own index y).before args s = true) (hstat : (Cond.static y).before args s = true) (hinit : (Cond.initialized y.cls).before args s = true)
    (hcode : (Cond.codeWith y bytes maxL ret hh).before args s = true) (hy : y.cls ≠ "java/lang/invoke/MethodHandle" ∧ y.cls ≠ "java/lang/invoke/VarHandle")
    {W9 : Nat} {Pre : Pt → Array Value → Prop} {Post : Pt → Array Value → Option Value → Pt → Prop} {PostX : Pt → Array Value → Addr → Pt → Prop} (hK : vx_Back l R p e below s args y 3 W9 Pre Post PostX)
    {g : JFrame} (hg : g.method = m) (hsize : g.locals.size = c.maxLocals) {argsL rest : List Value} (hlen : ∀ sig, parseMethodDescriptor y.desc = some sig → argsL.length = sig.parameters.length)
    (hstack : g.stack = argsL.reverse ++ rest) (hW : 2 * g.monitorRoom + (rest.map fun v => v.category).sum ≤ W9) (hdg : decode c.code g.pc = .ok (.invokestatic index, 3))
    (hpre : ∀ vm₁, s.WarmedH vm₁ → Pre ⟨T.setVm vm₁, locs, cells, slots⟩ argsL.toArray) :
    (∃ (v : Option Value) (vm₁ : Vm) (B : Pt), s.WarmedH vm₁ ∧ Stand p l e R s m args below meth c B.U B.locs B.cells B.slots ∧ Post ⟨T.setVm vm₁, locs, cells, slots⟩ argsL.toArray v B ∧
      ∀ target, Steps p.tables e below (B.U.setTop { g with pc := g.pc + 3, stack := v.toList ++ rest }) target → Steps p.tables e below (T.setTop g) target) ∨
    (∃ (q : Addr) (vm₁ : Vm) (B : Pt), s.WarmedH vm₁ ∧ Stand p l e R s m args below meth c B.U B.locs B.cells B.slots ∧ PostX ⟨T.setVm vm₁, locs, cells, slots⟩ argsL.toArray q B ∧
      Steps p.tables e below (T.setTop g) ((B.U.setTop { g with stack := rest }).pushFrame (.throwing q))) := by
  obtain ⟨mk, methM, cM, hnamed, hmethM, -, -, -, -, -, -, hsigM⟩ := Cond.codeWith_spec hcode
  have hstatic : methM.isStatic = true := Cond.static_spec hnamed hmethM hstat
  obtain ⟨kP, hkP, -⟩ := className_of_methodNamed hnamed
  have hinitP : kP.init = .initialized := Cond.initialized_spec (findClass_of_methodNamed hnamed) hkP hinit
  obtain ⟨vm₁, X₁, hstep₁⟩ := X.invokestatic hexec hown hlink hnamed hmethM hstatic hkP hinitP hy (g := g) hg (argsL := argsL) (rest := rest) (hlen _ hsigM) hstack hdg
  rcases hK m meth c ⟨T.setVm vm₁, locs, cells, slots⟩ { g with stack := rest } (.invokestatic index) mk argsL.toArray X₁ hg hsize hdg hW (X₁.named hnamed) (hpre vm₁ X₁.warmed) with ⟨v, B, X', hpost, hsteps⟩ | ⟨q, B, X', hpost, hsteps⟩
  · exact Or.inl ⟨v, vm₁, B, X₁.warmed, X', hpost, fun target h => hstep₁ _ fun acts => by rw [doInvoke_state]; exact hsteps.trans h⟩
  · exact Or.inr ⟨q, vm₁, B, X₁.warmed, X', hpost, hstep₁ _ fun acts => by rw [doInvoke_state]; exact hsteps⟩
theorem vx_callVW (X : Stand p l e R s m args below meth c T locs cells slots) (hexec : p.tables.exec = Jvm.exec) {own C : String} {index : Nat} {y : MethodName} {bytes : ByteArray} {maxL : Nat} {ret : Option FieldType} {hh : List (Nat × Nat × Nat × Nat)}
    (hown : s.vm.findClass own = some m.cls) (hlink : (Cond.methodLink own index y).before args s = true) (hinst : (Cond.instanceMethod y).before args s = true) (hsel : (Cond.selects C y y).before args s = true)
    (hcode : (Cond.codeWith y bytes maxL ret hh).before args s = true) (hy : y.cls ≠ "java/lang/invoke/MethodHandle" ∧ y.cls ≠ "java/lang/invoke/VarHandle")
    {W9 : Nat} {Pre : Pt → Array Value → Prop} {Post : Pt → Array Value → Option Value → Pt → Prop} (hK : Back l R p e below s args y 3 W9 Pre Post)
    {b : Addr} {cellB : Cell} (hcell : T.heap[b]? = some cellB) (hobj : cellB.vm.isStatics = false) (hcls : s.vm.findClass C = some cellB.cls)
    {g : JFrame} (hg : g.method = m) (hsize : g.locals.size = c.maxLocals) {argsL rest : List Value} (hlen : ∀ sig, parseMethodDescriptor y.desc = some sig → argsL.length = sig.parameters.length)
    (hstack : g.stack = argsL.reverse ++ .ref b :: rest) (hW : 2 * g.monitorRoom + (rest.map fun v => v.category).sum ≤ W9) (hdg : decode c.code g.pc = .ok (.invokevirtual index, 3))
    (hpre : ∀ vm₁, s.WarmedH vm₁ → Pre ⟨T.setVm vm₁, locs, cells, slots⟩ (Value.ref b :: argsL).toArray) :
    ∃ (v : Option Value) (vm₁ : Vm) (B : Pt), s.WarmedH vm₁ ∧ Stand p l e R s m args below meth c B.U B.locs B.cells B.slots ∧ Post ⟨T.setVm vm₁, locs, cells, slots⟩ (Value.ref b :: argsL).toArray v B ∧
      ∀ target, Steps p.tables e below (B.U.setTop { g with pc := g.pc + 3, stack := v.toList ++ rest }) target → Steps p.tables e below (T.setTop g) target := by
  obtain ⟨mk, methM, hnamed, hmethM, hstM, habM⟩ := Cond.instanceMethod_spec hinst
  obtain ⟨m8, methM', cM, hn8, hmethM', -, -, -, -, -, -, hsigM⟩ := Cond.codeWith_spec hcode
  cases Option.some.inj (hn8.symm.trans hnamed)
  cases hmethM.symm.trans hmethM'
  obtain ⟨c2, r2, m2, q1, q2, q3, q4, kP, hkP, hkPi⟩ := Cond.selects_spec hsel
  cases hcls.symm.trans q1
  cases (State.methodFound?_of_named hnamed hy).symm.trans q2
  cases hnamed.symm.trans q3
  have hselP : selectMethod e.platform s.vm cellB.cls mk = .method mk := by rw [Launch.admits_selectMethod X.admits]; exact q4
  obtain ⟨vm₁, X₁, hstep₁⟩ := X.invokevirtual hexec hown hlink hnamed hmethM hstM hkP hkPi hy (a := b) (cell := cellB) hcell
    (fun z h => by rw [h] at hobj; cases hobj) hselP hmethM habM hkP hkPi (g := g) hg (argsL := argsL) (rest := rest) (hlen _ hsigM) hstack hdg
  obtain ⟨v, B, X', hpost, hsteps⟩ := hK m meth c ⟨T.setVm vm₁, locs, cells, slots⟩ { g with stack := rest } (.invokevirtual index) mk (Value.ref b :: argsL).toArray X₁ hg hsize hdg hW (X₁.named hnamed) (hpre vm₁ X₁.warmed)
  exact ⟨v, vm₁, B, X₁.warmed, X', hpost, fun target h => hstep₁ _ fun acts => by rw [doInvoke_state]; exact hsteps.trans h⟩
abbrev vx_CVW (R : Room) (s : State) (args : Array Value) (own C : String) (index : Nat) (y : MethodName) (bytes : ByteArray) (maxL : Nat) (ret : Option FieldType) (hh : List (Nat × Nat × Nat × Nat)) (ws : List Cond) (rm : Room) (mc ms n : Nat) : Prop :=
  (rm.cells = mc ∧ rm.slots = ms ∧ rm.frames + 1 ≤ R.frames ∧ 8 + (maxL + 11) + rm.locals ≤ R.locals ∧ (∀ w ∈ ws, ∀ (a' : Array Value) (U : State), s.WarmedH U.vm → w.before a' U = true) ∧ Cond.codeWith y bytes maxL ret hh ∈ ws) ∧
  (Cond.codeWith y bytes maxL ret hh).before args s = true ∧ (Cond.initialized y.cls).before args s = true ∧ (y.cls ≠ "java/lang/invoke/MethodHandle" ∧ y.cls ≠ "java/lang/invoke/VarHandle") ∧
  (∀ sig, parseMethodDescriptor y.desc = some sig → n = sig.parameters.length) ∧ (Cond.methodLink own index y).before args s = true ∧ (Cond.instanceMethod y).before args s = true ∧ (Cond.selects C y y).before args s = true
theorem vx_cwVW {own C : String} {index maxL mc ms : Nat} {y : MethodName} {bytes : ByteArray} {ret : Option FieldType} {hh : List (Nat × Nat × Nat × Nat)} {Ts ws ws' : List Cond} {rm : Room} (n : Nat) (ht : ∀ w ∈ Ts, w.before args s = true) (hT : GoodIn Ts (wsV own index C y ws)) (hw : ws = Cond.codeWith y bytes maxL ret hh :: ws') (hrc : rm.cells = mc) (hrs : rm.slots = ms)
    (hd : y.cls = C ∧ y.cls ≠ "java/lang/invoke/MethodHandle" ∧ y.cls ≠ "java/lang/invoke/VarHandle" ∧ (parseMethodDescriptor y.desc).map (fun d => d.parameters.length) = some n) (hR : rm.frames + 1 ≤ R.frames ∧ 8 + (maxL + 11) + rm.locals ≤ R.locals) :
    vx_CVW R s args own C index y bytes maxL ret hh ws rm mc ms n := by
  obtain ⟨hC, hd⟩ := hd
  subst hC
  have ok : ∀ w ∈ wsV own index y.cls y ws, w.before args s = true := fun w h => ht w (hT w h).1
  have hG : GoodIn Ts ws := fun w h => hT w (by unfold wsV; exact List.mem_append_right _ h)
  have hc : Cond.codeWith y bytes maxL ret hh ∈ ws := by rw [hw]; exact List.mem_cons_self
  refine ⟨⟨hrc, hrs, hR.1, hR.2, pay_in ht hG, hc⟩, ht _ (hG _ hc).1, ok _ (by simp [wsV]), ⟨hd.1, hd.2.1⟩, fun sig h => ?_, ok _ (by simp [wsV]), ok _ (by simp [wsV]), ok _ (by simp [wsV])⟩
  have h2 := hd.2.2
  rw [h] at h2
  exact (Option.some.inj h2).symm
theorem vx_runVW {y : MethodName} {bytes cc : ByteArray} {maxL nL mc ms n index : Nat} {ret : Option FieldType} {hh : List (Nat × Nat × Nat × Nat)} {ws : List Cond} {rm : Room} {Pc : Array Value → State → Prop} {Qc : Array Value → State → Outcome → State → Prop} {free : Addr → Prop} {Ts : List Cond} {own C : String} {b : Addr} {As rest : List Value} {g : JFrame}
    (S : CallFix p m c cc nL s args Ts own) (hM : Met l y ws rm Pc Qc mc ms free) (cw : vx_CVW R s args own C index y bytes maxL ret hh ws rm mc ms n) (hp : PreV s H C b Pc As)
    (hg : g.method = m) (hn : As.length = n) (hsize : g.locals.size = nL) (hstack : g.stack = As.reverse ++ .ref b :: rest) (hW : 2 * g.monitorRoom + (rest.map fun v => v.category).sum ≤ 8) (hdg : decode cc g.pc = .ok (.invokevirtual index, 3)) (hf : cells + mc ≤ R.cells ∧ slots + ms ≤ R.slots) :
    va_Run p l e R s m args below meth c H locs cells slots mc ms g rest (Qc (Value.ref b :: As).toArray) free := by
  obtain ⟨⟨hrc, hrs, hfr, hlo, hws, hcw⟩, hcode, hini, hy, hlen, hl, hin, hse⟩ := cw
  have hK : Back l R p e below s args y 3 8 (PreOf R mc ms Pc) (PostOf Qc mc ms free) := va_backW (hh := hh) (bytes := bytes) (maxL := maxL) (ret := ret) hM hp.1 hrc hrs hfr hlo hws hcw (fun a' U hW => word_at hW (Or.inl (by first | rfl | simp [Cond.onTables, Cond.keeps, Cond.steady])) hini)
  obtain ⟨hx, hb, hml, ho, -⟩ := S
  obtain ⟨-, ⟨cellB, hcB, hoB, hclB⟩, hPc⟩ := hp
  intro T hT X
  obtain ⟨v, vm₁, ⟨U', l2, c2, s2⟩, hW₁, X', ⟨g', mk, t, L, e1, e2, hq, h1, hL, h2, h3⟩, st⟩ := vx_callVW X hx (C := C) (hh := hh) (bytes := bytes) (maxL := maxL) (ret := ret) ho hl hin hse hcode hy hK (by rw [hT]; exact hcB) hoB hclB hg (hsize.trans hml.symm) (argsL := As) (rest := rest) (fun sig h => hn.trans (hlen sig h)) hstack hW (by rw [hb]; exact hdg)
    (fun vm₁ hW₁ => ⟨hf.1, hf.2, hPc (T.setVm vm₁) hT hW₁⟩)
  dsimp only [Pt.U, Pt.locs, Pt.cells, Pt.slots] at X' e1 e2 h1 h2 h3 st
  subst h1; subst h2; subst h3
  exact ⟨v, (T.setVm vm₁).calling g' mk (Value.ref b :: As).toArray, t, U', L, hT, X', hL, e1, e2, hq, st⟩
section
variable {y : MethodName} {bytes cc : ByteArray} {maxL nL mc ms n index : Nat} {ret : Option FieldType} {ws : List Cond} {rm : Room} {Pc : Array Value → State → Prop} {Qc : Array Value → State → Outcome → State → Prop} {XC : String → State → State → Prop} {free : Addr → Prop} {Ts : List Cond} {own C : String} {b : Addr} {As rest : List Value} {g : JFrame}
theorem vx_runVX {hh : List (Nat × Nat × Nat × Nat)} (S : CallFix p m c cc nL s args Ts own) (hM : vx_Met l y ws rm Pc Qc XC mc ms free) (cw : vx_CVW R s args own C index y bytes maxL ret hh ws rm mc ms n) (hp : PreV s H C b Pc As)
    (hg : g.method = m) (hn : As.length = n) (hsize : g.locals.size = nL) (hstack : g.stack = As.reverse ++ .ref b :: rest) (hW : 2 * g.monitorRoom + (rest.map fun v => v.category).sum ≤ 8) (hdg : decode cc g.pc = .ok (.invokevirtual index, 3)) (hf : cells + mc ≤ R.cells ∧ slots + ms ≤ R.slots) :
    vx_Run p l e R s m args below meth c H locs cells slots mc ms g rest (Qc (Value.ref b :: As).toArray) XC free := by
  obtain ⟨⟨hrc, hrs, hfr, hlo, hws, hcw⟩, hcode, hini, hy, hlen, hl, hin, hse⟩ := cw
  have hK : vx_Back l R p e below s args y 3 8 (PreOf R mc ms Pc) (PostOf Qc mc ms free) (vx_Post XC mc ms free) := vx_backW (hh := hh) (bytes := bytes) (maxL := maxL) (ret := ret) hM hp.1 hrc hrs hfr hlo hws hcw (fun a' U hW => word_at hW (Or.inl (by first | rfl | simp [Cond.onTables, Cond.keeps, Cond.steady])) hini)
  obtain ⟨hx, hb, hml, ho, -⟩ := S
  obtain ⟨-, ⟨cellB, hcB, hoB, hclB⟩, hPc⟩ := hp
  intro T hT X
  rcases vx_callVX X hx (C := C) (hh := hh) (bytes := bytes) (maxL := maxL) (ret := ret) ho hl hin hse hcode hy hK (by rw [hT]; exact hcB) hoB hclB hg (hsize.trans hml.symm) (argsL := As) (rest := rest) (fun sig h => hn.trans (hlen sig h)) hstack hW (by rw [hb]; exact hdg)
    (fun vm₁ hW₁ => ⟨hf.1, hf.2, hPc (T.setVm vm₁) hT hW₁⟩) with ⟨v, vm₁, ⟨U', l2, c2, s2⟩, hW₁, X', ⟨g', mk, t, L, e1, e2, hq, h1, hL, h2, h3⟩, st⟩ | ⟨q, vm₁, ⟨U', l2, c2, s2⟩, hW₁, X', ⟨g', mk, t, L, E, ce, e1, e2, hq, hce, hcv, hcl, h1, hL, h2, h3⟩, st⟩
  · dsimp only [Pt.U, Pt.locs, Pt.cells, Pt.slots] at X' e1 e2 h1 h2 h3 st
    subst h1; subst h2; subst h3
    exact Or.inl ⟨v, (T.setVm vm₁).calling g' mk (Value.ref b :: As).toArray, t, U', L, hT, X', hL, e1, e2, hq, st⟩
  · dsimp only [Pt.U, Pt.locs, Pt.cells, Pt.slots] at X' e1 e2 h1 h2 h3 st hcl
    subst h1; subst h2; subst h3
    exact Or.inr ⟨q, (T.setVm vm₁).calling g' mk (Value.ref b :: As).toArray, t, U', L, E, ce, hT, X', hL, e1, e2, hq, hce, hcv, vx_cls hW₁ hcl, st⟩
theorem vx_runSX {hh : List (Nat × Nat × Nat × Nat)} (S : CallFix p m c cc nL s args Ts own) (hM : vx_Met l y ws rm Pc Qc XC mc ms free) (cw : vx_CSW R s args own index y bytes maxL ret hh ws rm mc ms n) (hp : PreS s H Pc As)
    (hg : g.method = m) (hn : As.length = n) (hsize : g.locals.size = nL) (hstack : g.stack = As.reverse ++ rest) (hW : 2 * g.monitorRoom + (rest.map fun v => v.category).sum ≤ 8) (hdg : decode cc g.pc = .ok (.invokestatic index, 3)) (hf : cells + mc ≤ R.cells ∧ slots + ms ≤ R.slots) :
    vx_Run p l e R s m args below meth c H locs cells slots mc ms g rest (Qc As.toArray) XC free := by
  obtain ⟨⟨hrc, hrs, hfr, hlo, hws, hcw⟩, hcode, hini, hy, hlen, hl, hstt⟩ := cw
  have hK : vx_Back l R p e below s args y 3 8 (PreOf R mc ms Pc) (PostOf Qc mc ms free) (vx_Post XC mc ms free) := vx_backW (hh := hh) (bytes := bytes) (maxL := maxL) (ret := ret) hM hp.1 hrc hrs hfr hlo hws hcw (fun a' U hW => word_at hW (Or.inl (by first | rfl | simp [Cond.onTables, Cond.keeps, Cond.steady])) hini)
  obtain ⟨hx, hb, hml, ho, -⟩ := S
  intro T hT X
  rcases vx_callSX X hx (hh := hh) (bytes := bytes) (maxL := maxL) (ret := ret) ho hl hstt hini hcode hy hK hg (hsize.trans hml.symm) (argsL := As) (rest := rest) (fun sig h => hn.trans (hlen sig h)) hstack hW (by rw [hb]; exact hdg)
    (fun vm₁ hW₁ => ⟨hf.1, hf.2, hp.2 (T.setVm vm₁) hT hW₁⟩) with ⟨v, vm₁, ⟨U', l2, c2, s2⟩, hW₁, X', ⟨g', mk, t, L, e1, e2, hq, h1, hL, h2, h3⟩, st⟩ | ⟨q, vm₁, ⟨U', l2, c2, s2⟩, hW₁, X', ⟨g', mk, t, L, E, ce, e1, e2, hq, hce, hcv, hcl, h1, hL, h2, h3⟩, st⟩
  · dsimp only [Pt.U, Pt.locs, Pt.cells, Pt.slots] at X' e1 e2 h1 h2 h3 st
    subst h1; subst h2; subst h3
    exact Or.inl ⟨v, (T.setVm vm₁).calling g' mk As.toArray, t, U', L, hT, X', hL, e1, e2, hq, st⟩
  · dsimp only [Pt.U, Pt.locs, Pt.cells, Pt.slots] at X' e1 e2 h1 h2 h3 st hcl
    subst h1; subst h2; subst h3
    exact Or.inr ⟨q, (T.setVm vm₁).calling g' mk As.toArray, t, U', L, E, ce, hT, X', hL, e1, e2, hq, hce, hcv, vx_cls hW₁ hcl, st⟩
end
end VXH
theorem vx_ofWH {l : Launch} {y : MethodName} {ws ws' : List Cond} {rm : Room} {Pc : Array Value → State → Prop} {Qc : Array Value → State → Outcome → State → Prop} {XC : String → State → State → Prop} {mc ms : Nat} {free : Addr → Prop} {cc : ByteArray} {maxL : Nat} {ret : Option FieldType} {hh : List (Nat × Nat × Nat × Nat)}
    (hy : plainName y.cls = true) (hw : ws = Cond.codeWith y cc maxL ret hh :: ws')
    (body : ∀ p e s m args below meth c s₁, BodyLoose p l y (headSpec ws rm) cc maxL ret e s m args below meth c s₁ → c.maxLocals = maxL → Pc args s →
      W p l e (headSpec ws rm).room s m args below meth c s.heap [] 0 0 (vx_MQ below Qc XC args s mc ms free) (entryFrame m args maxL)) : vx_Met l y ws rm Pc Qc XC mc ms free := by
  refine MetFree.of_bodyS (code := cc) (maxLocals := maxL) (ret := ret) hy ?_ ?_
  · intro args s m h hn
    obtain ⟨m9, meth, c, hn9, h1, h2, h3, h4, -, h5, h6, -⟩ := Cond.codeWith_spec (atoms_spec (ws := ws) h _ (by rw [hw]; exact List.mem_cons_self))
    cases hn.symm.trans hn9
    exact ⟨meth, c, h1, h2, h3, h4, h5, h6⟩
  · intro p e s m args below meth c s₁ B hml hP _
    have hh0 : s₁.heap = s.heap := by rw [B.state]; rfl
    obtain ⟨t, a1, o, b1, b2, b3⟩ := body p e s m args below meth c s₁ B hml hP s₁ hh0 (Stand.of_body B)
    exact ⟨t, o, a1, b1, b2, b3⟩
/-! ===== END ===== -/
end
section
/-! ===== BEGIN printed: names, fields, word lists, decode rows ===== -/
def RX0 : String := "ModelCopies$Copy"
def TX0 : u_T := fun k => match k with
  | 0 => ("ModelCopies$Copy", "number", "I", true)
  | 1 => ("ModelCopies$Copy", "model", "LModelCopies$Copy;", true)
  | 2 => ("ModelCopies$Copy", "owner", "LModelCopies$House;", true)
  | 3 => ("ModelCopies$Copy", "readings", "[I", true)
  | 4 => ("ModelCopies$Copy", "house", "LModelCopies$House;", false)
  | 5 => ("ModelCopies$Copy", "isTold", "Z", false)
  | _ => ("ModelCopies$Copy", "family", "I", false)
def tyX0 : Nat → FieldType := fun k => match k with
  | 0 => .int
  | 1 => .object "ModelCopies$Copy"
  | 2 => .object "ModelCopies$House"
  | 3 => .array .int
  | 4 => .object "ModelCopies$House"
  | 5 => .boolean
  | _ => .int
abbrev wsX00 : List Cond := u_ws RX0 TX0 7
theorem nmX0 : ∀ a, a < 7 → ∀ b, b < 7 → a ≠ b → (TX0 a).2.1 ≠ (TX0 b).2.1 := by decide +kernel
theorem tyX0_ok : ∀ k, k < 7 → parseFieldDescriptor (TX0 k).2.2.1 = some (tyX0 k) := by decide +kernel
abbrev cX0_init : ByteArray := prog_2_method_1_code
def yX0_init : MethodName := ⟨RX0, "<init>", "(ILModelCopies$Copy;LModelCopies$House;)V"⟩
abbrev cX0_modelIfTold : ByteArray := prog_2_method_2_code
def yX0_modelIfTold : MethodName := ⟨RX0, "modelIfTold", "()LModelCopies$Copy;"⟩
abbrev cX0_isKinOf : ByteArray := prog_2_method_3_code
def yX0_isKinOf : MethodName := ⟨RX0, "isKinOf", "(LModelCopies$Copy;)Z"⟩
abbrev cX0_countErrors : ByteArray := prog_2_method_4_code
def yX0_countErrors : MethodName := ⟨RX0, "countErrors", "()I"⟩
abbrev cX0_countSharedWith : ByteArray := prog_2_method_5_code
def yX0_countSharedWith : MethodName := ⟨RX0, "countSharedWith", "(LModelCopies$Copy;)I"⟩
def RX1 : String := "ModelCopies$Draft"
def TX1 : u_T := fun k => match k with
  | 0 => ("ModelCopies$Draft", "readings", "[I", true)
  | _ => ("ModelCopies$Draft", "filled", "I", false)
def tyX1 : Nat → FieldType := fun k => match k with
  | 0 => .array .int
  | _ => .int
abbrev wsX10 : List Cond := u_ws RX1 TX1 2
theorem nmX1 : ∀ a, a < 2 → ∀ b, b < 2 → a ≠ b → (TX1 a).2.1 ≠ (TX1 b).2.1 := by decide +kernel
theorem tyX1_ok : ∀ k, k < 2 → parseFieldDescriptor (TX1 k).2.2.1 = some (tyX1 k) := by decide +kernel
abbrev cX1_init : ByteArray := prog_3_method_1_code
def yX1_init : MethodName := ⟨RX1, "<init>", "()V"⟩
abbrev cX1_hasRoomAt : ByteArray := prog_3_method_2_code
def yX1_hasRoomAt : MethodName := ⟨RX1, "hasRoomAt", "(I)Z"⟩
abbrev cX1_isFilled : ByteArray := prog_3_method_3_code
def yX1_isFilled : MethodName := ⟨RX1, "isFilled", "(I)Z"⟩
abbrev cX1_put : ByteArray := prog_3_method_4_code
def yX1_put : MethodName := ⟨RX1, "put", "(II)V"⟩
abbrev cX1_clear : ByteArray := prog_3_method_5_code
def yX1_clear : MethodName := ⟨RX1, "clear", "()V"⟩
abbrev cX1_writeInto : ByteArray := prog_3_method_6_code
def yX1_writeInto : MethodName := ⟨RX1, "writeInto", "(LModelCopies$Copy;)I"⟩
def RX2 : String := "ModelCopies$House"
def TX2 : u_T := fun k => match k with
  | 0 => ("ModelCopies$House", "number", "I", true)
  | 1 => ("ModelCopies$House", "held", "[Z", true)
  | 2 => ("ModelCopies$House", "coins", "I", false)
  | _ => ("ModelCopies$House", "laidDown", "I", false)
def tyX2 : Nat → FieldType := fun k => match k with
  | 0 => .int
  | 1 => .array .boolean
  | 2 => .int
  | _ => .int
abbrev wsX20 : List Cond := u_ws RX2 TX2 4
theorem nmX2 : ∀ a, a < 4 → ∀ b, b < 4 → a ≠ b → (TX2 a).2.1 ≠ (TX2 b).2.1 := by decide +kernel
theorem tyX2_ok : ∀ k, k < 4 → parseFieldDescriptor (TX2 k).2.2.1 = some (tyX2 k) := by decide +kernel
abbrev cX2_init : ByteArray := prog_4_method_1_code
def yX2_init : MethodName := ⟨RX2, "<init>", "(I)V"⟩
abbrev cX2_holds : ByteArray := prog_4_method_2_code
def yX2_holds : MethodName := ⟨RX2, "holds", "(I)Z"⟩
abbrev cX2_take : ByteArray := prog_4_method_3_code
def yX2_take : MethodName := ⟨RX2, "take", "(I)V"⟩
abbrev cX2_takeLettersOf : ByteArray := prog_4_method_4_code
def yX2_takeLettersOf : MethodName := ⟨RX2, "takeLettersOf", "(LModelCopies$House;)V"⟩
def RX3 : String := "ModelCopies$Letter"
def TX3 : u_T := fun k => match k with
  | 0 => ("ModelCopies$Letter", "place", "I", true)
  | 1 => ("ModelCopies$Letter", "was", "I", true)
  | _ => ("ModelCopies$Letter", "now", "I", true)
def tyX3 : Nat → FieldType := fun k => match k with
  | 0 => .int
  | 1 => .int
  | _ => .int
abbrev wsX30 : List Cond := u_ws RX3 TX3 3
theorem nmX3 : ∀ a, a < 3 → ∀ b, b < 3 → a ≠ b → (TX3 a).2.1 ≠ (TX3 b).2.1 := by decide +kernel
theorem tyX3_ok : ∀ k, k < 3 → parseFieldDescriptor (TX3 k).2.2.1 = some (tyX3 k) := by decide +kernel
abbrev cX3_init : ByteArray := prog_5_method_1_code
def yX3_init : MethodName := ⟨RX3, "<init>", "(III)V"⟩
abbrev cX3_changes : ByteArray := prog_5_method_2_code
def yX3_changes : MethodName := ⟨RX3, "changes", "(LModelCopies$Copy;)Z"⟩
def RX4 : String := "ModelCopies$Loan"
def TX4 : u_T := fun k => match k with
  | 0 => ("ModelCopies$Loan", "copy", "LModelCopies$Copy;", true)
  | 1 => ("ModelCopies$Loan", "borrower", "LModelCopies$House;", true)
  | 2 => ("ModelCopies$Loan", "lastDay", "I", true)
  | 3 => ("ModelCopies$Loan", "pledge", "I", true)
  | 4 => ("ModelCopies$Loan", "isBack", "Z", false)
  | _ => ("ModelCopies$Loan", "daysLateAtEnd", "I", false)
def tyX4 : Nat → FieldType := fun k => match k with
  | 0 => .object "ModelCopies$Copy"
  | 1 => .object "ModelCopies$House"
  | 2 => .int
  | 3 => .int
  | 4 => .boolean
  | _ => .int
abbrev wsX40 : List Cond := u_ws RX4 TX4 6
theorem nmX4 : ∀ a, a < 6 → ∀ b, b < 6 → a ≠ b → (TX4 a).2.1 ≠ (TX4 b).2.1 := by decide +kernel
theorem tyX4_ok : ∀ k, k < 6 → parseFieldDescriptor (TX4 k).2.2.1 = some (tyX4 k) := by decide +kernel
abbrev cX4_init : ByteArray := prog_6_method_1_code
def yX4_init : MethodName := ⟨RX4, "<init>", "(LModelCopies$Copy;LModelCopies$House;II)V"⟩
abbrev cX4_daysLateOn : ByteArray := prog_6_method_2_code
def yX4_daysLateOn : MethodName := ⟨RX4, "daysLateOn", "(I)I"⟩
abbrev cX4_lostOn : ByteArray := prog_6_method_3_code
def yX4_lostOn : MethodName := ⟨RX4, "lostOn", "(I)I"⟩
def RX5 : String := "ModelCopies"
def TX5 : u_T := fun k => match k with
  | 0 => ("ModelCopies", "houses", "Ljava/util/ArrayList;", true)
  | 1 => ("ModelCopies", "copies", "Ljava/util/ArrayList;", true)
  | 2 => ("ModelCopies", "letters", "Ljava/util/ArrayList;", true)
  | 3 => ("ModelCopies", "loans", "Ljava/util/ArrayList;", true)
  | 4 => ("ModelCopies", "slipsByScribe", "[I", true)
  | 5 => ("ModelCopies", "draft", "LModelCopies$Draft;", true)
  | _ => ("ModelCopies", "today", "I", false)
def tyX5 : Nat → FieldType := fun k => match k with
  | 0 => .object "java/util/ArrayList"
  | 1 => .object "java/util/ArrayList"
  | 2 => .object "java/util/ArrayList"
  | 3 => .object "java/util/ArrayList"
  | 4 => .array .int
  | 5 => .object "ModelCopies$Draft"
  | _ => .int
abbrev wsX50 : List Cond := u_ws RX5 TX5 7
theorem nmX5 : ∀ a, a < 7 → ∀ b, b < 7 → a ≠ b → (TX5 a).2.1 ≠ (TX5 b).2.1 := by decide +kernel
theorem tyX5_ok : ∀ k, k < 7 → parseFieldDescriptor (TX5 k).2.2.1 = some (tyX5 k) := by decide +kernel
abbrev cX5_init : ByteArray := prog_1_method_1_code
def yX5_init : MethodName := ⟨RX5, "<init>", "()V"⟩
abbrev cX5_slip : ByteArray := prog_1_method_2_code
def yX5_slip : MethodName := ⟨RX5, "slip", "(II)I"⟩
abbrev cX5_copy : ByteArray := prog_1_method_3_code
def yX5_copy : MethodName := ⟨RX5, "copy", "(IIIZ)I"⟩
abbrev cX5_tellModel : ByteArray := prog_1_method_4_code
def yX5_tellModel : MethodName := ⟨RX5, "tellModel", "(I)I"⟩
abbrev cX5_pass : ByteArray := prog_1_method_5_code
def yX5_pass : MethodName := ⟨RX5, "pass", "(I)I"⟩
abbrev cX5_correct : ByteArray := prog_1_method_6_code
def yX5_correct : MethodName := ⟨RX5, "correct", "(IIII)I"⟩
abbrev cX5_workIn : ByteArray := prog_1_method_7_code
def yX5_workIn : MethodName := ⟨RX5, "workIn", "(II)I"⟩
abbrev cX5_lend : ByteArray := prog_1_method_8_code
def yX5_lend : MethodName := ⟨RX5, "lend", "(IIII)I"⟩
abbrev cX5_giveBack : ByteArray := prog_1_method_9_code
def yX5_giveBack : MethodName := ⟨RX5, "giveBack", "(I)I"⟩
abbrev cX5_day : ByteArray := prog_1_method_10_code
def yX5_day : MethodName := ⟨RX5, "day", "()I"⟩
abbrev cX5_copies : ByteArray := prog_1_method_11_code
def yX5_copies : MethodName := ⟨RX5, "copies", "()I"⟩
abbrev cX5_reading : ByteArray := prog_1_method_12_code
def yX5_reading : MethodName := ⟨RX5, "reading", "(II)I"⟩
abbrev cX5_errors : ByteArray := prog_1_method_13_code
def yX5_errors : MethodName := ⟨RX5, "errors", "(I)I"⟩
abbrev cX5_shared : ByteArray := prog_1_method_14_code
def yX5_shared : MethodName := ⟨RX5, "shared", "(II)I"⟩
abbrev cX5_houseOf : ByteArray := prog_1_method_15_code
def yX5_houseOf : MethodName := ⟨RX5, "houseOf", "(I)I"⟩
abbrev cX5_ownerOf : ByteArray := prog_1_method_16_code
def yX5_ownerOf : MethodName := ⟨RX5, "ownerOf", "(I)I"⟩
abbrev cX5_toldModel : ByteArray := prog_1_method_17_code
def yX5_toldModel : MethodName := ⟨RX5, "toldModel", "(I)I"⟩
abbrev cX5_slips : ByteArray := prog_1_method_18_code
def yX5_slips : MethodName := ⟨RX5, "slips", "(I)I"⟩
abbrev cX5_family : ByteArray := prog_1_method_19_code
def yX5_family : MethodName := ⟨RX5, "family", "(I)I"⟩
abbrev cX5_familyByErrors : ByteArray := prog_1_method_20_code
def yX5_familyByErrors : MethodName := ⟨RX5, "familyByErrors", "(I)I"⟩
abbrev cX5_families : ByteArray := prog_1_method_21_code
def yX5_families : MethodName := ⟨RX5, "families", "()I"⟩
abbrev cX5_guess : ByteArray := prog_1_method_22_code
def yX5_guess : MethodName := ⟨RX5, "guess", "(I)I"⟩
abbrev cX5_rightGuesses : ByteArray := prog_1_method_23_code
def yX5_rightGuesses : MethodName := ⟨RX5, "rightGuesses", "()I"⟩
abbrev cX5_spread : ByteArray := prog_1_method_24_code
def yX5_spread : MethodName := ⟨RX5, "spread", "(II)I"⟩
abbrev cX5_sources : ByteArray := prog_1_method_25_code
def yX5_sources : MethodName := ⟨RX5, "sources", "(II)I"⟩
abbrev cX5_letters : ByteArray := prog_1_method_26_code
def yX5_letters : MethodName := ⟨RX5, "letters", "()I"⟩
abbrev cX5_hasLetter : ByteArray := prog_1_method_27_code
def yX5_hasLetter : MethodName := ⟨RX5, "hasLetter", "(II)Z"⟩
abbrev cX5_letter : ByteArray := prog_1_method_28_code
def yX5_letter : MethodName := ⟨RX5, "letter", "(I)I"⟩
abbrev cX5_loans : ByteArray := prog_1_method_29_code
def yX5_loans : MethodName := ⟨RX5, "loans", "()I"⟩
abbrev cX5_isBack : ByteArray := prog_1_method_30_code
def yX5_isBack : MethodName := ⟨RX5, "isBack", "(I)Z"⟩
abbrev cX5_late : ByteArray := prog_1_method_31_code
def yX5_late : MethodName := ⟨RX5, "late", "(I)I"⟩
abbrev cX5_coins : ByteArray := prog_1_method_32_code
def yX5_coins : MethodName := ⟨RX5, "coins", "(I)I"⟩
abbrev cX5_laidDown : ByteArray := prog_1_method_33_code
def yX5_laidDown : MethodName := ⟨RX5, "laidDown", "(I)I"⟩
abbrev cX5_findCopy : ByteArray := prog_1_method_34_code
def yX5_findCopy : MethodName := ⟨RX5, "findCopy", "(I)LModelCopies$Copy;"⟩
abbrev cX5_findHouse : ByteArray := prog_1_method_35_code
def yX5_findHouse : MethodName := ⟨RX5, "findHouse", "(I)LModelCopies$House;"⟩
abbrev cX5_findLoan : ByteArray := prog_1_method_36_code
def yX5_findLoan : MethodName := ⟨RX5, "findLoan", "(I)LModelCopies$Loan;"⟩
abbrev cX5_requireLetter : ByteArray := prog_1_method_37_code
def yX5_requireLetter : MethodName := ⟨RX5, "requireLetter", "(I)V"⟩
abbrev cX5_requirePlace : ByteArray := prog_1_method_38_code
def yX5_requirePlace : MethodName := ⟨RX5, "requirePlace", "(I)V"⟩
abbrev cX5_requireScribe : ByteArray := prog_1_method_39_code
def yX5_requireScribe : MethodName := ⟨RX5, "requireScribe", "(I)V"⟩
abbrev cX5_requireError : ByteArray := prog_1_method_40_code
def yX5_requireError : MethodName := ⟨RX5, "requireError", "(II)V"⟩
abbrev cX5_numberOf : ByteArray := prog_1_method_41_code
def yX5_numberOf : MethodName := ⟨RX5, "numberOf", "(LModelCopies$Copy;)I"⟩
abbrev cX5_enterFamily : ByteArray := prog_1_method_42_code
def yX5_enterFamily : MethodName := ⟨RX5, "enterFamily", "(LModelCopies$Copy;)V"⟩
abbrev cX5_joinFamilies : ByteArray := prog_1_method_43_code
def yX5_joinFamilies : MethodName := ⟨RX5, "joinFamilies", "(II)V"⟩
abbrev cX5_findFamiliesAnew : ByteArray := prog_1_method_44_code
def yX5_findFamiliesAnew : MethodName := ⟨RX5, "findFamiliesAnew", "()V"⟩
abbrev cX5_setOf : ByteArray := prog_1_method_45_code
def yX5_setOf : MethodName := ⟨RX5, "setOf", "(LModelCopies$Copy;)J"⟩
abbrev cX5_lowestIn : ByteArray := prog_1_method_46_code
def yX5_lowestIn : MethodName := ⟨RX5, "lowestIn", "(J)I"⟩
abbrev cX5_copiesThatRead : ByteArray := prog_1_method_47_code
def yX5_copiesThatRead : MethodName := ⟨RX5, "copiesThatRead", "(II)J"⟩
abbrev cX5_kinByErrors : ByteArray := prog_1_method_48_code
def yX5_kinByErrors : MethodName := ⟨RX5, "kinByErrors", "(LModelCopies$Copy;)J"⟩
abbrev cX5_kinByModels : ByteArray := prog_1_method_49_code
def yX5_kinByModels : MethodName := ⟨RX5, "kinByModels", "(LModelCopies$Copy;)J"⟩
abbrev cX5_guessFor : ByteArray := prog_1_method_50_code
def yX5_guessFor : MethodName := ⟨RX5, "guessFor", "(LModelCopies$Copy;)LModelCopies$Copy;"⟩
abbrev cX5_worthAsModel : ByteArray := prog_1_method_51_code
def yX5_worthAsModel : MethodName := ⟨RX5, "worthAsModel", "(LModelCopies$Copy;LModelCopies$Copy;)I"⟩
def RX6 : String := "ModelCopiesModel"
def TX6 : u_T := fun k => match k with
  | 0 => ("ModelCopiesModel", "readings", "[I", true)
  | 1 => ("ModelCopiesModel", "models", "[I", true)
  | 2 => ("ModelCopiesModel", "told", "[Z", true)
  | 3 => ("ModelCopiesModel", "owners", "[I", true)
  | 4 => ("ModelCopiesModel", "houses", "[I", true)
  | 5 => ("ModelCopiesModel", "copies", "I", false)
  | 6 => ("ModelCopiesModel", "draft", "[I", true)
  | 7 => ("ModelCopiesModel", "drafted", "I", false)
  | 8 => ("ModelCopiesModel", "slips", "[I", true)
  | 9 => ("ModelCopiesModel", "day", "I", false)
  | 10 => ("ModelCopiesModel", "spots", "[I", true)
  | 11 => ("ModelCopiesModel", "olds", "[I", true)
  | 12 => ("ModelCopiesModel", "news", "[I", true)
  | 13 => ("ModelCopiesModel", "has", "[Z", true)
  | 14 => ("ModelCopiesModel", "letters", "I", false)
  | 15 => ("ModelCopiesModel", "lent", "[I", true)
  | 16 => ("ModelCopiesModel", "borrowers", "[I", true)
  | 17 => ("ModelCopiesModel", "lasts", "[I", true)
  | 18 => ("ModelCopiesModel", "pledges", "[I", true)
  | 19 => ("ModelCopiesModel", "lates", "[I", true)
  | 20 => ("ModelCopiesModel", "back", "[Z", true)
  | 21 => ("ModelCopiesModel", "loans", "I", false)
  | 22 => ("ModelCopiesModel", "coins", "[I", true)
  | 23 => ("ModelCopiesModel", "laid", "[I", true)
  | 24 => ("ModelCopiesModel", "families", "[I", true)
  | _ => ("ModelCopiesModel", "last", "I", false)
def tyX6 : Nat → FieldType := fun k => match k with
  | 0 => .array .int
  | 1 => .array .int
  | 2 => .array .boolean
  | 3 => .array .int
  | 4 => .array .int
  | 5 => .int
  | 6 => .array .int
  | 7 => .int
  | 8 => .array .int
  | 9 => .int
  | 10 => .array .int
  | 11 => .array .int
  | 12 => .array .int
  | 13 => .array .boolean
  | 14 => .int
  | 15 => .array .int
  | 16 => .array .int
  | 17 => .array .int
  | 18 => .array .int
  | 19 => .array .int
  | 20 => .array .boolean
  | 21 => .int
  | 22 => .array .int
  | 23 => .array .int
  | 24 => .array .int
  | _ => .int
abbrev wsX60 : List Cond := u_ws RX6 TX6 26
theorem nmX6 : ∀ a, a < 26 → ∀ b, b < 26 → a ≠ b → (TX6 a).2.1 ≠ (TX6 b).2.1 := by decide +kernel
theorem tyX6_ok : ∀ k, k < 26 → parseFieldDescriptor (TX6 k).2.2.1 = some (tyX6 k) := by decide +kernel
abbrev cX6_init : ByteArray := prog_8_method_1_code
def yX6_init : MethodName := ⟨RX6, "<init>", "()V"⟩
abbrev cX6_thrown : ByteArray := prog_8_method_2_code
def yX6_thrown : MethodName := ⟨RX6, "thrown", "()I"⟩
abbrev cX6_in : ByteArray := prog_8_method_3_code
def yX6_in : MethodName := ⟨RX6, "in", "(III)Z"⟩
abbrev cX6_goes : ByteArray := prog_8_method_4_code
def yX6_goes : MethodName := ⟨RX6, "goes", "(ZZZ)Z"⟩
abbrev cX6_isPlace : ByteArray := prog_8_method_5_code
def yX6_isPlace : MethodName := ⟨RX6, "isPlace", "(I)Z"⟩
abbrev cX6_isHouse : ByteArray := prog_8_method_6_code
def yX6_isHouse : MethodName := ⟨RX6, "isHouse", "(I)Z"⟩
abbrev cX6_isScribe : ByteArray := prog_8_method_7_code
def yX6_isScribe : MethodName := ⟨RX6, "isScribe", "(I)Z"⟩
abbrev cX6_isCopy : ByteArray := prog_8_method_8_code
def yX6_isCopy : MethodName := ⟨RX6, "isCopy", "(I)Z"⟩
abbrev cX6_isLetter : ByteArray := prog_8_method_9_code
def yX6_isLetter : MethodName := ⟨RX6, "isLetter", "(I)Z"⟩
abbrev cX6_isLoan : ByteArray := prog_8_method_10_code
def yX6_isLoan : MethodName := ⟨RX6, "isLoan", "(I)Z"⟩
abbrev cX6_slip : ByteArray := prog_8_method_11_code
def yX6_slip : MethodName := ⟨RX6, "slip", "(II)I"⟩
abbrev cX6_copy : ByteArray := prog_8_method_12_code
def yX6_copy : MethodName := ⟨RX6, "copy", "(IIIZ)I"⟩
abbrev cX6_tellModel : ByteArray := prog_8_method_13_code
def yX6_tellModel : MethodName := ⟨RX6, "tellModel", "(I)I"⟩
abbrev cX6_pass : ByteArray := prog_8_method_14_code
def yX6_pass : MethodName := ⟨RX6, "pass", "(I)I"⟩
abbrev cX6_correct : ByteArray := prog_8_method_15_code
def yX6_correct : MethodName := ⟨RX6, "correct", "(IIII)I"⟩
abbrev cX6_workIn : ByteArray := prog_8_method_16_code
def yX6_workIn : MethodName := ⟨RX6, "workIn", "(II)I"⟩
abbrev cX6_gets : ByteArray := prog_8_method_17_code
def yX6_gets : MethodName := ⟨RX6, "gets", "(II)V"⟩
abbrev cX6_lend : ByteArray := prog_8_method_18_code
def yX6_lend : MethodName := ⟨RX6, "lend", "(IIII)I"⟩
abbrev cX6_lateNow : ByteArray := prog_8_method_19_code
def yX6_lateNow : MethodName := ⟨RX6, "lateNow", "(I)I"⟩
abbrev cX6_giveBack : ByteArray := prog_8_method_20_code
def yX6_giveBack : MethodName := ⟨RX6, "giveBack", "(I)I"⟩
abbrev cX6_day : ByteArray := prog_8_method_21_code
def yX6_day : MethodName := ⟨RX6, "day", "()I"⟩
abbrev cX6_copies : ByteArray := prog_8_method_22_code
def yX6_copies : MethodName := ⟨RX6, "copies", "()I"⟩
abbrev cX6_reading : ByteArray := prog_8_method_23_code
def yX6_reading : MethodName := ⟨RX6, "reading", "(II)I"⟩
abbrev cX6_errorsOf : ByteArray := prog_8_method_24_code
def yX6_errorsOf : MethodName := ⟨RX6, "errorsOf", "(I)I"⟩
abbrev cX6_share : ByteArray := prog_8_method_25_code
def yX6_share : MethodName := ⟨RX6, "share", "(II)I"⟩
abbrev cX6_errors : ByteArray := prog_8_method_26_code
def yX6_errors : MethodName := ⟨RX6, "errors", "(I)I"⟩
abbrev cX6_shared : ByteArray := prog_8_method_27_code
def yX6_shared : MethodName := ⟨RX6, "shared", "(II)I"⟩
abbrev cX6_houseOf : ByteArray := prog_8_method_28_code
def yX6_houseOf : MethodName := ⟨RX6, "houseOf", "(I)I"⟩
abbrev cX6_ownerOf : ByteArray := prog_8_method_29_code
def yX6_ownerOf : MethodName := ⟨RX6, "ownerOf", "(I)I"⟩
abbrev cX6_toldModel : ByteArray := prog_8_method_30_code
def yX6_toldModel : MethodName := ⟨RX6, "toldModel", "(I)I"⟩
abbrev cX6_slips : ByteArray := prog_8_method_31_code
def yX6_slips : MethodName := ⟨RX6, "slips", "(I)I"⟩
abbrev cX6_areKin : ByteArray := prog_8_method_32_code
def yX6_areKin : MethodName := ⟨RX6, "areKin", "(II)Z"⟩
abbrev cX6_sorts : ByteArray := prog_8_method_33_code
def yX6_sorts : MethodName := ⟨RX6, "sorts", "()V"⟩
abbrev cX6_family : ByteArray := prog_8_method_34_code
def yX6_family : MethodName := ⟨RX6, "family", "(I)I"⟩
abbrev cX6_familyByErrors : ByteArray := prog_8_method_35_code
def yX6_familyByErrors : MethodName := ⟨RX6, "familyByErrors", "(I)I"⟩
abbrev cX6_families : ByteArray := prog_8_method_36_code
def yX6_families : MethodName := ⟨RX6, "families", "()I"⟩
abbrev cX6_guesses : ByteArray := prog_8_method_37_code
def yX6_guesses : MethodName := ⟨RX6, "guesses", "(I)I"⟩
abbrev cX6_guess : ByteArray := prog_8_method_38_code
def yX6_guess : MethodName := ⟨RX6, "guess", "(I)I"⟩
abbrev cX6_rightGuesses : ByteArray := prog_8_method_39_code
def yX6_rightGuesses : MethodName := ⟨RX6, "rightGuesses", "()I"⟩
abbrev cX6_isError : ByteArray := prog_8_method_40_code
def yX6_isError : MethodName := ⟨RX6, "isError", "(II)Z"⟩
abbrev cX6_spread : ByteArray := prog_8_method_41_code
def yX6_spread : MethodName := ⟨RX6, "spread", "(II)I"⟩
abbrev cX6_sources : ByteArray := prog_8_method_42_code
def yX6_sources : MethodName := ⟨RX6, "sources", "(II)I"⟩
abbrev cX6_letters : ByteArray := prog_8_method_43_code
def yX6_letters : MethodName := ⟨RX6, "letters", "()I"⟩
abbrev cX6_hasLetter : ByteArray := prog_8_method_44_code
def yX6_hasLetter : MethodName := ⟨RX6, "hasLetter", "(II)Z"⟩
abbrev cX6_letter : ByteArray := prog_8_method_45_code
def yX6_letter : MethodName := ⟨RX6, "letter", "(I)I"⟩
abbrev cX6_loans : ByteArray := prog_8_method_46_code
def yX6_loans : MethodName := ⟨RX6, "loans", "()I"⟩
abbrev cX6_isBack : ByteArray := prog_8_method_47_code
def yX6_isBack : MethodName := ⟨RX6, "isBack", "(I)Z"⟩
abbrev cX6_late : ByteArray := prog_8_method_48_code
def yX6_late : MethodName := ⟨RX6, "late", "(I)I"⟩
abbrev cX6_coins : ByteArray := prog_8_method_49_code
def yX6_coins : MethodName := ⟨RX6, "coins", "(I)I"⟩
abbrev cX6_laidDown : ByteArray := prog_8_method_50_code
def yX6_laidDown : MethodName := ⟨RX6, "laidDown", "(I)I"⟩
def RJx145de : String := "java/io/Serializable"
def TJx145de : u_T := fun k => match k with
  | _ => ("", "", "", false)
def tyJx145de : Nat → FieldType := fun k => match k with
  | _ => .int
abbrev wsJx145de0 : List Cond := u_ws RJx145de TJx145de 0
theorem nmJx145de : ∀ a, a < 0 → ∀ b, b < 0 → a ≠ b → (TJx145de a).2.1 ≠ (TJx145de b).2.1 := by decide +kernel
theorem tyJx145de_ok : ∀ k, k < 0 → parseFieldDescriptor (TJx145de k).2.2.1 = some (tyJx145de k) := by decide +kernel
def RJx8e188 : String := "java/lang/Cloneable"
def TJx8e188 : u_T := fun k => match k with
  | _ => ("", "", "", false)
def tyJx8e188 : Nat → FieldType := fun k => match k with
  | _ => .int
abbrev wsJx8e1880 : List Cond := u_ws RJx8e188 TJx8e188 0
theorem nmJx8e188 : ∀ a, a < 0 → ∀ b, b < 0 → a ≠ b → (TJx8e188 a).2.1 ≠ (TJx8e188 b).2.1 := by decide +kernel
theorem tyJx8e188_ok : ∀ k, k < 0 → parseFieldDescriptor (TJx8e188 k).2.2.1 = some (tyJx8e188 k) := by decide +kernel
def RJxab1ab : String := "java/lang/Iterable"
def TJxab1ab : u_T := fun k => match k with
  | _ => ("", "", "", false)
def tyJxab1ab : Nat → FieldType := fun k => match k with
  | _ => .int
abbrev wsJxab1ab0 : List Cond := u_ws RJxab1ab TJxab1ab 0
theorem nmJxab1ab : ∀ a, a < 0 → ∀ b, b < 0 → a ≠ b → (TJxab1ab a).2.1 ≠ (TJxab1ab b).2.1 := by decide +kernel
theorem tyJxab1ab_ok : ∀ k, k < 0 → parseFieldDescriptor (TJxab1ab k).2.2.1 = some (tyJxab1ab k) := by decide +kernel
def RJ13 : String := "java/lang/Long"
def TJ13 : u_T := fun k => match k with
  | _ => ("", "", "", false)
def tyJ13 : Nat → FieldType := fun k => match k with
  | _ => .int
abbrev wsJ130 : List Cond := u_ws RJ13 TJ13 0
theorem nmJ13 : ∀ a, a < 0 → ∀ b, b < 0 → a ≠ b → (TJ13 a).2.1 ≠ (TJ13 b).2.1 := by decide +kernel
theorem tyJ13_ok : ∀ k, k < 0 → parseFieldDescriptor (TJ13 k).2.2.1 = some (tyJ13 k) := by decide +kernel
abbrev cJ13_bitCount_95d88 : ByteArray := prog_16_method_50_code
def yJ13_bitCount_95d88 : MethodName := ⟨RJ13, "bitCount", "(J)I"⟩
def RJ9 : String := "java/lang/Math"
def TJ9 : u_T := fun k => match k with
  | _ => ("", "", "", false)
def tyJ9 : Nat → FieldType := fun k => match k with
  | _ => .int
abbrev wsJ90 : List Cond := u_ws RJ9 TJ9 0
theorem nmJ9 : ∀ a, a < 0 → ∀ b, b < 0 → a ≠ b → (TJ9 a).2.1 ≠ (TJ9 b).2.1 := by decide +kernel
theorem tyJ9_ok : ∀ k, k < 0 → parseFieldDescriptor (TJ9 k).2.2.1 = some (tyJ9 k) := by decide +kernel
abbrev cJ9_max_7cf53 : ByteArray := prog_17_method_65_code
def yJ9_max_7cf53 : MethodName := ⟨RJ9, "max", "(II)I"⟩
abbrev cJ9_min_7cf53 : ByteArray := prog_17_method_69_code
def yJ9_min_7cf53 : MethodName := ⟨RJ9, "min", "(II)I"⟩
def RJ0 : String := "java/lang/String"
def TJ0 : u_T := fun k => match k with
  | _ => ("", "", "", false)
def tyJ0 : Nat → FieldType := fun k => match k with
  | _ => .int
abbrev wsJ00 : List Cond := u_ws RJ0 TJ0 0
theorem nmJ0 : ∀ a, a < 0 → ∀ b, b < 0 → a ≠ b → (TJ0 a).2.1 ≠ (TJ0 b).2.1 := by decide +kernel
theorem tyJ0_ok : ∀ k, k < 0 → parseFieldDescriptor (TJ0 k).2.2.1 = some (tyJ0 k) := by decide +kernel
def RJ10 : String := "java/lang/System"
def TJ10 : u_T := fun k => match k with
  | _ => ("", "", "", false)
def tyJ10 : Nat → FieldType := fun k => match k with
  | _ => .int
abbrev wsJ100 : List Cond := u_ws RJ10 TJ10 0
theorem nmJ10 : ∀ a, a < 0 → ∀ b, b < 0 → a ≠ b → (TJ10 a).2.1 ≠ (TJ10 b).2.1 := by decide +kernel
theorem tyJ10_ok : ∀ k, k < 0 → parseFieldDescriptor (TJ10 k).2.2.1 = some (tyJ10 k) := by decide +kernel
def RJxa1e45 : String := "java/util/AbstractCollection"
def TJxa1e45 : u_T := fun k => match k with
  | _ => ("", "", "", false)
def tyJxa1e45 : Nat → FieldType := fun k => match k with
  | _ => .int
abbrev wsJxa1e450 : List Cond := u_ws RJxa1e45 TJxa1e45 0
theorem nmJxa1e45 : ∀ a, a < 0 → ∀ b, b < 0 → a ≠ b → (TJxa1e45 a).2.1 ≠ (TJxa1e45 b).2.1 := by decide +kernel
theorem tyJxa1e45_ok : ∀ k, k < 0 → parseFieldDescriptor (TJxa1e45 k).2.2.1 = some (tyJxa1e45 k) := by decide +kernel
abbrev cJxa1e45_init_da8c8 : ByteArray := prog_22_method_1_code
def yJxa1e45_init_da8c8 : MethodName := ⟨RJxa1e45, "<init>", "()V"⟩
def RJxc12de : String := "java/util/AbstractList"
def TJxc12de : u_T := fun k => match k with
  | _ => ("", "", "", false)
def tyJxc12de : Nat → FieldType := fun k => match k with
  | _ => .int
abbrev wsJxc12de0 : List Cond := u_ws RJxc12de TJxc12de 0
theorem nmJxc12de : ∀ a, a < 0 → ∀ b, b < 0 → a ≠ b → (TJxc12de a).2.1 ≠ (TJxc12de b).2.1 := by decide +kernel
theorem tyJxc12de_ok : ∀ k, k < 0 → parseFieldDescriptor (TJxc12de k).2.2.1 = some (tyJxc12de k) := by decide +kernel
abbrev cJxc12de_init_da8c8 : ByteArray := prog_23_method_1_code
def yJxc12de_init_da8c8 : MethodName := ⟨RJxc12de, "<init>", "()V"⟩
def RJx4a65c : String := "java/util/ArrayList"
def TJx4a65c : u_T := fun k => match k with
  | 0 => ("java/util/AbstractList", "modCount", "I", false)
  | 1 => ("java/util/ArrayList", "elementData", "[Ljava/lang/Object;", false)
  | _ => ("java/util/ArrayList", "size", "I", false)
def tyJx4a65c : Nat → FieldType := fun k => match k with
  | 0 => .int
  | 1 => .array (.object "java/lang/Object")
  | _ => .int
abbrev wsJx4a65c0 : List Cond := u_ws RJx4a65c TJx4a65c 3
theorem nmJx4a65c : ∀ a, a < 3 → ∀ b, b < 3 → a ≠ b → (TJx4a65c a).2.1 ≠ (TJx4a65c b).2.1 := by decide +kernel
theorem tyJx4a65c_ok : ∀ k, k < 3 → parseFieldDescriptor (TJx4a65c k).2.2.1 = some (tyJx4a65c k) := by decide +kernel
abbrev cJx4a65c_init_da8c8 : ByteArray := prog_24_method_2_code
def yJx4a65c_init_da8c8 : MethodName := ⟨RJx4a65c, "<init>", "()V"⟩
abbrev cJx4a65c_grow_92f84 : ByteArray := prog_24_method_6_code
def yJx4a65c_grow_92f84 : MethodName := ⟨RJx4a65c, "grow", "(I)[Ljava/lang/Object;"⟩
abbrev cJx4a65c_grow_d5877 : ByteArray := prog_24_method_7_code
def yJx4a65c_grow_d5877 : MethodName := ⟨RJx4a65c, "grow", "()[Ljava/lang/Object;"⟩
abbrev cJx4a65c_size_8abf5 : ByteArray := prog_24_method_8_code
def yJx4a65c_size_8abf5 : MethodName := ⟨RJx4a65c, "size", "()I"⟩
abbrev cJx4a65c_elementData_915e3 : ByteArray := prog_24_method_18_code
def yJx4a65c_elementData_915e3 : MethodName := ⟨RJx4a65c, "elementData", "(I)Ljava/lang/Object;"⟩
abbrev cJx4a65c_get_915e3 : ByteArray := prog_24_method_20_code
def yJx4a65c_get_915e3 : MethodName := ⟨RJx4a65c, "get", "(I)Ljava/lang/Object;"⟩
abbrev cJx4a65c_add_72be8 : ByteArray := prog_24_method_24_code
def yJx4a65c_add_72be8 : MethodName := ⟨RJx4a65c, "add", "(Ljava/lang/Object;[Ljava/lang/Object;I)V"⟩
abbrev cJx4a65c_add_9ea2d : ByteArray := prog_24_method_25_code
def yJx4a65c_add_9ea2d : MethodName := ⟨RJx4a65c, "add", "(Ljava/lang/Object;)Z"⟩
def RJ7 : String := "java/util/Arrays"
def TJ7 : u_T := fun k => match k with
  | _ => ("", "", "", false)
def tyJ7 : Nat → FieldType := fun k => match k with
  | _ => .int
abbrev wsJ70 : List Cond := u_ws RJ7 TJ7 0
theorem nmJ7 : ∀ a, a < 0 → ∀ b, b < 0 → a ≠ b → (TJ7 a).2.1 ≠ (TJ7 b).2.1 := by decide +kernel
theorem tyJ7_ok : ∀ k, k < 0 → parseFieldDescriptor (TJ7 k).2.2.1 = some (tyJ7 k) := by decide +kernel
abbrev cJ7_fill_53178 : ByteArray := prog_25_method_103_code
def yJ7_fill_53178 : MethodName := ⟨RJ7, "fill", "([II)V"⟩
abbrev cJ7_copyOf_1904c : ByteArray := prog_25_method_119_code
def yJ7_copyOf_1904c : MethodName := ⟨RJ7, "copyOf", "([Ljava/lang/Object;I)[Ljava/lang/Object;"⟩
abbrev cJ7_copyOf_6403c : ByteArray := prog_25_method_120_code
def yJ7_copyOf_6403c : MethodName := ⟨RJ7, "copyOf", "([Ljava/lang/Object;ILjava/lang/Class;)[Ljava/lang/Object;"⟩
def RJx5ef63 : String := "java/util/Collection"
def TJx5ef63 : u_T := fun k => match k with
  | _ => ("", "", "", false)
def tyJx5ef63 : Nat → FieldType := fun k => match k with
  | _ => .int
abbrev wsJx5ef630 : List Cond := u_ws RJx5ef63 TJx5ef63 0
theorem nmJx5ef63 : ∀ a, a < 0 → ∀ b, b < 0 → a ≠ b → (TJx5ef63 a).2.1 ≠ (TJx5ef63 b).2.1 := by decide +kernel
theorem tyJx5ef63_ok : ∀ k, k < 0 → parseFieldDescriptor (TJx5ef63 k).2.2.1 = some (tyJx5ef63 k) := by decide +kernel
def RJxbd725 : String := "java/util/List"
def TJxbd725 : u_T := fun k => match k with
  | _ => ("", "", "", false)
def tyJxbd725 : Nat → FieldType := fun k => match k with
  | _ => .int
abbrev wsJxbd7250 : List Cond := u_ws RJxbd725 TJxbd725 0
theorem nmJxbd725 : ∀ a, a < 0 → ∀ b, b < 0 → a ≠ b → (TJxbd725 a).2.1 ≠ (TJxbd725 b).2.1 := by decide +kernel
theorem tyJxbd725_ok : ∀ k, k < 0 → parseFieldDescriptor (TJxbd725 k).2.2.1 = some (tyJxbd725 k) := by decide +kernel
def RJ15 : String := "java/util/Objects"
def TJ15 : u_T := fun k => match k with
  | _ => ("", "", "", false)
def tyJ15 : Nat → FieldType := fun k => match k with
  | _ => .int
abbrev wsJ150 : List Cond := u_ws RJ15 TJ15 0
theorem nmJ15 : ∀ a, a < 0 → ∀ b, b < 0 → a ≠ b → (TJ15 a).2.1 ≠ (TJ15 b).2.1 := by decide +kernel
theorem tyJ15_ok : ∀ k, k < 0 → parseFieldDescriptor (TJ15 k).2.2.1 = some (tyJ15 k) := by decide +kernel
abbrev cJ15_checkIndex_7cf53 : ByteArray := prog_28_method_17_code
def yJ15_checkIndex_7cf53 : MethodName := ⟨RJ15, "checkIndex", "(II)I"⟩
def RJxf0a74 : String := "java/util/RandomAccess"
def TJxf0a74 : u_T := fun k => match k with
  | _ => ("", "", "", false)
def tyJxf0a74 : Nat → FieldType := fun k => match k with
  | _ => .int
abbrev wsJxf0a740 : List Cond := u_ws RJxf0a74 TJxf0a74 0
theorem nmJxf0a74 : ∀ a, a < 0 → ∀ b, b < 0 → a ≠ b → (TJxf0a74 a).2.1 ≠ (TJxf0a74 b).2.1 := by decide +kernel
theorem tyJxf0a74_ok : ∀ k, k < 0 → parseFieldDescriptor (TJxf0a74 k).2.2.1 = some (tyJxf0a74 k) := by decide +kernel
def RJxa66e6 : String := "java/util/SequencedCollection"
def TJxa66e6 : u_T := fun k => match k with
  | _ => ("", "", "", false)
def tyJxa66e6 : Nat → FieldType := fun k => match k with
  | _ => .int
abbrev wsJxa66e60 : List Cond := u_ws RJxa66e6 TJxa66e6 0
theorem nmJxa66e6 : ∀ a, a < 0 → ∀ b, b < 0 → a ≠ b → (TJxa66e6 a).2.1 ≠ (TJxa66e6 b).2.1 := by decide +kernel
theorem tyJxa66e6_ok : ∀ k, k < 0 → parseFieldDescriptor (TJxa66e6 k).2.2.1 = some (tyJxa66e6 k) := by decide +kernel
def RJ8 : String := "jdk/internal/util/ArraysSupport"
def TJ8 : u_T := fun k => match k with
  | _ => ("", "", "", false)
def tyJ8 : Nat → FieldType := fun k => match k with
  | _ => .int
abbrev wsJ80 : List Cond := u_ws RJ8 TJ8 0
theorem nmJ8 : ∀ a, a < 0 → ∀ b, b < 0 → a ≠ b → (TJ8 a).2.1 ≠ (TJ8 b).2.1 := by decide +kernel
theorem tyJ8_ok : ∀ k, k < 0 → parseFieldDescriptor (TJ8 k).2.2.1 = some (tyJ8 k) := by decide +kernel
abbrev cJ8_newLength_cabcc : ByteArray := prog_31_method_27_code
def yJ8_newLength_cabcc : MethodName := ⟨RJ8, "newLength", "(III)I"⟩
abbrev cJ8_hugeLength_7cf53 : ByteArray := prog_31_method_28_code
def yJ8_hugeLength_7cf53 : MethodName := ⟨RJ8, "hugeLength", "(II)I"⟩
def RJ3 : String := "jdk/internal/util/Preconditions"
def TJ3 : u_T := fun k => match k with
  | _ => ("", "", "", false)
def tyJ3 : Nat → FieldType := fun k => match k with
  | _ => .int
abbrev wsJ30 : List Cond := u_ws RJ3 TJ3 0
theorem nmJ3 : ∀ a, a < 0 → ∀ b, b < 0 → a ≠ b → (TJ3 a).2.1 ≠ (TJ3 b).2.1 := by decide +kernel
theorem tyJ3_ok : ∀ k, k < 0 → parseFieldDescriptor (TJ3 k).2.2.1 = some (tyJ3 k) := by decide +kernel
abbrev cJ3_checkIndex_8e157 : ByteArray := prog_32_method_11_code
def yJ3_checkIndex_8e157 : MethodName := ⟨RJ3, "checkIndex", "(IILjava/util/function/BiFunction;)I"⟩
def RL : String := "ModelCopiesLaw"
abbrev cL_slip : ByteArray := method_3_code
def yL_slip : MethodName := ⟨RL, "slip", "(LModelCopies;II[J)I"⟩
abbrev cL_copy : ByteArray := method_4_code
def yL_copy : MethodName := ⟨RL, "copy", "(LModelCopies;IIIZ[J)I"⟩
abbrev cL_tellModel : ByteArray := method_5_code
def yL_tellModel : MethodName := ⟨RL, "tellModel", "(LModelCopies;I[J)I"⟩
abbrev cL_pass : ByteArray := method_6_code
def yL_pass : MethodName := ⟨RL, "pass", "(LModelCopies;I[J)I"⟩
abbrev cL_correct : ByteArray := method_7_code
def yL_correct : MethodName := ⟨RL, "correct", "(LModelCopies;IIII[J)I"⟩
abbrev cL_workIn : ByteArray := method_8_code
def yL_workIn : MethodName := ⟨RL, "workIn", "(LModelCopies;II[J)I"⟩
abbrev cL_lend : ByteArray := method_9_code
def yL_lend : MethodName := ⟨RL, "lend", "(LModelCopies;IIII[J)I"⟩
abbrev cL_giveBack : ByteArray := method_10_code
def yL_giveBack : MethodName := ⟨RL, "giveBack", "(LModelCopies;I[J)I"⟩
abbrev cL_reading : ByteArray := method_11_code
def yL_reading : MethodName := ⟨RL, "reading", "(LModelCopies;II[J)I"⟩
abbrev cL_errors : ByteArray := method_12_code
def yL_errors : MethodName := ⟨RL, "errors", "(LModelCopies;I[J)I"⟩
abbrev cL_shared : ByteArray := method_13_code
def yL_shared : MethodName := ⟨RL, "shared", "(LModelCopies;II[J)I"⟩
abbrev cL_houseOf : ByteArray := method_14_code
def yL_houseOf : MethodName := ⟨RL, "houseOf", "(LModelCopies;I[J)I"⟩
abbrev cL_ownerOf : ByteArray := method_15_code
def yL_ownerOf : MethodName := ⟨RL, "ownerOf", "(LModelCopies;I[J)I"⟩
abbrev cL_toldModel : ByteArray := method_16_code
def yL_toldModel : MethodName := ⟨RL, "toldModel", "(LModelCopies;I[J)I"⟩
abbrev cL_slips : ByteArray := method_17_code
def yL_slips : MethodName := ⟨RL, "slips", "(LModelCopies;I[J)I"⟩
abbrev cL_family : ByteArray := method_18_code
def yL_family : MethodName := ⟨RL, "family", "(LModelCopies;I[J)I"⟩
abbrev cL_familyByErrors : ByteArray := method_19_code
def yL_familyByErrors : MethodName := ⟨RL, "familyByErrors", "(LModelCopies;I[J)I"⟩
abbrev cL_guess : ByteArray := method_20_code
def yL_guess : MethodName := ⟨RL, "guess", "(LModelCopies;I[J)I"⟩
abbrev cL_spread : ByteArray := method_21_code
def yL_spread : MethodName := ⟨RL, "spread", "(LModelCopies;II[J)I"⟩
abbrev cL_sources : ByteArray := method_22_code
def yL_sources : MethodName := ⟨RL, "sources", "(LModelCopies;II[J)I"⟩
abbrev cL_hasLetter : ByteArray := method_23_code
def yL_hasLetter : MethodName := ⟨RL, "hasLetter", "(LModelCopies;II[J)I"⟩
abbrev cL_letter : ByteArray := method_24_code
def yL_letter : MethodName := ⟨RL, "letter", "(LModelCopies;I[J)I"⟩
abbrev cL_isBack : ByteArray := method_25_code
def yL_isBack : MethodName := ⟨RL, "isBack", "(LModelCopies;I[J)I"⟩
abbrev cL_late : ByteArray := method_26_code
def yL_late : MethodName := ⟨RL, "late", "(LModelCopies;I[J)I"⟩
abbrev cL_coins : ByteArray := method_27_code
def yL_coins : MethodName := ⟨RL, "coins", "(LModelCopies;I[J)I"⟩
abbrev cL_laidDown : ByteArray := method_28_code
def yL_laidDown : MethodName := ⟨RL, "laidDown", "(LModelCopies;I[J)I"⟩
abbrev cL_law : ByteArray := code
def yL_law : MethodName := ⟨RL, "law", "([I)Z"⟩
def wsX0_init : List Cond := .code yX0_init cX0_init 4 none :: ([.methodLink RX0 3 objectInit, .instanceMethod objectInit, .code objectInit ⟨#[0xb1]⟩ 1 none, .arrayClass .int, .fieldLink RX0 9 "ModelCopies$Copy" "readings" "[I", .fieldLink RX0 15 "ModelCopies$Copy" "isTold" "Z", .fieldLink RX0 19 "ModelCopies$Copy" "number" "I", .fieldLink RX0 23 "ModelCopies$Copy" "model" "LModelCopies$Copy;", .fieldLink RX0 27 "ModelCopies$Copy" "owner" "LModelCopies$House;", .fieldLink RX0 31 "ModelCopies$Copy" "house" "LModelCopies$House;", .fieldLink RX0 34 "ModelCopies$Copy" "family" "I", .methodLink RX0 37 arraycopyName, .native arraycopyName, .static arraycopyName, .initialized "java/lang/System"] ++ wsX00)
def wsX0_modelIfTold : List Cond := .code yX0_modelIfTold cX0_modelIfTold 1 (some (.object "ModelCopies$Copy")) :: ([.fieldLink RX0 15 "ModelCopies$Copy" "isTold" "Z", .fieldLink RX0 23 "ModelCopies$Copy" "model" "LModelCopies$Copy;"] ++ wsX00)
def wsX0_countSharedWith : List Cond := .code yX0_countSharedWith cX0_countSharedWith 4 (some .int) :: ([.fieldLink RX0 9 "ModelCopies$Copy" "readings" "[I"] ++ wsX00)
def wsX0_isKinOf : List Cond := .code yX0_isKinOf cX0_isKinOf 2 (some .boolean) :: ([.methodLink RX0 43 yX0_modelIfTold, .instanceMethod yX0_modelIfTold, .selects RX0 yX0_modelIfTold yX0_modelIfTold, .initialized RX0, .code yX0_modelIfTold cX0_modelIfTold 1 (some (.object "ModelCopies$Copy")), .fieldLink RX0 15 "ModelCopies$Copy" "isTold" "Z", .fieldLink RX0 23 "ModelCopies$Copy" "model" "LModelCopies$Copy;", .methodLink RX0 47 yX0_countSharedWith, .instanceMethod yX0_countSharedWith, .selects RX0 yX0_countSharedWith yX0_countSharedWith, .code yX0_countSharedWith cX0_countSharedWith 4 (some .int), .fieldLink RX0 9 "ModelCopies$Copy" "readings" "[I"] ++ wsX00)
def wsX0_countErrors : List Cond := .code yX0_countErrors cX0_countErrors 1 (some .int) :: ([.methodLink RX0 47 yX0_countSharedWith, .instanceMethod yX0_countSharedWith, .selects RX0 yX0_countSharedWith yX0_countSharedWith, .initialized RX0, .code yX0_countSharedWith cX0_countSharedWith 4 (some .int), .fieldLink RX0 9 "ModelCopies$Copy" "readings" "[I"] ++ wsX00)
def wsJ7_fill_53178 : List Cond := .code yJ7_fill_53178 cJ7_fill_53178 4 none :: ([])
def wsX1_init : List Cond := .code yX1_init cX1_init 1 none :: ([.methodLink RX1 3 objectInit, .instanceMethod objectInit, .code objectInit ⟨#[0xb1]⟩ 1 none, .arrayClass .int, .fieldLink RX1 9 "ModelCopies$Draft" "readings" "[I", .fieldLink RX1 15 "ModelCopies$Draft" "filled" "I", .methodLink RX1 19 yJ7_fill_53178, .static yJ7_fill_53178, .initialized RJ7, .code yJ7_fill_53178 cJ7_fill_53178 4 none] ++ wsX10)
def wsX1_isFilled : List Cond := .code yX1_isFilled cX1_isFilled 2 (some .boolean) :: ([.fieldLink RX1 9 "ModelCopies$Draft" "readings" "[I"] ++ wsX10)
def wsX1_hasRoomAt : List Cond := .code yX1_hasRoomAt cX1_hasRoomAt 2 (some .boolean) :: ([.fieldLink RX1 15 "ModelCopies$Draft" "filled" "I", .methodLink RX1 25 yX1_isFilled, .instanceMethod yX1_isFilled, .selects RX1 yX1_isFilled yX1_isFilled, .initialized RX1, .code yX1_isFilled cX1_isFilled 2 (some .boolean), .fieldLink RX1 9 "ModelCopies$Draft" "readings" "[I"] ++ wsX10)
def wsX1_put : List Cond := .code yX1_put cX1_put 3 none :: ([.fieldLink RX1 15 "ModelCopies$Draft" "filled" "I", .fieldLink RX1 9 "ModelCopies$Draft" "readings" "[I", .methodLink RX1 25 yX1_isFilled, .instanceMethod yX1_isFilled, .selects RX1 yX1_isFilled yX1_isFilled, .initialized RX1, .code yX1_isFilled cX1_isFilled 2 (some .boolean)] ++ wsX10)
def wsX1_clear : List Cond := .code yX1_clear cX1_clear 1 none :: ([.fieldLink RX1 9 "ModelCopies$Draft" "readings" "[I", .fieldLink RX1 15 "ModelCopies$Draft" "filled" "I", .methodLink RX1 19 yJ7_fill_53178, .static yJ7_fill_53178, .initialized RJ7, .code yJ7_fill_53178 cJ7_fill_53178 4 none] ++ wsX10)
def wsX1_writeInto : List Cond := .code yX1_writeInto cX1_writeInto 4 (some .int) :: ([.fieldLink RX1 29 "ModelCopies$Copy" "readings" "[I", .fieldLink RX1 9 "ModelCopies$Draft" "readings" "[I", .methodLink RX1 25 yX1_isFilled, .instanceMethod yX1_isFilled, .selects RX1 yX1_isFilled yX1_isFilled, .initialized RX1, .code yX1_isFilled cX1_isFilled 2 (some .boolean)] ++ wsX00 ++ wsX10)
def wsX2_init : List Cond := .code yX2_init cX2_init 2 none :: ([.methodLink RX2 3 objectInit, .instanceMethod objectInit, .code objectInit ⟨#[0xb1]⟩ 1 none, .arrayClass .boolean, .fieldLink RX2 9 "ModelCopies$House" "held" "[Z", .fieldLink RX2 15 "ModelCopies$House" "coins" "I", .fieldLink RX2 19 "ModelCopies$House" "laidDown" "I", .fieldLink RX2 22 "ModelCopies$House" "number" "I"] ++ wsX20)
def wsX2_holds : List Cond := .code yX2_holds cX2_holds 2 (some .boolean) :: ([.fieldLink RX2 9 "ModelCopies$House" "held" "[Z"] ++ wsX20)
def wsX2_take : List Cond := .code yX2_take cX2_take 2 none :: ([.fieldLink RX2 9 "ModelCopies$House" "held" "[Z"] ++ wsX20)
def wsX2_takeLettersOf : List Cond := .code yX2_takeLettersOf cX2_takeLettersOf 3 none :: ([.methodLink RX2 25 yX2_holds, .instanceMethod yX2_holds, .selects RX2 yX2_holds yX2_holds, .initialized RX2, .code yX2_holds cX2_holds 2 (some .boolean), .fieldLink RX2 9 "ModelCopies$House" "held" "[Z", .methodLink RX2 29 yX2_take, .instanceMethod yX2_take, .selects RX2 yX2_take yX2_take, .code yX2_take cX2_take 2 none] ++ wsX20)
def wsX3_init : List Cond := .code yX3_init cX3_init 4 none :: ([.methodLink RX3 3 objectInit, .instanceMethod objectInit, .code objectInit ⟨#[0xb1]⟩ 1 none, .fieldLink RX3 9 "ModelCopies$Letter" "place" "I", .fieldLink RX3 15 "ModelCopies$Letter" "was" "I", .fieldLink RX3 18 "ModelCopies$Letter" "now" "I"] ++ wsX30)
def wsX3_changes : List Cond := .code yX3_changes cX3_changes 2 (some .boolean) :: ([.fieldLink RX3 9 "ModelCopies$Letter" "place" "I", .fieldLink RX3 21 "ModelCopies$Copy" "readings" "[I", .fieldLink RX3 15 "ModelCopies$Letter" "was" "I", .fieldLink RX3 18 "ModelCopies$Letter" "now" "I"] ++ wsX30 ++ wsX00)
def wsX4_init : List Cond := .code yX4_init cX4_init 5 none :: ([.methodLink RX4 3 objectInit, .instanceMethod objectInit, .code objectInit ⟨#[0xb1]⟩ 1 none, .fieldLink RX4 9 "ModelCopies$Loan" "isBack" "Z", .fieldLink RX4 15 "ModelCopies$Loan" "daysLateAtEnd" "I", .fieldLink RX4 19 "ModelCopies$Loan" "copy" "LModelCopies$Copy;", .fieldLink RX4 23 "ModelCopies$Loan" "borrower" "LModelCopies$House;", .fieldLink RX4 27 "ModelCopies$Loan" "lastDay" "I", .fieldLink RX4 30 "ModelCopies$Loan" "pledge" "I"] ++ wsX40)
def wsX4_daysLateOn : List Cond := .code yX4_daysLateOn cX4_daysLateOn 2 (some .int) :: ([.fieldLink RX4 27 "ModelCopies$Loan" "lastDay" "I", .methodLink RX4 33 Lib.Math.max.name, .static Lib.Math.max.name, .initialized "java/lang/Math", .code Lib.Math.max.name Lib.Math.max.code 2 (some .int)] ++ wsX40)
def wsX4_lostOn : List Cond := .code yX4_lostOn cX4_lostOn 3 (some .int) :: ([.fieldLink RX4 30 "ModelCopies$Loan" "pledge" "I", .methodLink RX4 39 yX4_daysLateOn, .instanceMethod yX4_daysLateOn, .selects RX4 yX4_daysLateOn yX4_daysLateOn, .initialized RX4, .code yX4_daysLateOn cX4_daysLateOn 2 (some .int), .fieldLink RX4 27 "ModelCopies$Loan" "lastDay" "I", .methodLink RX4 33 Lib.Math.max.name, .static Lib.Math.max.name, .initialized "java/lang/Math", .code Lib.Math.max.name Lib.Math.max.code 2 (some .int)] ++ wsX40)
def wsJxa1e45_init_da8c8 : List Cond := .code yJxa1e45_init_da8c8 cJxa1e45_init_da8c8 1 none :: ([.methodLink RJxa1e45 1 objectInit, .instanceMethod objectInit, .code objectInit ⟨#[0xb1]⟩ 1 none])
def wsJxc12de_init_da8c8 : List Cond := .code yJxc12de_init_da8c8 cJxc12de_init_da8c8 1 none :: ([.fieldLink RJxc12de 7 "java/util/AbstractList" "modCount" "I", .methodLink RJxc12de 1 yJxa1e45_init_da8c8, .instanceMethod yJxa1e45_init_da8c8, .initialized RJxa1e45, .code yJxa1e45_init_da8c8 cJxa1e45_init_da8c8 1 none, .methodLink RJxa1e45 1 objectInit, .instanceMethod objectInit, .code objectInit ⟨#[0xb1]⟩ 1 none] ++ wsJx4a65c0)
def wsJx4a65c_init_da8c8 : List Cond := .code yJx4a65c_init_da8c8 cJx4a65c_init_da8c8 1 none :: ([.fieldLink RJx4a65c 39 "java/util/ArrayList" "DEFAULTCAPACITY_EMPTY_ELEMENTDATA" "[Ljava/lang/Object;", .fieldLink RJx4a65c 9 "java/util/ArrayList" "elementData" "[Ljava/lang/Object;", .methodLink RJx4a65c 1 yJxc12de_init_da8c8, .instanceMethod yJxc12de_init_da8c8, .initialized RJxc12de, .code yJxc12de_init_da8c8 cJxc12de_init_da8c8 1 none, .fieldLink RJxc12de 7 "java/util/AbstractList" "modCount" "I", .methodLink RJxc12de 1 yJxa1e45_init_da8c8, .instanceMethod yJxa1e45_init_da8c8, .initialized RJxa1e45, .code yJxa1e45_init_da8c8 cJxa1e45_init_da8c8 1 none, .methodLink RJxa1e45 1 objectInit, .instanceMethod objectInit, .code objectInit ⟨#[0xb1]⟩ 1 none] ++ wsJx4a65c0)
def wsJ8_hugeLength_7cf53 : List Cond := .code yJ8_hugeLength_7cf53 cJ8_hugeLength_7cf53 3 (some .int) :: ([.constant RJ8 200 (2147483639)])
def wsJ8_newLength_cabcc : List Cond := .code yJ8_newLength_cabcc cJ8_newLength_cabcc 4 (some .int) :: ([.methodLink RJ8 194 Lib.Math.max.name, .static Lib.Math.max.name, .initialized "java/lang/Math", .code Lib.Math.max.name Lib.Math.max.code 2 (some .int), .constant RJ8 200 (2147483639), .methodLink RJ8 201 yJ8_hugeLength_7cf53, .static yJ8_hugeLength_7cf53, .initialized RJ8, .code yJ8_hugeLength_7cf53 cJ8_hugeLength_7cf53 3 (some .int)])
def wsJ7_copyOf_6403c : List Cond := .code yJ7_copyOf_6403c cJ7_copyOf_6403c 4 (some (.array (.object "java/lang/Object"))) :: ([.classLink RJ7 110 "[Ljava/lang/Object;", .classLink RJ7 2 "java/lang/Object", .methodLink RJ7 304 Lib.Math.min.name, .static Lib.Math.min.name, .initialized "java/lang/Math", .code Lib.Math.min.name Lib.Math.min.code 2 (some .int), .methodLink RJ7 150 arraycopyName, .native arraycopyName, .static arraycopyName, .initialized "java/lang/System"])
def wsJ7_copyOf_1904c : List Cond := .code yJ7_copyOf_1904c cJ7_copyOf_1904c 2 (some (.array (.object "java/lang/Object"))) :: ([.methodLink RJ7 86 ⟨"java/lang/Object", "getClass", "()Ljava/lang/Class;"⟩, .selects "[Ljava/lang/Object;" ⟨"java/lang/Object", "getClass", "()Ljava/lang/Class;"⟩ ⟨"java/lang/Object", "getClass", "()Ljava/lang/Class;"⟩, .instanceMethod ⟨"java/lang/Object", "getClass", "()Ljava/lang/Class;"⟩, .native ⟨"java/lang/Object", "getClass", "()Ljava/lang/Class;"⟩, .methodLink RJ7 300 yJ7_copyOf_6403c, .static yJ7_copyOf_6403c, .initialized RJ7, .code yJ7_copyOf_6403c cJ7_copyOf_6403c 4 (some (.array (.object "java/lang/Object"))), .classLink RJ7 110 "[Ljava/lang/Object;", .classLink RJ7 2 "java/lang/Object", .methodLink RJ7 304 Lib.Math.min.name, .static Lib.Math.min.name, .initialized "java/lang/Math", .code Lib.Math.min.name Lib.Math.min.code 2 (some .int), .methodLink RJ7 150 arraycopyName, .native arraycopyName, .static arraycopyName, .initialized "java/lang/System"])
def wsJx4a65c_grow_92f84_r1 : List Cond := [Cond.fieldLink RJx4a65c 9 "java/util/ArrayList" "elementData" "[Ljava/lang/Object;", Cond.fieldLink RJx4a65c 39 "java/util/ArrayList" "DEFAULTCAPACITY_EMPTY_ELEMENTDATA" "[Ljava/lang/Object;", Cond.methodLink RJx4a65c 79 Lib.Math.max.name, Cond.static Lib.Math.max.name, Cond.initialized "java/lang/Math", Cond.code Lib.Math.max.name Lib.Math.max.code 2 (some .int), Cond.classLink RJx4a65c 7 "java/lang/Object", Cond.methodLink RJx4a65c 73 yJ8_newLength_cabcc, Cond.static yJ8_newLength_cabcc, Cond.initialized RJ8, Cond.code yJ8_newLength_cabcc cJ8_newLength_cabcc 4 (some .int), Cond.methodLink RJ8 194 Lib.Math.max.name, Cond.constant RJ8 200 (2147483639), Cond.methodLink RJ8 201 yJ8_hugeLength_7cf53, Cond.static yJ8_hugeLength_7cf53, Cond.code yJ8_hugeLength_7cf53 cJ8_hugeLength_7cf53 3 (some .int), Cond.methodLink RJx4a65c 66 yJ7_copyOf_1904c, Cond.static yJ7_copyOf_1904c, Cond.initialized RJ7, Cond.code yJ7_copyOf_1904c cJ7_copyOf_1904c 2 (some (.array (.object "java/lang/Object"))), Cond.methodLink RJ7 86 ⟨"java/lang/Object", "getClass", "()Ljava/lang/Class;"⟩, Cond.selects "[Ljava/lang/Object;" ⟨"java/lang/Object", "getClass", "()Ljava/lang/Class;"⟩ ⟨"java/lang/Object", "getClass", "()Ljava/lang/Class;"⟩, Cond.instanceMethod ⟨"java/lang/Object", "getClass", "()Ljava/lang/Class;"⟩, Cond.native ⟨"java/lang/Object", "getClass", "()Ljava/lang/Class;"⟩]
def wsJx4a65c_grow_92f84_r2 : List Cond := [Cond.methodLink RJ7 300 yJ7_copyOf_6403c, Cond.static yJ7_copyOf_6403c, Cond.code yJ7_copyOf_6403c cJ7_copyOf_6403c 4 (some (.array (.object "java/lang/Object"))), Cond.classLink RJ7 110 "[Ljava/lang/Object;", Cond.classLink RJ7 2 "java/lang/Object", Cond.methodLink RJ7 304 Lib.Math.min.name, Cond.static Lib.Math.min.name, Cond.code Lib.Math.min.name Lib.Math.min.code 2 (some .int), Cond.methodLink RJ7 150 arraycopyName, Cond.native arraycopyName, Cond.static arraycopyName, Cond.initialized "java/lang/System"]
def wsJx4a65c_grow_92f84 : List Cond := .code yJx4a65c_grow_92f84 cJx4a65c_grow_92f84 4 (some (.array (.object "java/lang/Object"))) :: ((wsJx4a65c_grow_92f84_r1 ++ wsJx4a65c_grow_92f84_r2) ++ wsJx4a65c0)
def wsJx4a65c_grow_d5877_r1 : List Cond := [Cond.fieldLink RJx4a65c 48 "java/util/ArrayList" "size" "I", Cond.methodLink RJx4a65c 69 yJx4a65c_grow_92f84, Cond.instanceMethod yJx4a65c_grow_92f84, Cond.selects RJx4a65c yJx4a65c_grow_92f84 yJx4a65c_grow_92f84, Cond.initialized RJx4a65c, Cond.code yJx4a65c_grow_92f84 cJx4a65c_grow_92f84 4 (some (.array (.object "java/lang/Object"))), Cond.fieldLink RJx4a65c 9 "java/util/ArrayList" "elementData" "[Ljava/lang/Object;", Cond.fieldLink RJx4a65c 39 "java/util/ArrayList" "DEFAULTCAPACITY_EMPTY_ELEMENTDATA" "[Ljava/lang/Object;", Cond.methodLink RJx4a65c 79 Lib.Math.max.name, Cond.static Lib.Math.max.name, Cond.initialized "java/lang/Math", Cond.code Lib.Math.max.name Lib.Math.max.code 2 (some .int), Cond.classLink RJx4a65c 7 "java/lang/Object", Cond.methodLink RJx4a65c 73 yJ8_newLength_cabcc, Cond.static yJ8_newLength_cabcc, Cond.initialized RJ8, Cond.code yJ8_newLength_cabcc cJ8_newLength_cabcc 4 (some .int), Cond.methodLink RJ8 194 Lib.Math.max.name, Cond.constant RJ8 200 (2147483639), Cond.methodLink RJ8 201 yJ8_hugeLength_7cf53, Cond.static yJ8_hugeLength_7cf53, Cond.code yJ8_hugeLength_7cf53 cJ8_hugeLength_7cf53 3 (some .int), Cond.methodLink RJx4a65c 66 yJ7_copyOf_1904c, Cond.static yJ7_copyOf_1904c]
def wsJx4a65c_grow_d5877_r2 : List Cond := [Cond.initialized RJ7, Cond.code yJ7_copyOf_1904c cJ7_copyOf_1904c 2 (some (.array (.object "java/lang/Object"))), Cond.methodLink RJ7 86 ⟨"java/lang/Object", "getClass", "()Ljava/lang/Class;"⟩, Cond.selects "[Ljava/lang/Object;" ⟨"java/lang/Object", "getClass", "()Ljava/lang/Class;"⟩ ⟨"java/lang/Object", "getClass", "()Ljava/lang/Class;"⟩, Cond.instanceMethod ⟨"java/lang/Object", "getClass", "()Ljava/lang/Class;"⟩, Cond.native ⟨"java/lang/Object", "getClass", "()Ljava/lang/Class;"⟩, Cond.methodLink RJ7 300 yJ7_copyOf_6403c, Cond.static yJ7_copyOf_6403c, Cond.code yJ7_copyOf_6403c cJ7_copyOf_6403c 4 (some (.array (.object "java/lang/Object"))), Cond.classLink RJ7 110 "[Ljava/lang/Object;", Cond.classLink RJ7 2 "java/lang/Object", Cond.methodLink RJ7 304 Lib.Math.min.name, Cond.static Lib.Math.min.name, Cond.code Lib.Math.min.name Lib.Math.min.code 2 (some .int), Cond.methodLink RJ7 150 arraycopyName, Cond.native arraycopyName, Cond.static arraycopyName, Cond.initialized "java/lang/System"]
def wsJx4a65c_grow_d5877 : List Cond := .code yJx4a65c_grow_d5877 cJx4a65c_grow_d5877 1 (some (.array (.object "java/lang/Object"))) :: ((wsJx4a65c_grow_d5877_r1 ++ wsJx4a65c_grow_d5877_r2) ++ wsJx4a65c0)
def wsJx4a65c_add_72be8_r1 : List Cond := [Cond.fieldLink RJx4a65c 48 "java/util/ArrayList" "size" "I", Cond.methodLink RJx4a65c 129 yJx4a65c_grow_d5877, Cond.instanceMethod yJx4a65c_grow_d5877, Cond.selects RJx4a65c yJx4a65c_grow_d5877 yJx4a65c_grow_d5877, Cond.initialized RJx4a65c, Cond.code yJx4a65c_grow_d5877 cJx4a65c_grow_d5877 1 (some (.array (.object "java/lang/Object"))), Cond.methodLink RJx4a65c 69 yJx4a65c_grow_92f84, Cond.instanceMethod yJx4a65c_grow_92f84, Cond.selects RJx4a65c yJx4a65c_grow_92f84 yJx4a65c_grow_92f84, Cond.code yJx4a65c_grow_92f84 cJx4a65c_grow_92f84 4 (some (.array (.object "java/lang/Object"))), Cond.fieldLink RJx4a65c 9 "java/util/ArrayList" "elementData" "[Ljava/lang/Object;", Cond.fieldLink RJx4a65c 39 "java/util/ArrayList" "DEFAULTCAPACITY_EMPTY_ELEMENTDATA" "[Ljava/lang/Object;", Cond.methodLink RJx4a65c 79 Lib.Math.max.name, Cond.static Lib.Math.max.name, Cond.initialized "java/lang/Math", Cond.code Lib.Math.max.name Lib.Math.max.code 2 (some .int), Cond.classLink RJx4a65c 7 "java/lang/Object", Cond.methodLink RJx4a65c 73 yJ8_newLength_cabcc, Cond.static yJ8_newLength_cabcc, Cond.initialized RJ8, Cond.code yJ8_newLength_cabcc cJ8_newLength_cabcc 4 (some .int), Cond.methodLink RJ8 194 Lib.Math.max.name, Cond.constant RJ8 200 (2147483639), Cond.methodLink RJ8 201 yJ8_hugeLength_7cf53]
def wsJx4a65c_add_72be8_r2 : List Cond := [Cond.static yJ8_hugeLength_7cf53, Cond.code yJ8_hugeLength_7cf53 cJ8_hugeLength_7cf53 3 (some .int), Cond.methodLink RJx4a65c 66 yJ7_copyOf_1904c, Cond.static yJ7_copyOf_1904c, Cond.initialized RJ7, Cond.code yJ7_copyOf_1904c cJ7_copyOf_1904c 2 (some (.array (.object "java/lang/Object"))), Cond.methodLink RJ7 86 ⟨"java/lang/Object", "getClass", "()Ljava/lang/Class;"⟩, Cond.selects "[Ljava/lang/Object;" ⟨"java/lang/Object", "getClass", "()Ljava/lang/Class;"⟩ ⟨"java/lang/Object", "getClass", "()Ljava/lang/Class;"⟩, Cond.instanceMethod ⟨"java/lang/Object", "getClass", "()Ljava/lang/Class;"⟩, Cond.native ⟨"java/lang/Object", "getClass", "()Ljava/lang/Class;"⟩, Cond.methodLink RJ7 300 yJ7_copyOf_6403c, Cond.static yJ7_copyOf_6403c, Cond.code yJ7_copyOf_6403c cJ7_copyOf_6403c 4 (some (.array (.object "java/lang/Object"))), Cond.classLink RJ7 110 "[Ljava/lang/Object;", Cond.classLink RJ7 2 "java/lang/Object", Cond.methodLink RJ7 304 Lib.Math.min.name, Cond.static Lib.Math.min.name, Cond.code Lib.Math.min.name Lib.Math.min.code 2 (some .int), Cond.methodLink RJ7 150 arraycopyName, Cond.native arraycopyName, Cond.static arraycopyName, Cond.initialized "java/lang/System"]
def wsJx4a65c_add_72be8 : List Cond := .code yJx4a65c_add_72be8 cJx4a65c_add_72be8 4 none :: ((wsJx4a65c_add_72be8_r1 ++ wsJx4a65c_add_72be8_r2) ++ wsJx4a65c0)
def wsJx4a65c_add_9ea2d_r1 : List Cond := [Cond.fieldLink RJx4a65c 63 "java/util/ArrayList" "modCount" "I", Cond.sameField "java/util/ArrayList" "java/util/AbstractList" "modCount" "I", Cond.fieldLink RJx4a65c 9 "java/util/ArrayList" "elementData" "[Ljava/lang/Object;", Cond.fieldLink RJx4a65c 48 "java/util/ArrayList" "size" "I", Cond.methodLink RJx4a65c 131 yJx4a65c_add_72be8, Cond.instanceMethod yJx4a65c_add_72be8, Cond.selects RJx4a65c yJx4a65c_add_72be8 yJx4a65c_add_72be8, Cond.initialized RJx4a65c, Cond.code yJx4a65c_add_72be8 cJx4a65c_add_72be8 4 none, Cond.methodLink RJx4a65c 129 yJx4a65c_grow_d5877, Cond.instanceMethod yJx4a65c_grow_d5877, Cond.selects RJx4a65c yJx4a65c_grow_d5877 yJx4a65c_grow_d5877, Cond.code yJx4a65c_grow_d5877 cJx4a65c_grow_d5877 1 (some (.array (.object "java/lang/Object"))), Cond.methodLink RJx4a65c 69 yJx4a65c_grow_92f84, Cond.instanceMethod yJx4a65c_grow_92f84, Cond.selects RJx4a65c yJx4a65c_grow_92f84 yJx4a65c_grow_92f84, Cond.code yJx4a65c_grow_92f84 cJx4a65c_grow_92f84 4 (some (.array (.object "java/lang/Object"))), Cond.fieldLink RJx4a65c 39 "java/util/ArrayList" "DEFAULTCAPACITY_EMPTY_ELEMENTDATA" "[Ljava/lang/Object;", Cond.methodLink RJx4a65c 79 Lib.Math.max.name, Cond.static Lib.Math.max.name, Cond.initialized "java/lang/Math", Cond.code Lib.Math.max.name Lib.Math.max.code 2 (some .int), Cond.classLink RJx4a65c 7 "java/lang/Object", Cond.methodLink RJx4a65c 73 yJ8_newLength_cabcc]
def wsJx4a65c_add_9ea2d_r2 : List Cond := [Cond.static yJ8_newLength_cabcc, Cond.initialized RJ8, Cond.code yJ8_newLength_cabcc cJ8_newLength_cabcc 4 (some .int), Cond.methodLink RJ8 194 Lib.Math.max.name, Cond.constant RJ8 200 (2147483639), Cond.methodLink RJ8 201 yJ8_hugeLength_7cf53, Cond.static yJ8_hugeLength_7cf53, Cond.code yJ8_hugeLength_7cf53 cJ8_hugeLength_7cf53 3 (some .int), Cond.methodLink RJx4a65c 66 yJ7_copyOf_1904c, Cond.static yJ7_copyOf_1904c, Cond.initialized RJ7, Cond.code yJ7_copyOf_1904c cJ7_copyOf_1904c 2 (some (.array (.object "java/lang/Object"))), Cond.methodLink RJ7 86 ⟨"java/lang/Object", "getClass", "()Ljava/lang/Class;"⟩, Cond.selects "[Ljava/lang/Object;" ⟨"java/lang/Object", "getClass", "()Ljava/lang/Class;"⟩ ⟨"java/lang/Object", "getClass", "()Ljava/lang/Class;"⟩, Cond.instanceMethod ⟨"java/lang/Object", "getClass", "()Ljava/lang/Class;"⟩, Cond.native ⟨"java/lang/Object", "getClass", "()Ljava/lang/Class;"⟩, Cond.methodLink RJ7 300 yJ7_copyOf_6403c, Cond.static yJ7_copyOf_6403c, Cond.code yJ7_copyOf_6403c cJ7_copyOf_6403c 4 (some (.array (.object "java/lang/Object"))), Cond.classLink RJ7 110 "[Ljava/lang/Object;", Cond.classLink RJ7 2 "java/lang/Object", Cond.methodLink RJ7 304 Lib.Math.min.name, Cond.static Lib.Math.min.name, Cond.code Lib.Math.min.name Lib.Math.min.code 2 (some .int)]
def wsJx4a65c_add_9ea2d_r3 : List Cond := [Cond.methodLink RJ7 150 arraycopyName, Cond.native arraycopyName, Cond.static arraycopyName, Cond.initialized "java/lang/System"]
def wsJx4a65c_add_9ea2d : List Cond := .code yJx4a65c_add_9ea2d cJx4a65c_add_9ea2d 2 (some .boolean) :: ((wsJx4a65c_add_9ea2d_r1 ++ (wsJx4a65c_add_9ea2d_r2 ++ wsJx4a65c_add_9ea2d_r3)) ++ wsJx4a65c0)
def wsX5_init_r1 : List Cond := [Cond.methodLink RX5 1 objectInit, Cond.instanceMethod objectInit, Cond.code objectInit ⟨#[0xb1]⟩ 1 none, Cond.classLink RX5 7 RJx4a65c, Cond.instantiable RJx4a65c 3, Cond.initialized RJx4a65c, Cond.fieldLink RX5 10 "ModelCopies" "houses" "Ljava/util/ArrayList;", Cond.fieldLink RX5 16 "ModelCopies" "copies" "Ljava/util/ArrayList;", Cond.fieldLink RX5 19 "ModelCopies" "letters" "Ljava/util/ArrayList;", Cond.fieldLink RX5 22 "ModelCopies" "loans" "Ljava/util/ArrayList;", Cond.arrayClass .int, Cond.fieldLink RX5 25 "ModelCopies" "slipsByScribe" "[I", Cond.classLink RX5 29 RX1, Cond.instantiable RX1 2, Cond.initialized RX1, Cond.fieldLink RX5 32 "ModelCopies" "draft" "LModelCopies$Draft;", Cond.fieldLink RX5 36 "ModelCopies" "today" "I", Cond.classLink RX5 40 RX2, Cond.instantiable RX2 4, Cond.initialized RX2, Cond.classLink RX5 49 RX0, Cond.instantiable RX0 7, Cond.initialized RX0, Cond.methodLink RX5 9 yJx4a65c_init_da8c8]
def wsX5_init_r2 : List Cond := [Cond.instanceMethod yJx4a65c_init_da8c8, Cond.code yJx4a65c_init_da8c8 cJx4a65c_init_da8c8 1 none, Cond.fieldLink RJx4a65c 39 "java/util/ArrayList" "DEFAULTCAPACITY_EMPTY_ELEMENTDATA" "[Ljava/lang/Object;", Cond.fieldLink RJx4a65c 9 "java/util/ArrayList" "elementData" "[Ljava/lang/Object;", Cond.methodLink RJx4a65c 1 yJxc12de_init_da8c8, Cond.instanceMethod yJxc12de_init_da8c8, Cond.initialized RJxc12de, Cond.code yJxc12de_init_da8c8 cJxc12de_init_da8c8 1 none, Cond.fieldLink RJxc12de 7 "java/util/AbstractList" "modCount" "I", Cond.methodLink RJxc12de 1 yJxa1e45_init_da8c8, Cond.instanceMethod yJxa1e45_init_da8c8, Cond.initialized RJxa1e45, Cond.code yJxa1e45_init_da8c8 cJxa1e45_init_da8c8 1 none, Cond.methodLink RJxa1e45 1 objectInit, Cond.methodLink RX5 31 yX1_init, Cond.instanceMethod yX1_init, Cond.code yX1_init cX1_init 1 none, Cond.methodLink RX1 3 objectInit, Cond.fieldLink RX1 9 "ModelCopies$Draft" "readings" "[I", Cond.fieldLink RX1 15 "ModelCopies$Draft" "filled" "I", Cond.methodLink RX1 19 yJ7_fill_53178, Cond.static yJ7_fill_53178, Cond.initialized RJ7, Cond.code yJ7_fill_53178 cJ7_fill_53178 4 none]
def wsX5_init_r3 : List Cond := [Cond.methodLink RX5 42 yX2_init, Cond.instanceMethod yX2_init, Cond.code yX2_init cX2_init 2 none, Cond.methodLink RX2 3 objectInit, Cond.arrayClass .boolean, Cond.fieldLink RX2 9 "ModelCopies$House" "held" "[Z", Cond.fieldLink RX2 15 "ModelCopies$House" "coins" "I", Cond.fieldLink RX2 19 "ModelCopies$House" "laidDown" "I", Cond.fieldLink RX2 22 "ModelCopies$House" "number" "I", Cond.methodLink RX5 45 yJx4a65c_add_9ea2d, Cond.instanceMethod yJx4a65c_add_9ea2d, Cond.selects RJx4a65c yJx4a65c_add_9ea2d yJx4a65c_add_9ea2d, Cond.code yJx4a65c_add_9ea2d cJx4a65c_add_9ea2d 2 (some .boolean), Cond.fieldLink RJx4a65c 63 "java/util/ArrayList" "modCount" "I", Cond.sameField "java/util/ArrayList" "java/util/AbstractList" "modCount" "I", Cond.fieldLink RJx4a65c 48 "java/util/ArrayList" "size" "I", Cond.methodLink RJx4a65c 131 yJx4a65c_add_72be8, Cond.instanceMethod yJx4a65c_add_72be8, Cond.selects RJx4a65c yJx4a65c_add_72be8 yJx4a65c_add_72be8, Cond.code yJx4a65c_add_72be8 cJx4a65c_add_72be8 4 none, Cond.methodLink RJx4a65c 129 yJx4a65c_grow_d5877, Cond.instanceMethod yJx4a65c_grow_d5877, Cond.selects RJx4a65c yJx4a65c_grow_d5877 yJx4a65c_grow_d5877, Cond.code yJx4a65c_grow_d5877 cJx4a65c_grow_d5877 1 (some (.array (.object "java/lang/Object")))]
def wsX5_init_r4 : List Cond := [Cond.methodLink RJx4a65c 69 yJx4a65c_grow_92f84, Cond.instanceMethod yJx4a65c_grow_92f84, Cond.selects RJx4a65c yJx4a65c_grow_92f84 yJx4a65c_grow_92f84, Cond.code yJx4a65c_grow_92f84 cJx4a65c_grow_92f84 4 (some (.array (.object "java/lang/Object"))), Cond.methodLink RJx4a65c 79 Lib.Math.max.name, Cond.static Lib.Math.max.name, Cond.initialized "java/lang/Math", Cond.code Lib.Math.max.name Lib.Math.max.code 2 (some .int), Cond.classLink RJx4a65c 7 "java/lang/Object", Cond.methodLink RJx4a65c 73 yJ8_newLength_cabcc, Cond.static yJ8_newLength_cabcc, Cond.initialized RJ8, Cond.code yJ8_newLength_cabcc cJ8_newLength_cabcc 4 (some .int), Cond.methodLink RJ8 194 Lib.Math.max.name, Cond.constant RJ8 200 (2147483639), Cond.methodLink RJ8 201 yJ8_hugeLength_7cf53, Cond.static yJ8_hugeLength_7cf53, Cond.code yJ8_hugeLength_7cf53 cJ8_hugeLength_7cf53 3 (some .int), Cond.methodLink RJx4a65c 66 yJ7_copyOf_1904c, Cond.static yJ7_copyOf_1904c, Cond.code yJ7_copyOf_1904c cJ7_copyOf_1904c 2 (some (.array (.object "java/lang/Object"))), Cond.methodLink RJ7 86 ⟨"java/lang/Object", "getClass", "()Ljava/lang/Class;"⟩, Cond.selects "[Ljava/lang/Object;" ⟨"java/lang/Object", "getClass", "()Ljava/lang/Class;"⟩ ⟨"java/lang/Object", "getClass", "()Ljava/lang/Class;"⟩, Cond.instanceMethod ⟨"java/lang/Object", "getClass", "()Ljava/lang/Class;"⟩]
def wsX5_init_r5 : List Cond := [Cond.native ⟨"java/lang/Object", "getClass", "()Ljava/lang/Class;"⟩, Cond.methodLink RJ7 300 yJ7_copyOf_6403c, Cond.static yJ7_copyOf_6403c, Cond.code yJ7_copyOf_6403c cJ7_copyOf_6403c 4 (some (.array (.object "java/lang/Object"))), Cond.classLink RJ7 110 "[Ljava/lang/Object;", Cond.classLink RJ7 2 "java/lang/Object", Cond.methodLink RJ7 304 Lib.Math.min.name, Cond.static Lib.Math.min.name, Cond.code Lib.Math.min.name Lib.Math.min.code 2 (some .int), Cond.methodLink RJ7 150 arraycopyName, Cond.native arraycopyName, Cond.static arraycopyName, Cond.initialized "java/lang/System", Cond.methodLink RX5 51 yX0_init, Cond.instanceMethod yX0_init, Cond.code yX0_init cX0_init 4 none, Cond.methodLink RX0 3 objectInit, Cond.fieldLink RX0 9 "ModelCopies$Copy" "readings" "[I", Cond.fieldLink RX0 15 "ModelCopies$Copy" "isTold" "Z", Cond.fieldLink RX0 19 "ModelCopies$Copy" "number" "I", Cond.fieldLink RX0 23 "ModelCopies$Copy" "model" "LModelCopies$Copy;", Cond.fieldLink RX0 27 "ModelCopies$Copy" "owner" "LModelCopies$House;", Cond.fieldLink RX0 31 "ModelCopies$Copy" "house" "LModelCopies$House;", Cond.fieldLink RX0 34 "ModelCopies$Copy" "family" "I"]
def wsX5_init_r6 : List Cond := [Cond.methodLink RX0 37 arraycopyName]
def wsX5_init : List Cond := .code yX5_init cX5_init 3 none :: ((wsX5_init_r1 ++ (wsX5_init_r2 ++ (wsX5_init_r3 ++ (wsX5_init_r4 ++ (wsX5_init_r5 ++ wsX5_init_r6))))) ++ wsJx4a65c0 ++ wsX50 ++ wsX10 ++ wsX20 ++ wsX00)
def wsX5_requirePlace : List Cond := .code yX5_requirePlace cX5_requirePlace 1 none :: ([.classLink RX5 284 "java/lang/IndexOutOfBoundsException", .initialized "java/lang/IndexOutOfBoundsException"] ++ (vx_atS RX5 288 "java/lang/IndexOutOfBoundsException" ["java/lang/RuntimeException", "java/lang/Exception"]).filter goodWord)
def wsX5_slip_r1 : List Cond := [Cond.classLink RX5 57 "java/lang/IllegalArgumentException", Cond.initialized "java/lang/IllegalArgumentException", Cond.classLink RX5 68 "java/lang/IllegalStateException", Cond.initialized "java/lang/IllegalStateException", Cond.fieldLink RX5 32 "ModelCopies" "draft" "LModelCopies$Draft;", Cond.fieldLink RX5 77 "ModelCopies$Draft" "filled" "I", Cond.methodLink RX5 54 yX5_requirePlace, Cond.static yX5_requirePlace, Cond.initialized RX5, Cond.code yX5_requirePlace cX5_requirePlace 1 none, Cond.classLink RX5 284 "java/lang/IndexOutOfBoundsException", Cond.initialized "java/lang/IndexOutOfBoundsException", Cond.methodLink RX5 64 yX1_hasRoomAt, Cond.instanceMethod yX1_hasRoomAt, Cond.selects RX1 yX1_hasRoomAt yX1_hasRoomAt, Cond.initialized RX1, Cond.code yX1_hasRoomAt cX1_hasRoomAt 2 (some .boolean), Cond.fieldLink RX1 15 "ModelCopies$Draft" "filled" "I", Cond.methodLink RX1 25 yX1_isFilled, Cond.instanceMethod yX1_isFilled, Cond.selects RX1 yX1_isFilled yX1_isFilled, Cond.code yX1_isFilled cX1_isFilled 2 (some .boolean), Cond.fieldLink RX1 9 "ModelCopies$Draft" "readings" "[I", Cond.methodLink RX5 73 yX1_put]
def wsX5_slip_r2 : List Cond := [Cond.instanceMethod yX1_put, Cond.selects RX1 yX1_put yX1_put, Cond.code yX1_put cX1_put 3 none]
def wsX5_slip : List Cond := .code yX5_slip cX5_slip 3 (some .int) :: ((wsX5_slip_r1 ++ wsX5_slip_r2) ++ wsX50 ++ wsX10 ++ (vx_atS RX5 61 "java/lang/IllegalArgumentException" ["java/lang/RuntimeException", "java/lang/Exception"]).filter goodWord ++ (vx_atS RX5 72 "java/lang/IllegalStateException" ["java/lang/RuntimeException", "java/lang/Exception"]).filter goodWord ++ (vx_atS RX5 288 "java/lang/IndexOutOfBoundsException" ["java/lang/RuntimeException", "java/lang/Exception"]).filter goodWord)
def wsJx4a65c_size_8abf5 : List Cond := .code yJx4a65c_size_8abf5 cJx4a65c_size_8abf5 1 (some .int) :: ([.fieldLink RJx4a65c 48 "java/util/ArrayList" "size" "I"] ++ wsJx4a65c0)
def wsJ3_checkIndex_8e157 : List Cond := .code yJ3_checkIndex_8e157 cJ3_checkIndex_8e157 3 (some .int) :: ([])
def wsJ15_checkIndex_7cf53 : List Cond := .code yJ15_checkIndex_7cf53 cJ15_checkIndex_7cf53 2 (some .int) :: ([.methodLink RJ15 105 yJ3_checkIndex_8e157, .static yJ3_checkIndex_8e157, .initialized RJ3, .code yJ3_checkIndex_8e157 cJ3_checkIndex_8e157 3 (some .int)])
def wsJx4a65c_elementData_915e3 : List Cond := .code yJx4a65c_elementData_915e3 cJx4a65c_elementData_915e3 2 (some (.object "java/lang/Object")) :: ([.fieldLink RJx4a65c 9 "java/util/ArrayList" "elementData" "[Ljava/lang/Object;"] ++ wsJx4a65c0)
def wsJx4a65c_get_915e3 : List Cond := .code yJx4a65c_get_915e3 cJx4a65c_get_915e3 2 (some (.object "java/lang/Object")) :: ([.fieldLink RJx4a65c 48 "java/util/ArrayList" "size" "I", .methodLink RJx4a65c 118 yJ15_checkIndex_7cf53, .static yJ15_checkIndex_7cf53, .initialized RJ15, .code yJ15_checkIndex_7cf53 cJ15_checkIndex_7cf53 2 (some .int), .methodLink RJ15 105 yJ3_checkIndex_8e157, .static yJ3_checkIndex_8e157, .initialized RJ3, .code yJ3_checkIndex_8e157 cJ3_checkIndex_8e157 3 (some .int), .methodLink RJx4a65c 123 yJx4a65c_elementData_915e3, .instanceMethod yJx4a65c_elementData_915e3, .selects RJx4a65c yJx4a65c_elementData_915e3 yJx4a65c_elementData_915e3, .initialized RJx4a65c, .code yJx4a65c_elementData_915e3 cJx4a65c_elementData_915e3 2 (some (.object "java/lang/Object")), .fieldLink RJx4a65c 9 "java/util/ArrayList" "elementData" "[Ljava/lang/Object;"] ++ wsJx4a65c0)
def wsX5_findCopy_r1 : List Cond := [Cond.classLink RX5 284 "java/lang/IndexOutOfBoundsException", Cond.initialized "java/lang/IndexOutOfBoundsException", Cond.fieldLink RX5 16 "ModelCopies" "copies" "Ljava/util/ArrayList;", Cond.classLink RX5 49 "ModelCopies$Copy", Cond.methodLink RX5 97 yJx4a65c_size_8abf5, Cond.instanceMethod yJx4a65c_size_8abf5, Cond.selects RJx4a65c yJx4a65c_size_8abf5 yJx4a65c_size_8abf5, Cond.initialized RJx4a65c, Cond.code yJx4a65c_size_8abf5 cJx4a65c_size_8abf5 1 (some .int), Cond.fieldLink RJx4a65c 48 "java/util/ArrayList" "size" "I", Cond.methodLink RX5 162 yJx4a65c_get_915e3, Cond.instanceMethod yJx4a65c_get_915e3, Cond.selects RJx4a65c yJx4a65c_get_915e3 yJx4a65c_get_915e3, Cond.code yJx4a65c_get_915e3 cJx4a65c_get_915e3 2 (some (.object "java/lang/Object")), Cond.methodLink RJx4a65c 118 yJ15_checkIndex_7cf53, Cond.static yJ15_checkIndex_7cf53, Cond.initialized RJ15, Cond.code yJ15_checkIndex_7cf53 cJ15_checkIndex_7cf53 2 (some .int), Cond.methodLink RJ15 105 yJ3_checkIndex_8e157, Cond.static yJ3_checkIndex_8e157, Cond.initialized RJ3, Cond.code yJ3_checkIndex_8e157 cJ3_checkIndex_8e157 3 (some .int), Cond.methodLink RJx4a65c 123 yJx4a65c_elementData_915e3, Cond.instanceMethod yJx4a65c_elementData_915e3]
def wsX5_findCopy_r2 : List Cond := [Cond.selects RJx4a65c yJx4a65c_elementData_915e3 yJx4a65c_elementData_915e3, Cond.code yJx4a65c_elementData_915e3 cJx4a65c_elementData_915e3 2 (some (.object "java/lang/Object")), Cond.fieldLink RJx4a65c 9 "java/util/ArrayList" "elementData" "[Ljava/lang/Object;"]
def wsX5_findCopy : List Cond := .code yX5_findCopy cX5_findCopy 2 (some (.object "ModelCopies$Copy")) :: ((wsX5_findCopy_r1 ++ wsX5_findCopy_r2) ++ wsX50 ++ wsJx4a65c0 ++ (vx_atS RX5 288 "java/lang/IndexOutOfBoundsException" ["java/lang/RuntimeException", "java/lang/Exception"]).filter goodWord)
def wsX5_requireScribe : List Cond := .code yX5_requireScribe cX5_requireScribe 1 none :: ([.classLink RX5 284 "java/lang/IndexOutOfBoundsException", .initialized "java/lang/IndexOutOfBoundsException"] ++ (vx_atS RX5 288 "java/lang/IndexOutOfBoundsException" ["java/lang/RuntimeException", "java/lang/Exception"]).filter goodWord)
def wsX5_findHouse_r1 : List Cond := [Cond.classLink RX5 284 "java/lang/IndexOutOfBoundsException", Cond.initialized "java/lang/IndexOutOfBoundsException", Cond.fieldLink RX5 10 "ModelCopies" "houses" "Ljava/util/ArrayList;", Cond.classLink RX5 40 "ModelCopies$House", Cond.methodLink RX5 97 yJx4a65c_size_8abf5, Cond.instanceMethod yJx4a65c_size_8abf5, Cond.selects RJx4a65c yJx4a65c_size_8abf5 yJx4a65c_size_8abf5, Cond.initialized RJx4a65c, Cond.code yJx4a65c_size_8abf5 cJx4a65c_size_8abf5 1 (some .int), Cond.fieldLink RJx4a65c 48 "java/util/ArrayList" "size" "I", Cond.methodLink RX5 162 yJx4a65c_get_915e3, Cond.instanceMethod yJx4a65c_get_915e3, Cond.selects RJx4a65c yJx4a65c_get_915e3 yJx4a65c_get_915e3, Cond.code yJx4a65c_get_915e3 cJx4a65c_get_915e3 2 (some (.object "java/lang/Object")), Cond.methodLink RJx4a65c 118 yJ15_checkIndex_7cf53, Cond.static yJ15_checkIndex_7cf53, Cond.initialized RJ15, Cond.code yJ15_checkIndex_7cf53 cJ15_checkIndex_7cf53 2 (some .int), Cond.methodLink RJ15 105 yJ3_checkIndex_8e157, Cond.static yJ3_checkIndex_8e157, Cond.initialized RJ3, Cond.code yJ3_checkIndex_8e157 cJ3_checkIndex_8e157 3 (some .int), Cond.methodLink RJx4a65c 123 yJx4a65c_elementData_915e3, Cond.instanceMethod yJx4a65c_elementData_915e3]
def wsX5_findHouse_r2 : List Cond := [Cond.selects RJx4a65c yJx4a65c_elementData_915e3 yJx4a65c_elementData_915e3, Cond.code yJx4a65c_elementData_915e3 cJx4a65c_elementData_915e3 2 (some (.object "java/lang/Object")), Cond.fieldLink RJx4a65c 9 "java/util/ArrayList" "elementData" "[Ljava/lang/Object;"]
def wsX5_findHouse : List Cond := .code yX5_findHouse cX5_findHouse 2 (some (.object "ModelCopies$House")) :: ((wsX5_findHouse_r1 ++ wsX5_findHouse_r2) ++ wsX50 ++ wsJx4a65c0 ++ (vx_atS RX5 288 "java/lang/IndexOutOfBoundsException" ["java/lang/RuntimeException", "java/lang/Exception"]).filter goodWord)
def wsX5_joinFamilies_r1 : List Cond := [Cond.methodLink RX5 304 Lib.Math.min.name, Cond.static Lib.Math.min.name, Cond.initialized "java/lang/Math", Cond.code Lib.Math.min.name Lib.Math.min.code 2 (some .int), Cond.methodLink RX5 310 Lib.Math.max.name, Cond.static Lib.Math.max.name, Cond.code Lib.Math.max.name Lib.Math.max.code 2 (some .int), Cond.fieldLink RX5 16 "ModelCopies" "copies" "Ljava/util/ArrayList;", Cond.classLink RX5 49 "ModelCopies$Copy", Cond.fieldLink RX5 127 "ModelCopies$Copy" "family" "I", Cond.methodLink RX5 97 yJx4a65c_size_8abf5, Cond.instanceMethod yJx4a65c_size_8abf5, Cond.selects RJx4a65c yJx4a65c_size_8abf5 yJx4a65c_size_8abf5, Cond.initialized RJx4a65c, Cond.code yJx4a65c_size_8abf5 cJx4a65c_size_8abf5 1 (some .int), Cond.fieldLink RJx4a65c 48 "java/util/ArrayList" "size" "I", Cond.methodLink RX5 162 yJx4a65c_get_915e3, Cond.instanceMethod yJx4a65c_get_915e3, Cond.selects RJx4a65c yJx4a65c_get_915e3 yJx4a65c_get_915e3, Cond.code yJx4a65c_get_915e3 cJx4a65c_get_915e3 2 (some (.object "java/lang/Object")), Cond.methodLink RJx4a65c 118 yJ15_checkIndex_7cf53, Cond.static yJ15_checkIndex_7cf53, Cond.initialized RJ15, Cond.code yJ15_checkIndex_7cf53 cJ15_checkIndex_7cf53 2 (some .int)]
def wsX5_joinFamilies_r2 : List Cond := [Cond.methodLink RJ15 105 yJ3_checkIndex_8e157, Cond.static yJ3_checkIndex_8e157, Cond.initialized RJ3, Cond.code yJ3_checkIndex_8e157 cJ3_checkIndex_8e157 3 (some .int), Cond.methodLink RJx4a65c 123 yJx4a65c_elementData_915e3, Cond.instanceMethod yJx4a65c_elementData_915e3, Cond.selects RJx4a65c yJx4a65c_elementData_915e3 yJx4a65c_elementData_915e3, Cond.code yJx4a65c_elementData_915e3 cJx4a65c_elementData_915e3 2 (some (.object "java/lang/Object")), Cond.fieldLink RJx4a65c 9 "java/util/ArrayList" "elementData" "[Ljava/lang/Object;"]
def wsX5_joinFamilies : List Cond := .code yX5_joinFamilies cX5_joinFamilies 7 none :: ((wsX5_joinFamilies_r1 ++ wsX5_joinFamilies_r2) ++ wsX50 ++ wsX00 ++ wsJx4a65c0)
def wsX5_enterFamily_r1 : List Cond := [Cond.fieldLink RX5 118 "ModelCopies$Copy" "number" "I", Cond.fieldLink RX5 127 "ModelCopies$Copy" "family" "I", Cond.fieldLink RX5 16 "ModelCopies" "copies" "Ljava/util/ArrayList;", Cond.classLink RX5 49 "ModelCopies$Copy", Cond.methodLink RX5 97 yJx4a65c_size_8abf5, Cond.instanceMethod yJx4a65c_size_8abf5, Cond.selects RJx4a65c yJx4a65c_size_8abf5 yJx4a65c_size_8abf5, Cond.initialized RJx4a65c, Cond.code yJx4a65c_size_8abf5 cJx4a65c_size_8abf5 1 (some .int), Cond.fieldLink RJx4a65c 48 "java/util/ArrayList" "size" "I", Cond.methodLink RX5 162 yJx4a65c_get_915e3, Cond.instanceMethod yJx4a65c_get_915e3, Cond.selects RJx4a65c yJx4a65c_get_915e3 yJx4a65c_get_915e3, Cond.code yJx4a65c_get_915e3 cJx4a65c_get_915e3 2 (some (.object "java/lang/Object")), Cond.methodLink RJx4a65c 118 yJ15_checkIndex_7cf53, Cond.static yJ15_checkIndex_7cf53, Cond.initialized RJ15, Cond.code yJ15_checkIndex_7cf53 cJ15_checkIndex_7cf53 2 (some .int), Cond.methodLink RJ15 105 yJ3_checkIndex_8e157, Cond.static yJ3_checkIndex_8e157, Cond.initialized RJ3, Cond.code yJ3_checkIndex_8e157 cJ3_checkIndex_8e157 3 (some .int), Cond.methodLink RJx4a65c 123 yJx4a65c_elementData_915e3, Cond.instanceMethod yJx4a65c_elementData_915e3]
def wsX5_enterFamily_r2 : List Cond := [Cond.selects RJx4a65c yJx4a65c_elementData_915e3 yJx4a65c_elementData_915e3, Cond.code yJx4a65c_elementData_915e3 cJx4a65c_elementData_915e3 2 (some (.object "java/lang/Object")), Cond.fieldLink RJx4a65c 9 "java/util/ArrayList" "elementData" "[Ljava/lang/Object;", Cond.methodLink RX5 301 yX0_isKinOf, Cond.instanceMethod yX0_isKinOf, Cond.selects RX0 yX0_isKinOf yX0_isKinOf, Cond.initialized RX0, Cond.code yX0_isKinOf cX0_isKinOf 2 (some .boolean), Cond.methodLink RX0 43 yX0_modelIfTold, Cond.instanceMethod yX0_modelIfTold, Cond.selects RX0 yX0_modelIfTold yX0_modelIfTold, Cond.code yX0_modelIfTold cX0_modelIfTold 1 (some (.object "ModelCopies$Copy")), Cond.fieldLink RX0 15 "ModelCopies$Copy" "isTold" "Z", Cond.fieldLink RX0 23 "ModelCopies$Copy" "model" "LModelCopies$Copy;", Cond.methodLink RX0 47 yX0_countSharedWith, Cond.instanceMethod yX0_countSharedWith, Cond.selects RX0 yX0_countSharedWith yX0_countSharedWith, Cond.code yX0_countSharedWith cX0_countSharedWith 4 (some .int), Cond.fieldLink RX0 9 "ModelCopies$Copy" "readings" "[I", Cond.methodLink RX5 130 yX5_joinFamilies, Cond.instanceMethod yX5_joinFamilies, Cond.selects RX5 yX5_joinFamilies yX5_joinFamilies, Cond.initialized RX5, Cond.code yX5_joinFamilies cX5_joinFamilies 7 none]
def wsX5_enterFamily_r3 : List Cond := [Cond.methodLink RX5 304 Lib.Math.min.name, Cond.static Lib.Math.min.name, Cond.initialized "java/lang/Math", Cond.code Lib.Math.min.name Lib.Math.min.code 2 (some .int), Cond.methodLink RX5 310 Lib.Math.max.name, Cond.static Lib.Math.max.name, Cond.code Lib.Math.max.name Lib.Math.max.code 2 (some .int)]
def wsX5_enterFamily : List Cond := .code yX5_enterFamily cX5_enterFamily 4 none :: ((wsX5_enterFamily_r1 ++ (wsX5_enterFamily_r2 ++ wsX5_enterFamily_r3)) ++ wsX00 ++ wsX50 ++ wsJx4a65c0)
def wsX5_copy_r1 : List Cond := [Cond.classLink RX5 68 "java/lang/IllegalStateException", Cond.initialized "java/lang/IllegalStateException", Cond.fieldLink RX5 91 "ModelCopies$Copy" "house" "LModelCopies$House;", Cond.fieldLink RX5 16 "ModelCopies" "copies" "Ljava/util/ArrayList;", Cond.classLink RX5 49 RX0, Cond.instantiable RX0 7, Cond.initialized RX0, Cond.fieldLink RX5 103 "ModelCopies$Copy" "isTold" "Z", Cond.fieldLink RX5 25 "ModelCopies" "slipsByScribe" "[I", Cond.fieldLink RX5 32 "ModelCopies" "draft" "LModelCopies$Draft;", Cond.fieldLink RX5 118 "ModelCopies$Copy" "number" "I", Cond.methodLink RX5 80 yX5_findCopy, Cond.instanceMethod yX5_findCopy, Cond.selects RX5 yX5_findCopy yX5_findCopy, Cond.initialized RX5, Cond.code yX5_findCopy cX5_findCopy 2 (some (.object "ModelCopies$Copy")), Cond.classLink RX5 284 "java/lang/IndexOutOfBoundsException", Cond.initialized "java/lang/IndexOutOfBoundsException", Cond.classLink RX5 49 "ModelCopies$Copy", Cond.methodLink RX5 97 yJx4a65c_size_8abf5, Cond.instanceMethod yJx4a65c_size_8abf5, Cond.selects RJx4a65c yJx4a65c_size_8abf5 yJx4a65c_size_8abf5, Cond.initialized RJx4a65c, Cond.code yJx4a65c_size_8abf5 cJx4a65c_size_8abf5 1 (some .int)]
def wsX5_copy_r2 : List Cond := [Cond.fieldLink RJx4a65c 48 "java/util/ArrayList" "size" "I", Cond.methodLink RX5 162 yJx4a65c_get_915e3, Cond.instanceMethod yJx4a65c_get_915e3, Cond.selects RJx4a65c yJx4a65c_get_915e3 yJx4a65c_get_915e3, Cond.code yJx4a65c_get_915e3 cJx4a65c_get_915e3 2 (some (.object "java/lang/Object")), Cond.methodLink RJx4a65c 118 yJ15_checkIndex_7cf53, Cond.static yJ15_checkIndex_7cf53, Cond.initialized RJ15, Cond.code yJ15_checkIndex_7cf53 cJ15_checkIndex_7cf53 2 (some .int), Cond.methodLink RJ15 105 yJ3_checkIndex_8e157, Cond.static yJ3_checkIndex_8e157, Cond.initialized RJ3, Cond.code yJ3_checkIndex_8e157 cJ3_checkIndex_8e157 3 (some .int), Cond.methodLink RJx4a65c 123 yJx4a65c_elementData_915e3, Cond.instanceMethod yJx4a65c_elementData_915e3, Cond.selects RJx4a65c yJx4a65c_elementData_915e3 yJx4a65c_elementData_915e3, Cond.code yJx4a65c_elementData_915e3 cJx4a65c_elementData_915e3 2 (some (.object "java/lang/Object")), Cond.fieldLink RJx4a65c 9 "java/util/ArrayList" "elementData" "[Ljava/lang/Object;", Cond.methodLink RX5 84 yX5_requireScribe, Cond.static yX5_requireScribe, Cond.code yX5_requireScribe cX5_requireScribe 1 none, Cond.methodLink RX5 87 yX5_findHouse, Cond.instanceMethod yX5_findHouse, Cond.selects RX5 yX5_findHouse yX5_findHouse]
def wsX5_copy_r3 : List Cond := [Cond.code yX5_findHouse cX5_findHouse 2 (some (.object "ModelCopies$House")), Cond.fieldLink RX5 10 "ModelCopies" "houses" "Ljava/util/ArrayList;", Cond.classLink RX5 40 "ModelCopies$House", Cond.methodLink RX5 51 yX0_init, Cond.instanceMethod yX0_init, Cond.code yX0_init cX0_init 4 none, Cond.methodLink RX0 3 objectInit, Cond.instanceMethod objectInit, Cond.code objectInit ⟨#[0xb1]⟩ 1 none, Cond.arrayClass .int, Cond.fieldLink RX0 9 "ModelCopies$Copy" "readings" "[I", Cond.fieldLink RX0 15 "ModelCopies$Copy" "isTold" "Z", Cond.fieldLink RX0 19 "ModelCopies$Copy" "number" "I", Cond.fieldLink RX0 23 "ModelCopies$Copy" "model" "LModelCopies$Copy;", Cond.fieldLink RX0 27 "ModelCopies$Copy" "owner" "LModelCopies$House;", Cond.fieldLink RX0 31 "ModelCopies$Copy" "house" "LModelCopies$House;", Cond.fieldLink RX0 34 "ModelCopies$Copy" "family" "I", Cond.methodLink RX0 37 arraycopyName, Cond.native arraycopyName, Cond.static arraycopyName, Cond.initialized "java/lang/System", Cond.methodLink RX5 107 yX1_writeInto, Cond.instanceMethod yX1_writeInto, Cond.selects RX1 yX1_writeInto yX1_writeInto]
def wsX5_copy_r4 : List Cond := [Cond.initialized RX1, Cond.code yX1_writeInto cX1_writeInto 4 (some .int), Cond.fieldLink RX1 29 "ModelCopies$Copy" "readings" "[I", Cond.fieldLink RX1 9 "ModelCopies$Draft" "readings" "[I", Cond.methodLink RX1 25 yX1_isFilled, Cond.instanceMethod yX1_isFilled, Cond.selects RX1 yX1_isFilled yX1_isFilled, Cond.code yX1_isFilled cX1_isFilled 2 (some .boolean), Cond.methodLink RX5 111 yX1_clear, Cond.instanceMethod yX1_clear, Cond.selects RX1 yX1_clear yX1_clear, Cond.code yX1_clear cX1_clear 1 none, Cond.fieldLink RX1 15 "ModelCopies$Draft" "filled" "I", Cond.methodLink RX1 19 yJ7_fill_53178, Cond.static yJ7_fill_53178, Cond.initialized RJ7, Cond.code yJ7_fill_53178 cJ7_fill_53178 4 none, Cond.methodLink RX5 45 yJx4a65c_add_9ea2d, Cond.instanceMethod yJx4a65c_add_9ea2d, Cond.selects RJx4a65c yJx4a65c_add_9ea2d yJx4a65c_add_9ea2d, Cond.code yJx4a65c_add_9ea2d cJx4a65c_add_9ea2d 2 (some .boolean), Cond.fieldLink RJx4a65c 63 "java/util/ArrayList" "modCount" "I", Cond.sameField "java/util/ArrayList" "java/util/AbstractList" "modCount" "I", Cond.methodLink RJx4a65c 131 yJx4a65c_add_72be8]
def wsX5_copy_r5 : List Cond := [Cond.instanceMethod yJx4a65c_add_72be8, Cond.selects RJx4a65c yJx4a65c_add_72be8 yJx4a65c_add_72be8, Cond.code yJx4a65c_add_72be8 cJx4a65c_add_72be8 4 none, Cond.methodLink RJx4a65c 129 yJx4a65c_grow_d5877, Cond.instanceMethod yJx4a65c_grow_d5877, Cond.selects RJx4a65c yJx4a65c_grow_d5877 yJx4a65c_grow_d5877, Cond.code yJx4a65c_grow_d5877 cJx4a65c_grow_d5877 1 (some (.array (.object "java/lang/Object"))), Cond.methodLink RJx4a65c 69 yJx4a65c_grow_92f84, Cond.instanceMethod yJx4a65c_grow_92f84, Cond.selects RJx4a65c yJx4a65c_grow_92f84 yJx4a65c_grow_92f84, Cond.code yJx4a65c_grow_92f84 cJx4a65c_grow_92f84 4 (some (.array (.object "java/lang/Object"))), Cond.fieldLink RJx4a65c 39 "java/util/ArrayList" "DEFAULTCAPACITY_EMPTY_ELEMENTDATA" "[Ljava/lang/Object;", Cond.methodLink RJx4a65c 79 Lib.Math.max.name, Cond.static Lib.Math.max.name, Cond.initialized "java/lang/Math", Cond.code Lib.Math.max.name Lib.Math.max.code 2 (some .int), Cond.classLink RJx4a65c 7 "java/lang/Object", Cond.methodLink RJx4a65c 73 yJ8_newLength_cabcc, Cond.static yJ8_newLength_cabcc, Cond.initialized RJ8, Cond.code yJ8_newLength_cabcc cJ8_newLength_cabcc 4 (some .int), Cond.methodLink RJ8 194 Lib.Math.max.name, Cond.constant RJ8 200 (2147483639), Cond.methodLink RJ8 201 yJ8_hugeLength_7cf53]
def wsX5_copy_r6 : List Cond := [Cond.static yJ8_hugeLength_7cf53, Cond.code yJ8_hugeLength_7cf53 cJ8_hugeLength_7cf53 3 (some .int), Cond.methodLink RJx4a65c 66 yJ7_copyOf_1904c, Cond.static yJ7_copyOf_1904c, Cond.code yJ7_copyOf_1904c cJ7_copyOf_1904c 2 (some (.array (.object "java/lang/Object"))), Cond.methodLink RJ7 86 ⟨"java/lang/Object", "getClass", "()Ljava/lang/Class;"⟩, Cond.selects "[Ljava/lang/Object;" ⟨"java/lang/Object", "getClass", "()Ljava/lang/Class;"⟩ ⟨"java/lang/Object", "getClass", "()Ljava/lang/Class;"⟩, Cond.instanceMethod ⟨"java/lang/Object", "getClass", "()Ljava/lang/Class;"⟩, Cond.native ⟨"java/lang/Object", "getClass", "()Ljava/lang/Class;"⟩, Cond.methodLink RJ7 300 yJ7_copyOf_6403c, Cond.static yJ7_copyOf_6403c, Cond.code yJ7_copyOf_6403c cJ7_copyOf_6403c 4 (some (.array (.object "java/lang/Object"))), Cond.classLink RJ7 110 "[Ljava/lang/Object;", Cond.classLink RJ7 2 "java/lang/Object", Cond.methodLink RJ7 304 Lib.Math.min.name, Cond.static Lib.Math.min.name, Cond.code Lib.Math.min.name Lib.Math.min.code 2 (some .int), Cond.methodLink RJ7 150 arraycopyName, Cond.methodLink RX5 114 yX5_enterFamily, Cond.instanceMethod yX5_enterFamily, Cond.selects RX5 yX5_enterFamily yX5_enterFamily, Cond.code yX5_enterFamily cX5_enterFamily 4 none, Cond.fieldLink RX5 127 "ModelCopies$Copy" "family" "I", Cond.methodLink RX5 301 yX0_isKinOf]
def wsX5_copy_r7 : List Cond := [Cond.instanceMethod yX0_isKinOf, Cond.selects RX0 yX0_isKinOf yX0_isKinOf, Cond.code yX0_isKinOf cX0_isKinOf 2 (some .boolean), Cond.methodLink RX0 43 yX0_modelIfTold, Cond.instanceMethod yX0_modelIfTold, Cond.selects RX0 yX0_modelIfTold yX0_modelIfTold, Cond.code yX0_modelIfTold cX0_modelIfTold 1 (some (.object "ModelCopies$Copy")), Cond.methodLink RX0 47 yX0_countSharedWith, Cond.instanceMethod yX0_countSharedWith, Cond.selects RX0 yX0_countSharedWith yX0_countSharedWith, Cond.code yX0_countSharedWith cX0_countSharedWith 4 (some .int), Cond.methodLink RX5 130 yX5_joinFamilies, Cond.instanceMethod yX5_joinFamilies, Cond.selects RX5 yX5_joinFamilies yX5_joinFamilies, Cond.code yX5_joinFamilies cX5_joinFamilies 7 none, Cond.methodLink RX5 304 Lib.Math.min.name, Cond.methodLink RX5 310 Lib.Math.max.name]
def wsX5_copy : List Cond := .code yX5_copy cX5_copy 8 (some .int) :: ((wsX5_copy_r1 ++ (wsX5_copy_r2 ++ (wsX5_copy_r3 ++ (wsX5_copy_r4 ++ (wsX5_copy_r5 ++ (wsX5_copy_r6 ++ wsX5_copy_r7)))))) ++ wsX00 ++ wsX50 ++ wsJx4a65c0 ++ wsX10 ++ (vx_atS RX5 72 "java/lang/IllegalStateException" ["java/lang/RuntimeException", "java/lang/Exception"]).filter goodWord ++ (vx_atS RX5 288 "java/lang/IndexOutOfBoundsException" ["java/lang/RuntimeException", "java/lang/Exception"]).filter goodWord)
def wsX5_tellModel_r1 : List Cond := [Cond.classLink RX5 68 "java/lang/IllegalStateException", Cond.initialized "java/lang/IllegalStateException", Cond.fieldLink RX5 121 "ModelCopies$Copy" "model" "LModelCopies$Copy;", Cond.fieldLink RX5 103 "ModelCopies$Copy" "isTold" "Z", Cond.fieldLink RX5 127 "ModelCopies$Copy" "family" "I", Cond.methodLink RX5 80 yX5_findCopy, Cond.instanceMethod yX5_findCopy, Cond.selects RX5 yX5_findCopy yX5_findCopy, Cond.initialized RX5, Cond.code yX5_findCopy cX5_findCopy 2 (some (.object "ModelCopies$Copy")), Cond.classLink RX5 284 "java/lang/IndexOutOfBoundsException", Cond.initialized "java/lang/IndexOutOfBoundsException", Cond.fieldLink RX5 16 "ModelCopies" "copies" "Ljava/util/ArrayList;", Cond.classLink RX5 49 "ModelCopies$Copy", Cond.methodLink RX5 97 yJx4a65c_size_8abf5, Cond.instanceMethod yJx4a65c_size_8abf5, Cond.selects RJx4a65c yJx4a65c_size_8abf5 yJx4a65c_size_8abf5, Cond.initialized RJx4a65c, Cond.code yJx4a65c_size_8abf5 cJx4a65c_size_8abf5 1 (some .int), Cond.fieldLink RJx4a65c 48 "java/util/ArrayList" "size" "I", Cond.methodLink RX5 162 yJx4a65c_get_915e3, Cond.instanceMethod yJx4a65c_get_915e3, Cond.selects RJx4a65c yJx4a65c_get_915e3 yJx4a65c_get_915e3, Cond.code yJx4a65c_get_915e3 cJx4a65c_get_915e3 2 (some (.object "java/lang/Object"))]
def wsX5_tellModel_r2 : List Cond := [Cond.methodLink RJx4a65c 118 yJ15_checkIndex_7cf53, Cond.static yJ15_checkIndex_7cf53, Cond.initialized RJ15, Cond.code yJ15_checkIndex_7cf53 cJ15_checkIndex_7cf53 2 (some .int), Cond.methodLink RJ15 105 yJ3_checkIndex_8e157, Cond.static yJ3_checkIndex_8e157, Cond.initialized RJ3, Cond.code yJ3_checkIndex_8e157 cJ3_checkIndex_8e157 3 (some .int), Cond.methodLink RJx4a65c 123 yJx4a65c_elementData_915e3, Cond.instanceMethod yJx4a65c_elementData_915e3, Cond.selects RJx4a65c yJx4a65c_elementData_915e3 yJx4a65c_elementData_915e3, Cond.code yJx4a65c_elementData_915e3 cJx4a65c_elementData_915e3 2 (some (.object "java/lang/Object")), Cond.fieldLink RJx4a65c 9 "java/util/ArrayList" "elementData" "[Ljava/lang/Object;", Cond.methodLink RX5 130 yX5_joinFamilies, Cond.instanceMethod yX5_joinFamilies, Cond.selects RX5 yX5_joinFamilies yX5_joinFamilies, Cond.code yX5_joinFamilies cX5_joinFamilies 7 none, Cond.methodLink RX5 304 Lib.Math.min.name, Cond.static Lib.Math.min.name, Cond.initialized "java/lang/Math", Cond.code Lib.Math.min.name Lib.Math.min.code 2 (some .int), Cond.methodLink RX5 310 Lib.Math.max.name, Cond.static Lib.Math.max.name, Cond.code Lib.Math.max.name Lib.Math.max.code 2 (some .int)]
def wsX5_tellModel : List Cond := .code yX5_tellModel cX5_tellModel 3 (some .int) :: ((wsX5_tellModel_r1 ++ wsX5_tellModel_r2) ++ wsX00 ++ wsX50 ++ wsJx4a65c0 ++ (vx_atS RX5 72 "java/lang/IllegalStateException" ["java/lang/RuntimeException", "java/lang/Exception"]).filter goodWord ++ (vx_atS RX5 288 "java/lang/IndexOutOfBoundsException" ["java/lang/RuntimeException", "java/lang/Exception"]).filter goodWord)
def wsX5_pass : List Cond := .code yX5_pass cX5_pass 2 (some .int) :: ([.classLink RX5 57 "java/lang/IllegalArgumentException", .initialized "java/lang/IllegalArgumentException", .classLink RX5 68 "java/lang/IllegalStateException", .initialized "java/lang/IllegalStateException", .fieldLink RX5 36 "ModelCopies" "today" "I"] ++ wsX50 ++ (vx_atS RX5 61 "java/lang/IllegalArgumentException" ["java/lang/RuntimeException", "java/lang/Exception"]).filter goodWord ++ (vx_atS RX5 72 "java/lang/IllegalStateException" ["java/lang/RuntimeException", "java/lang/Exception"]).filter goodWord)
def wsX5_findFamiliesAnew_r1 : List Cond := [Cond.fieldLink RX5 16 "ModelCopies" "copies" "Ljava/util/ArrayList;", Cond.classLink RX5 49 "ModelCopies$Copy", Cond.methodLink RX5 97 yJx4a65c_size_8abf5, Cond.instanceMethod yJx4a65c_size_8abf5, Cond.selects RJx4a65c yJx4a65c_size_8abf5 yJx4a65c_size_8abf5, Cond.initialized RJx4a65c, Cond.code yJx4a65c_size_8abf5 cJx4a65c_size_8abf5 1 (some .int), Cond.fieldLink RJx4a65c 48 "java/util/ArrayList" "size" "I", Cond.methodLink RX5 162 yJx4a65c_get_915e3, Cond.instanceMethod yJx4a65c_get_915e3, Cond.selects RJx4a65c yJx4a65c_get_915e3 yJx4a65c_get_915e3, Cond.code yJx4a65c_get_915e3 cJx4a65c_get_915e3 2 (some (.object "java/lang/Object")), Cond.methodLink RJx4a65c 118 yJ15_checkIndex_7cf53, Cond.static yJ15_checkIndex_7cf53, Cond.initialized RJ15, Cond.code yJ15_checkIndex_7cf53 cJ15_checkIndex_7cf53 2 (some .int), Cond.methodLink RJ15 105 yJ3_checkIndex_8e157, Cond.static yJ3_checkIndex_8e157, Cond.initialized RJ3, Cond.code yJ3_checkIndex_8e157 cJ3_checkIndex_8e157 3 (some .int), Cond.methodLink RJx4a65c 123 yJx4a65c_elementData_915e3, Cond.instanceMethod yJx4a65c_elementData_915e3, Cond.selects RJx4a65c yJx4a65c_elementData_915e3 yJx4a65c_elementData_915e3, Cond.code yJx4a65c_elementData_915e3 cJx4a65c_elementData_915e3 2 (some (.object "java/lang/Object"))]
def wsX5_findFamiliesAnew_r2 : List Cond := [Cond.fieldLink RJx4a65c 9 "java/util/ArrayList" "elementData" "[Ljava/lang/Object;", Cond.methodLink RX5 114 yX5_enterFamily, Cond.instanceMethod yX5_enterFamily, Cond.selects RX5 yX5_enterFamily yX5_enterFamily, Cond.initialized RX5, Cond.code yX5_enterFamily cX5_enterFamily 4 none, Cond.fieldLink RX5 118 "ModelCopies$Copy" "number" "I", Cond.fieldLink RX5 127 "ModelCopies$Copy" "family" "I", Cond.methodLink RX5 301 yX0_isKinOf, Cond.instanceMethod yX0_isKinOf, Cond.selects RX0 yX0_isKinOf yX0_isKinOf, Cond.initialized RX0, Cond.code yX0_isKinOf cX0_isKinOf 2 (some .boolean), Cond.methodLink RX0 43 yX0_modelIfTold, Cond.instanceMethod yX0_modelIfTold, Cond.selects RX0 yX0_modelIfTold yX0_modelIfTold, Cond.code yX0_modelIfTold cX0_modelIfTold 1 (some (.object "ModelCopies$Copy")), Cond.fieldLink RX0 15 "ModelCopies$Copy" "isTold" "Z", Cond.fieldLink RX0 23 "ModelCopies$Copy" "model" "LModelCopies$Copy;", Cond.methodLink RX0 47 yX0_countSharedWith, Cond.instanceMethod yX0_countSharedWith, Cond.selects RX0 yX0_countSharedWith yX0_countSharedWith, Cond.code yX0_countSharedWith cX0_countSharedWith 4 (some .int), Cond.fieldLink RX0 9 "ModelCopies$Copy" "readings" "[I"]
def wsX5_findFamiliesAnew_r3 : List Cond := [Cond.methodLink RX5 130 yX5_joinFamilies, Cond.instanceMethod yX5_joinFamilies, Cond.selects RX5 yX5_joinFamilies yX5_joinFamilies, Cond.code yX5_joinFamilies cX5_joinFamilies 7 none, Cond.methodLink RX5 304 Lib.Math.min.name, Cond.static Lib.Math.min.name, Cond.initialized "java/lang/Math", Cond.code Lib.Math.min.name Lib.Math.min.code 2 (some .int), Cond.methodLink RX5 310 Lib.Math.max.name, Cond.static Lib.Math.max.name, Cond.code Lib.Math.max.name Lib.Math.max.code 2 (some .int)]
def wsX5_findFamiliesAnew : List Cond := .code yX5_findFamiliesAnew cX5_findFamiliesAnew 2 none :: ((wsX5_findFamiliesAnew_r1 ++ (wsX5_findFamiliesAnew_r2 ++ wsX5_findFamiliesAnew_r3)) ++ wsX50 ++ wsJx4a65c0 ++ wsX00)
def wsX5_correct_r1 : List Cond := [Cond.classLink RX5 68 "java/lang/IllegalStateException", Cond.initialized "java/lang/IllegalStateException", Cond.fieldLink RX5 91 "ModelCopies$Copy" "house" "LModelCopies$House;", Cond.fieldLink RX5 139 "ModelCopies$Copy" "readings" "[I", Cond.fieldLink RX5 19 "ModelCopies" "letters" "Ljava/util/ArrayList;", Cond.classLink RX5 146 RX3, Cond.instantiable RX3 3, Cond.initialized RX3, Cond.methodLink RX5 87 yX5_findHouse, Cond.instanceMethod yX5_findHouse, Cond.selects RX5 yX5_findHouse yX5_findHouse, Cond.initialized RX5, Cond.code yX5_findHouse cX5_findHouse 2 (some (.object "ModelCopies$House")), Cond.classLink RX5 284 "java/lang/IndexOutOfBoundsException", Cond.initialized "java/lang/IndexOutOfBoundsException", Cond.fieldLink RX5 10 "ModelCopies" "houses" "Ljava/util/ArrayList;", Cond.classLink RX5 40 "ModelCopies$House", Cond.methodLink RX5 97 yJx4a65c_size_8abf5, Cond.instanceMethod yJx4a65c_size_8abf5, Cond.selects RJx4a65c yJx4a65c_size_8abf5 yJx4a65c_size_8abf5, Cond.initialized RJx4a65c, Cond.code yJx4a65c_size_8abf5 cJx4a65c_size_8abf5 1 (some .int), Cond.fieldLink RJx4a65c 48 "java/util/ArrayList" "size" "I", Cond.methodLink RX5 162 yJx4a65c_get_915e3]
def wsX5_correct_r2 : List Cond := [Cond.instanceMethod yJx4a65c_get_915e3, Cond.selects RJx4a65c yJx4a65c_get_915e3 yJx4a65c_get_915e3, Cond.code yJx4a65c_get_915e3 cJx4a65c_get_915e3 2 (some (.object "java/lang/Object")), Cond.methodLink RJx4a65c 118 yJ15_checkIndex_7cf53, Cond.static yJ15_checkIndex_7cf53, Cond.initialized RJ15, Cond.code yJ15_checkIndex_7cf53 cJ15_checkIndex_7cf53 2 (some .int), Cond.methodLink RJ15 105 yJ3_checkIndex_8e157, Cond.static yJ3_checkIndex_8e157, Cond.initialized RJ3, Cond.code yJ3_checkIndex_8e157 cJ3_checkIndex_8e157 3 (some .int), Cond.methodLink RJx4a65c 123 yJx4a65c_elementData_915e3, Cond.instanceMethod yJx4a65c_elementData_915e3, Cond.selects RJx4a65c yJx4a65c_elementData_915e3 yJx4a65c_elementData_915e3, Cond.code yJx4a65c_elementData_915e3 cJx4a65c_elementData_915e3 2 (some (.object "java/lang/Object")), Cond.fieldLink RJx4a65c 9 "java/util/ArrayList" "elementData" "[Ljava/lang/Object;", Cond.methodLink RX5 80 yX5_findCopy, Cond.instanceMethod yX5_findCopy, Cond.selects RX5 yX5_findCopy yX5_findCopy, Cond.code yX5_findCopy cX5_findCopy 2 (some (.object "ModelCopies$Copy")), Cond.fieldLink RX5 16 "ModelCopies" "copies" "Ljava/util/ArrayList;", Cond.classLink RX5 49 "ModelCopies$Copy", Cond.methodLink RX5 54 yX5_requirePlace, Cond.static yX5_requirePlace]
def wsX5_correct_r3 : List Cond := [Cond.code yX5_requirePlace cX5_requirePlace 1 none, Cond.methodLink RX5 148 yX3_init, Cond.instanceMethod yX3_init, Cond.code yX3_init cX3_init 4 none, Cond.methodLink RX3 3 objectInit, Cond.instanceMethod objectInit, Cond.code objectInit ⟨#[0xb1]⟩ 1 none, Cond.fieldLink RX3 9 "ModelCopies$Letter" "place" "I", Cond.fieldLink RX3 15 "ModelCopies$Letter" "was" "I", Cond.fieldLink RX3 18 "ModelCopies$Letter" "now" "I", Cond.methodLink RX5 45 yJx4a65c_add_9ea2d, Cond.instanceMethod yJx4a65c_add_9ea2d, Cond.selects RJx4a65c yJx4a65c_add_9ea2d yJx4a65c_add_9ea2d, Cond.code yJx4a65c_add_9ea2d cJx4a65c_add_9ea2d 2 (some .boolean), Cond.fieldLink RJx4a65c 63 "java/util/ArrayList" "modCount" "I", Cond.sameField "java/util/ArrayList" "java/util/AbstractList" "modCount" "I", Cond.methodLink RJx4a65c 131 yJx4a65c_add_72be8, Cond.instanceMethod yJx4a65c_add_72be8, Cond.selects RJx4a65c yJx4a65c_add_72be8 yJx4a65c_add_72be8, Cond.code yJx4a65c_add_72be8 cJx4a65c_add_72be8 4 none, Cond.methodLink RJx4a65c 129 yJx4a65c_grow_d5877, Cond.instanceMethod yJx4a65c_grow_d5877, Cond.selects RJx4a65c yJx4a65c_grow_d5877 yJx4a65c_grow_d5877, Cond.code yJx4a65c_grow_d5877 cJx4a65c_grow_d5877 1 (some (.array (.object "java/lang/Object")))]
def wsX5_correct_r4 : List Cond := [Cond.methodLink RJx4a65c 69 yJx4a65c_grow_92f84, Cond.instanceMethod yJx4a65c_grow_92f84, Cond.selects RJx4a65c yJx4a65c_grow_92f84 yJx4a65c_grow_92f84, Cond.code yJx4a65c_grow_92f84 cJx4a65c_grow_92f84 4 (some (.array (.object "java/lang/Object"))), Cond.fieldLink RJx4a65c 39 "java/util/ArrayList" "DEFAULTCAPACITY_EMPTY_ELEMENTDATA" "[Ljava/lang/Object;", Cond.methodLink RJx4a65c 79 Lib.Math.max.name, Cond.static Lib.Math.max.name, Cond.initialized "java/lang/Math", Cond.code Lib.Math.max.name Lib.Math.max.code 2 (some .int), Cond.classLink RJx4a65c 7 "java/lang/Object", Cond.methodLink RJx4a65c 73 yJ8_newLength_cabcc, Cond.static yJ8_newLength_cabcc, Cond.initialized RJ8, Cond.code yJ8_newLength_cabcc cJ8_newLength_cabcc 4 (some .int), Cond.methodLink RJ8 194 Lib.Math.max.name, Cond.constant RJ8 200 (2147483639), Cond.methodLink RJ8 201 yJ8_hugeLength_7cf53, Cond.static yJ8_hugeLength_7cf53, Cond.code yJ8_hugeLength_7cf53 cJ8_hugeLength_7cf53 3 (some .int), Cond.methodLink RJx4a65c 66 yJ7_copyOf_1904c, Cond.static yJ7_copyOf_1904c, Cond.initialized RJ7, Cond.code yJ7_copyOf_1904c cJ7_copyOf_1904c 2 (some (.array (.object "java/lang/Object"))), Cond.methodLink RJ7 86 ⟨"java/lang/Object", "getClass", "()Ljava/lang/Class;"⟩]
def wsX5_correct_r5 : List Cond := [Cond.selects "[Ljava/lang/Object;" ⟨"java/lang/Object", "getClass", "()Ljava/lang/Class;"⟩ ⟨"java/lang/Object", "getClass", "()Ljava/lang/Class;"⟩, Cond.instanceMethod ⟨"java/lang/Object", "getClass", "()Ljava/lang/Class;"⟩, Cond.native ⟨"java/lang/Object", "getClass", "()Ljava/lang/Class;"⟩, Cond.methodLink RJ7 300 yJ7_copyOf_6403c, Cond.static yJ7_copyOf_6403c, Cond.code yJ7_copyOf_6403c cJ7_copyOf_6403c 4 (some (.array (.object "java/lang/Object"))), Cond.classLink RJ7 110 "[Ljava/lang/Object;", Cond.classLink RJ7 2 "java/lang/Object", Cond.methodLink RJ7 304 Lib.Math.min.name, Cond.static Lib.Math.min.name, Cond.code Lib.Math.min.name Lib.Math.min.code 2 (some .int), Cond.methodLink RJ7 150 arraycopyName, Cond.native arraycopyName, Cond.static arraycopyName, Cond.initialized "java/lang/System", Cond.methodLink RX5 151 yX2_take, Cond.instanceMethod yX2_take, Cond.selects RX2 yX2_take yX2_take, Cond.initialized RX2, Cond.code yX2_take cX2_take 2 none, Cond.fieldLink RX2 9 "ModelCopies$House" "held" "[Z", Cond.methodLink RX5 154 yX5_findFamiliesAnew, Cond.instanceMethod yX5_findFamiliesAnew, Cond.selects RX5 yX5_findFamiliesAnew yX5_findFamiliesAnew]
def wsX5_correct_r6 : List Cond := [Cond.code yX5_findFamiliesAnew cX5_findFamiliesAnew 2 none, Cond.methodLink RX5 114 yX5_enterFamily, Cond.instanceMethod yX5_enterFamily, Cond.selects RX5 yX5_enterFamily yX5_enterFamily, Cond.code yX5_enterFamily cX5_enterFamily 4 none, Cond.fieldLink RX5 118 "ModelCopies$Copy" "number" "I", Cond.fieldLink RX5 127 "ModelCopies$Copy" "family" "I", Cond.methodLink RX5 301 yX0_isKinOf, Cond.instanceMethod yX0_isKinOf, Cond.selects RX0 yX0_isKinOf yX0_isKinOf, Cond.initialized RX0, Cond.code yX0_isKinOf cX0_isKinOf 2 (some .boolean), Cond.methodLink RX0 43 yX0_modelIfTold, Cond.instanceMethod yX0_modelIfTold, Cond.selects RX0 yX0_modelIfTold yX0_modelIfTold, Cond.code yX0_modelIfTold cX0_modelIfTold 1 (some (.object "ModelCopies$Copy")), Cond.fieldLink RX0 15 "ModelCopies$Copy" "isTold" "Z", Cond.fieldLink RX0 23 "ModelCopies$Copy" "model" "LModelCopies$Copy;", Cond.methodLink RX0 47 yX0_countSharedWith, Cond.instanceMethod yX0_countSharedWith, Cond.selects RX0 yX0_countSharedWith yX0_countSharedWith, Cond.code yX0_countSharedWith cX0_countSharedWith 4 (some .int), Cond.fieldLink RX0 9 "ModelCopies$Copy" "readings" "[I", Cond.methodLink RX5 130 yX5_joinFamilies]
def wsX5_correct_r7 : List Cond := [Cond.instanceMethod yX5_joinFamilies, Cond.selects RX5 yX5_joinFamilies yX5_joinFamilies, Cond.code yX5_joinFamilies cX5_joinFamilies 7 none, Cond.methodLink RX5 304 Lib.Math.min.name, Cond.methodLink RX5 310 Lib.Math.max.name]
def wsX5_correct : List Cond := .code yX5_correct cX5_correct 11 (some .int) :: ((wsX5_correct_r1 ++ (wsX5_correct_r2 ++ (wsX5_correct_r3 ++ (wsX5_correct_r4 ++ (wsX5_correct_r5 ++ (wsX5_correct_r6 ++ wsX5_correct_r7)))))) ++ wsX00 ++ wsX50 ++ wsX30 ++ wsJx4a65c0 ++ wsX20 ++ (vx_atS RX5 72 "java/lang/IllegalStateException" ["java/lang/RuntimeException", "java/lang/Exception"]).filter goodWord ++ (vx_atS RX5 288 "java/lang/IndexOutOfBoundsException" ["java/lang/RuntimeException", "java/lang/Exception"]).filter goodWord)
def wsX5_workIn_r1 : List Cond := [Cond.classLink RX5 68 "java/lang/IllegalStateException", Cond.initialized "java/lang/IllegalStateException", Cond.fieldLink RX5 91 "ModelCopies$Copy" "house" "LModelCopies$House;", Cond.fieldLink RX5 19 "ModelCopies" "letters" "Ljava/util/ArrayList;", Cond.classLink RX5 146 "ModelCopies$Letter", Cond.methodLink RX5 87 yX5_findHouse, Cond.instanceMethod yX5_findHouse, Cond.selects RX5 yX5_findHouse yX5_findHouse, Cond.initialized RX5, Cond.code yX5_findHouse cX5_findHouse 2 (some (.object "ModelCopies$House")), Cond.classLink RX5 284 "java/lang/IndexOutOfBoundsException", Cond.initialized "java/lang/IndexOutOfBoundsException", Cond.fieldLink RX5 10 "ModelCopies" "houses" "Ljava/util/ArrayList;", Cond.classLink RX5 40 "ModelCopies$House", Cond.methodLink RX5 97 yJx4a65c_size_8abf5, Cond.instanceMethod yJx4a65c_size_8abf5, Cond.selects RJx4a65c yJx4a65c_size_8abf5 yJx4a65c_size_8abf5, Cond.initialized RJx4a65c, Cond.code yJx4a65c_size_8abf5 cJx4a65c_size_8abf5 1 (some .int), Cond.fieldLink RJx4a65c 48 "java/util/ArrayList" "size" "I", Cond.methodLink RX5 162 yJx4a65c_get_915e3, Cond.instanceMethod yJx4a65c_get_915e3, Cond.selects RJx4a65c yJx4a65c_get_915e3 yJx4a65c_get_915e3, Cond.code yJx4a65c_get_915e3 cJx4a65c_get_915e3 2 (some (.object "java/lang/Object"))]
def wsX5_workIn_r2 : List Cond := [Cond.methodLink RJx4a65c 118 yJ15_checkIndex_7cf53, Cond.static yJ15_checkIndex_7cf53, Cond.initialized RJ15, Cond.code yJ15_checkIndex_7cf53 cJ15_checkIndex_7cf53 2 (some .int), Cond.methodLink RJ15 105 yJ3_checkIndex_8e157, Cond.static yJ3_checkIndex_8e157, Cond.initialized RJ3, Cond.code yJ3_checkIndex_8e157 cJ3_checkIndex_8e157 3 (some .int), Cond.methodLink RJx4a65c 123 yJx4a65c_elementData_915e3, Cond.instanceMethod yJx4a65c_elementData_915e3, Cond.selects RJx4a65c yJx4a65c_elementData_915e3 yJx4a65c_elementData_915e3, Cond.code yJx4a65c_elementData_915e3 cJx4a65c_elementData_915e3 2 (some (.object "java/lang/Object")), Cond.fieldLink RJx4a65c 9 "java/util/ArrayList" "elementData" "[Ljava/lang/Object;", Cond.methodLink RX5 80 yX5_findCopy, Cond.instanceMethod yX5_findCopy, Cond.selects RX5 yX5_findCopy yX5_findCopy, Cond.code yX5_findCopy cX5_findCopy 2 (some (.object "ModelCopies$Copy")), Cond.fieldLink RX5 16 "ModelCopies" "copies" "Ljava/util/ArrayList;", Cond.classLink RX5 49 "ModelCopies$Copy", Cond.methodLink RX5 159 yX2_holds, Cond.instanceMethod yX2_holds, Cond.selects RX2 yX2_holds yX2_holds, Cond.initialized RX2, Cond.code yX2_holds cX2_holds 2 (some .boolean)]
def wsX5_workIn_r3 : List Cond := [Cond.fieldLink RX2 9 "ModelCopies$House" "held" "[Z", Cond.methodLink RX5 166 yX3_changes, Cond.instanceMethod yX3_changes, Cond.selects RX3 yX3_changes yX3_changes, Cond.initialized RX3, Cond.code yX3_changes cX3_changes 2 (some .boolean), Cond.fieldLink RX3 9 "ModelCopies$Letter" "place" "I", Cond.fieldLink RX3 21 "ModelCopies$Copy" "readings" "[I", Cond.fieldLink RX3 15 "ModelCopies$Letter" "was" "I", Cond.fieldLink RX3 18 "ModelCopies$Letter" "now" "I", Cond.methodLink RX5 154 yX5_findFamiliesAnew, Cond.instanceMethod yX5_findFamiliesAnew, Cond.selects RX5 yX5_findFamiliesAnew yX5_findFamiliesAnew, Cond.code yX5_findFamiliesAnew cX5_findFamiliesAnew 2 none, Cond.methodLink RX5 114 yX5_enterFamily, Cond.instanceMethod yX5_enterFamily, Cond.selects RX5 yX5_enterFamily yX5_enterFamily, Cond.code yX5_enterFamily cX5_enterFamily 4 none, Cond.fieldLink RX5 118 "ModelCopies$Copy" "number" "I", Cond.fieldLink RX5 127 "ModelCopies$Copy" "family" "I", Cond.methodLink RX5 301 yX0_isKinOf, Cond.instanceMethod yX0_isKinOf, Cond.selects RX0 yX0_isKinOf yX0_isKinOf, Cond.initialized RX0]
def wsX5_workIn_r4 : List Cond := [Cond.code yX0_isKinOf cX0_isKinOf 2 (some .boolean), Cond.methodLink RX0 43 yX0_modelIfTold, Cond.instanceMethod yX0_modelIfTold, Cond.selects RX0 yX0_modelIfTold yX0_modelIfTold, Cond.code yX0_modelIfTold cX0_modelIfTold 1 (some (.object "ModelCopies$Copy")), Cond.fieldLink RX0 15 "ModelCopies$Copy" "isTold" "Z", Cond.fieldLink RX0 23 "ModelCopies$Copy" "model" "LModelCopies$Copy;", Cond.methodLink RX0 47 yX0_countSharedWith, Cond.instanceMethod yX0_countSharedWith, Cond.selects RX0 yX0_countSharedWith yX0_countSharedWith, Cond.code yX0_countSharedWith cX0_countSharedWith 4 (some .int), Cond.fieldLink RX0 9 "ModelCopies$Copy" "readings" "[I", Cond.methodLink RX5 130 yX5_joinFamilies, Cond.instanceMethod yX5_joinFamilies, Cond.selects RX5 yX5_joinFamilies yX5_joinFamilies, Cond.code yX5_joinFamilies cX5_joinFamilies 7 none, Cond.methodLink RX5 304 Lib.Math.min.name, Cond.static Lib.Math.min.name, Cond.initialized "java/lang/Math", Cond.code Lib.Math.min.name Lib.Math.min.code 2 (some .int), Cond.methodLink RX5 310 Lib.Math.max.name, Cond.static Lib.Math.max.name, Cond.code Lib.Math.max.name Lib.Math.max.code 2 (some .int)]
def wsX5_workIn : List Cond := .code yX5_workIn cX5_workIn 7 (some .int) :: ((wsX5_workIn_r1 ++ (wsX5_workIn_r2 ++ (wsX5_workIn_r3 ++ wsX5_workIn_r4))) ++ wsX00 ++ wsX50 ++ wsJx4a65c0 ++ wsX20 ++ wsX30 ++ (vx_atS RX5 72 "java/lang/IllegalStateException" ["java/lang/RuntimeException", "java/lang/Exception"]).filter goodWord ++ (vx_atS RX5 288 "java/lang/IndexOutOfBoundsException" ["java/lang/RuntimeException", "java/lang/Exception"]).filter goodWord)
def wsX5_lend_r1 : List Cond := [Cond.classLink RX5 57 "java/lang/IllegalArgumentException", Cond.initialized "java/lang/IllegalArgumentException", Cond.classLink RX5 68 "java/lang/IllegalStateException", Cond.initialized "java/lang/IllegalStateException", Cond.fieldLink RX5 174 "ModelCopies$Copy" "owner" "LModelCopies$House;", Cond.fieldLink RX5 91 "ModelCopies$Copy" "house" "LModelCopies$House;", Cond.fieldLink RX5 179 "ModelCopies$House" "coins" "I", Cond.fieldLink RX5 22 "ModelCopies" "loans" "Ljava/util/ArrayList;", Cond.classLink RX5 186 RX4, Cond.instantiable RX4 6, Cond.initialized RX4, Cond.fieldLink RX5 36 "ModelCopies" "today" "I", Cond.fieldLink RX5 191 "ModelCopies$House" "laidDown" "I", Cond.methodLink RX5 80 yX5_findCopy, Cond.instanceMethod yX5_findCopy, Cond.selects RX5 yX5_findCopy yX5_findCopy, Cond.initialized RX5, Cond.code yX5_findCopy cX5_findCopy 2 (some (.object "ModelCopies$Copy")), Cond.classLink RX5 284 "java/lang/IndexOutOfBoundsException", Cond.initialized "java/lang/IndexOutOfBoundsException", Cond.fieldLink RX5 16 "ModelCopies" "copies" "Ljava/util/ArrayList;", Cond.classLink RX5 49 "ModelCopies$Copy", Cond.methodLink RX5 97 yJx4a65c_size_8abf5, Cond.instanceMethod yJx4a65c_size_8abf5]
def wsX5_lend_r2 : List Cond := [Cond.selects RJx4a65c yJx4a65c_size_8abf5 yJx4a65c_size_8abf5, Cond.initialized RJx4a65c, Cond.code yJx4a65c_size_8abf5 cJx4a65c_size_8abf5 1 (some .int), Cond.fieldLink RJx4a65c 48 "java/util/ArrayList" "size" "I", Cond.methodLink RX5 162 yJx4a65c_get_915e3, Cond.instanceMethod yJx4a65c_get_915e3, Cond.selects RJx4a65c yJx4a65c_get_915e3 yJx4a65c_get_915e3, Cond.code yJx4a65c_get_915e3 cJx4a65c_get_915e3 2 (some (.object "java/lang/Object")), Cond.methodLink RJx4a65c 118 yJ15_checkIndex_7cf53, Cond.static yJ15_checkIndex_7cf53, Cond.initialized RJ15, Cond.code yJ15_checkIndex_7cf53 cJ15_checkIndex_7cf53 2 (some .int), Cond.methodLink RJ15 105 yJ3_checkIndex_8e157, Cond.static yJ3_checkIndex_8e157, Cond.initialized RJ3, Cond.code yJ3_checkIndex_8e157 cJ3_checkIndex_8e157 3 (some .int), Cond.methodLink RJx4a65c 123 yJx4a65c_elementData_915e3, Cond.instanceMethod yJx4a65c_elementData_915e3, Cond.selects RJx4a65c yJx4a65c_elementData_915e3 yJx4a65c_elementData_915e3, Cond.code yJx4a65c_elementData_915e3 cJx4a65c_elementData_915e3 2 (some (.object "java/lang/Object")), Cond.fieldLink RJx4a65c 9 "java/util/ArrayList" "elementData" "[Ljava/lang/Object;", Cond.methodLink RX5 87 yX5_findHouse, Cond.instanceMethod yX5_findHouse, Cond.selects RX5 yX5_findHouse yX5_findHouse]
def wsX5_lend_r3 : List Cond := [Cond.code yX5_findHouse cX5_findHouse 2 (some (.object "ModelCopies$House")), Cond.fieldLink RX5 10 "ModelCopies" "houses" "Ljava/util/ArrayList;", Cond.classLink RX5 40 "ModelCopies$House", Cond.methodLink RX5 188 yX4_init, Cond.instanceMethod yX4_init, Cond.code yX4_init cX4_init 5 none, Cond.methodLink RX4 3 objectInit, Cond.instanceMethod objectInit, Cond.code objectInit ⟨#[0xb1]⟩ 1 none, Cond.fieldLink RX4 9 "ModelCopies$Loan" "isBack" "Z", Cond.fieldLink RX4 15 "ModelCopies$Loan" "daysLateAtEnd" "I", Cond.fieldLink RX4 19 "ModelCopies$Loan" "copy" "LModelCopies$Copy;", Cond.fieldLink RX4 23 "ModelCopies$Loan" "borrower" "LModelCopies$House;", Cond.fieldLink RX4 27 "ModelCopies$Loan" "lastDay" "I", Cond.fieldLink RX4 30 "ModelCopies$Loan" "pledge" "I", Cond.methodLink RX5 45 yJx4a65c_add_9ea2d, Cond.instanceMethod yJx4a65c_add_9ea2d, Cond.selects RJx4a65c yJx4a65c_add_9ea2d yJx4a65c_add_9ea2d, Cond.code yJx4a65c_add_9ea2d cJx4a65c_add_9ea2d 2 (some .boolean), Cond.fieldLink RJx4a65c 63 "java/util/ArrayList" "modCount" "I", Cond.sameField "java/util/ArrayList" "java/util/AbstractList" "modCount" "I", Cond.methodLink RJx4a65c 131 yJx4a65c_add_72be8, Cond.instanceMethod yJx4a65c_add_72be8, Cond.selects RJx4a65c yJx4a65c_add_72be8 yJx4a65c_add_72be8]
def wsX5_lend_r4 : List Cond := [Cond.code yJx4a65c_add_72be8 cJx4a65c_add_72be8 4 none, Cond.methodLink RJx4a65c 129 yJx4a65c_grow_d5877, Cond.instanceMethod yJx4a65c_grow_d5877, Cond.selects RJx4a65c yJx4a65c_grow_d5877 yJx4a65c_grow_d5877, Cond.code yJx4a65c_grow_d5877 cJx4a65c_grow_d5877 1 (some (.array (.object "java/lang/Object"))), Cond.methodLink RJx4a65c 69 yJx4a65c_grow_92f84, Cond.instanceMethod yJx4a65c_grow_92f84, Cond.selects RJx4a65c yJx4a65c_grow_92f84 yJx4a65c_grow_92f84, Cond.code yJx4a65c_grow_92f84 cJx4a65c_grow_92f84 4 (some (.array (.object "java/lang/Object"))), Cond.fieldLink RJx4a65c 39 "java/util/ArrayList" "DEFAULTCAPACITY_EMPTY_ELEMENTDATA" "[Ljava/lang/Object;", Cond.methodLink RJx4a65c 79 Lib.Math.max.name, Cond.static Lib.Math.max.name, Cond.initialized "java/lang/Math", Cond.code Lib.Math.max.name Lib.Math.max.code 2 (some .int), Cond.classLink RJx4a65c 7 "java/lang/Object", Cond.methodLink RJx4a65c 73 yJ8_newLength_cabcc, Cond.static yJ8_newLength_cabcc, Cond.initialized RJ8, Cond.code yJ8_newLength_cabcc cJ8_newLength_cabcc 4 (some .int), Cond.methodLink RJ8 194 Lib.Math.max.name, Cond.constant RJ8 200 (2147483639), Cond.methodLink RJ8 201 yJ8_hugeLength_7cf53, Cond.static yJ8_hugeLength_7cf53, Cond.code yJ8_hugeLength_7cf53 cJ8_hugeLength_7cf53 3 (some .int)]
def wsX5_lend_r5 : List Cond := [Cond.methodLink RJx4a65c 66 yJ7_copyOf_1904c, Cond.static yJ7_copyOf_1904c, Cond.initialized RJ7, Cond.code yJ7_copyOf_1904c cJ7_copyOf_1904c 2 (some (.array (.object "java/lang/Object"))), Cond.methodLink RJ7 86 ⟨"java/lang/Object", "getClass", "()Ljava/lang/Class;"⟩, Cond.selects "[Ljava/lang/Object;" ⟨"java/lang/Object", "getClass", "()Ljava/lang/Class;"⟩ ⟨"java/lang/Object", "getClass", "()Ljava/lang/Class;"⟩, Cond.instanceMethod ⟨"java/lang/Object", "getClass", "()Ljava/lang/Class;"⟩, Cond.native ⟨"java/lang/Object", "getClass", "()Ljava/lang/Class;"⟩, Cond.methodLink RJ7 300 yJ7_copyOf_6403c, Cond.static yJ7_copyOf_6403c, Cond.code yJ7_copyOf_6403c cJ7_copyOf_6403c 4 (some (.array (.object "java/lang/Object"))), Cond.classLink RJ7 110 "[Ljava/lang/Object;", Cond.classLink RJ7 2 "java/lang/Object", Cond.methodLink RJ7 304 Lib.Math.min.name, Cond.static Lib.Math.min.name, Cond.code Lib.Math.min.name Lib.Math.min.code 2 (some .int), Cond.methodLink RJ7 150 arraycopyName, Cond.native arraycopyName, Cond.static arraycopyName, Cond.initialized "java/lang/System", Cond.methodLink RX5 194 yX2_takeLettersOf, Cond.instanceMethod yX2_takeLettersOf, Cond.selects RX2 yX2_takeLettersOf yX2_takeLettersOf, Cond.initialized RX2]
def wsX5_lend_r6 : List Cond := [Cond.code yX2_takeLettersOf cX2_takeLettersOf 3 none, Cond.methodLink RX2 25 yX2_holds, Cond.instanceMethod yX2_holds, Cond.selects RX2 yX2_holds yX2_holds, Cond.code yX2_holds cX2_holds 2 (some .boolean), Cond.fieldLink RX2 9 "ModelCopies$House" "held" "[Z", Cond.methodLink RX2 29 yX2_take, Cond.instanceMethod yX2_take, Cond.selects RX2 yX2_take yX2_take, Cond.code yX2_take cX2_take 2 none]
def wsX5_lend : List Cond := .code yX5_lend cX5_lend 8 (some .int) :: ((wsX5_lend_r1 ++ (wsX5_lend_r2 ++ (wsX5_lend_r3 ++ (wsX5_lend_r4 ++ (wsX5_lend_r5 ++ wsX5_lend_r6))))) ++ wsX00 ++ wsX20 ++ wsX50 ++ wsX40 ++ wsJx4a65c0 ++ (vx_atS RX5 61 "java/lang/IllegalArgumentException" ["java/lang/RuntimeException", "java/lang/Exception"]).filter goodWord ++ (vx_atS RX5 72 "java/lang/IllegalStateException" ["java/lang/RuntimeException", "java/lang/Exception"]).filter goodWord ++ (vx_atS RX5 288 "java/lang/IndexOutOfBoundsException" ["java/lang/RuntimeException", "java/lang/Exception"]).filter goodWord)
def wsX5_findLoan_r1 : List Cond := [Cond.classLink RX5 284 "java/lang/IndexOutOfBoundsException", Cond.initialized "java/lang/IndexOutOfBoundsException", Cond.fieldLink RX5 22 "ModelCopies" "loans" "Ljava/util/ArrayList;", Cond.classLink RX5 186 "ModelCopies$Loan", Cond.methodLink RX5 97 yJx4a65c_size_8abf5, Cond.instanceMethod yJx4a65c_size_8abf5, Cond.selects RJx4a65c yJx4a65c_size_8abf5 yJx4a65c_size_8abf5, Cond.initialized RJx4a65c, Cond.code yJx4a65c_size_8abf5 cJx4a65c_size_8abf5 1 (some .int), Cond.fieldLink RJx4a65c 48 "java/util/ArrayList" "size" "I", Cond.methodLink RX5 162 yJx4a65c_get_915e3, Cond.instanceMethod yJx4a65c_get_915e3, Cond.selects RJx4a65c yJx4a65c_get_915e3 yJx4a65c_get_915e3, Cond.code yJx4a65c_get_915e3 cJx4a65c_get_915e3 2 (some (.object "java/lang/Object")), Cond.methodLink RJx4a65c 118 yJ15_checkIndex_7cf53, Cond.static yJ15_checkIndex_7cf53, Cond.initialized RJ15, Cond.code yJ15_checkIndex_7cf53 cJ15_checkIndex_7cf53 2 (some .int), Cond.methodLink RJ15 105 yJ3_checkIndex_8e157, Cond.static yJ3_checkIndex_8e157, Cond.initialized RJ3, Cond.code yJ3_checkIndex_8e157 cJ3_checkIndex_8e157 3 (some .int), Cond.methodLink RJx4a65c 123 yJx4a65c_elementData_915e3, Cond.instanceMethod yJx4a65c_elementData_915e3]
def wsX5_findLoan_r2 : List Cond := [Cond.selects RJx4a65c yJx4a65c_elementData_915e3 yJx4a65c_elementData_915e3, Cond.code yJx4a65c_elementData_915e3 cJx4a65c_elementData_915e3 2 (some (.object "java/lang/Object")), Cond.fieldLink RJx4a65c 9 "java/util/ArrayList" "elementData" "[Ljava/lang/Object;"]
def wsX5_findLoan : List Cond := .code yX5_findLoan cX5_findLoan 2 (some (.object "ModelCopies$Loan")) :: ((wsX5_findLoan_r1 ++ wsX5_findLoan_r2) ++ wsX50 ++ wsJx4a65c0 ++ (vx_atS RX5 288 "java/lang/IndexOutOfBoundsException" ["java/lang/RuntimeException", "java/lang/Exception"]).filter goodWord)
def wsX5_giveBack_r1 : List Cond := [Cond.classLink RX5 68 "java/lang/IllegalStateException", Cond.initialized "java/lang/IllegalStateException", Cond.fieldLink RX5 202 "ModelCopies$Loan" "isBack" "Z", Cond.fieldLink RX5 207 "ModelCopies$Loan" "borrower" "LModelCopies$House;", Cond.fieldLink RX5 210 "ModelCopies$Loan" "copy" "LModelCopies$Copy;", Cond.fieldLink RX5 174 "ModelCopies$Copy" "owner" "LModelCopies$House;", Cond.fieldLink RX5 36 "ModelCopies" "today" "I", Cond.fieldLink RX5 220 "ModelCopies$Loan" "daysLateAtEnd" "I", Cond.fieldLink RX5 191 "ModelCopies$House" "laidDown" "I", Cond.fieldLink RX5 223 "ModelCopies$Loan" "pledge" "I", Cond.fieldLink RX5 179 "ModelCopies$House" "coins" "I", Cond.fieldLink RX5 91 "ModelCopies$Copy" "house" "LModelCopies$House;", Cond.methodLink RX5 198 yX5_findLoan, Cond.instanceMethod yX5_findLoan, Cond.selects RX5 yX5_findLoan yX5_findLoan, Cond.initialized RX5, Cond.code yX5_findLoan cX5_findLoan 2 (some (.object "ModelCopies$Loan")), Cond.classLink RX5 284 "java/lang/IndexOutOfBoundsException", Cond.initialized "java/lang/IndexOutOfBoundsException", Cond.fieldLink RX5 22 "ModelCopies" "loans" "Ljava/util/ArrayList;", Cond.classLink RX5 186 "ModelCopies$Loan", Cond.methodLink RX5 97 yJx4a65c_size_8abf5, Cond.instanceMethod yJx4a65c_size_8abf5, Cond.selects RJx4a65c yJx4a65c_size_8abf5 yJx4a65c_size_8abf5]
def wsX5_giveBack_r2 : List Cond := [Cond.initialized RJx4a65c, Cond.code yJx4a65c_size_8abf5 cJx4a65c_size_8abf5 1 (some .int), Cond.fieldLink RJx4a65c 48 "java/util/ArrayList" "size" "I", Cond.methodLink RX5 162 yJx4a65c_get_915e3, Cond.instanceMethod yJx4a65c_get_915e3, Cond.selects RJx4a65c yJx4a65c_get_915e3 yJx4a65c_get_915e3, Cond.code yJx4a65c_get_915e3 cJx4a65c_get_915e3 2 (some (.object "java/lang/Object")), Cond.methodLink RJx4a65c 118 yJ15_checkIndex_7cf53, Cond.static yJ15_checkIndex_7cf53, Cond.initialized RJ15, Cond.code yJ15_checkIndex_7cf53 cJ15_checkIndex_7cf53 2 (some .int), Cond.methodLink RJ15 105 yJ3_checkIndex_8e157, Cond.static yJ3_checkIndex_8e157, Cond.initialized RJ3, Cond.code yJ3_checkIndex_8e157 cJ3_checkIndex_8e157 3 (some .int), Cond.methodLink RJx4a65c 123 yJx4a65c_elementData_915e3, Cond.instanceMethod yJx4a65c_elementData_915e3, Cond.selects RJx4a65c yJx4a65c_elementData_915e3 yJx4a65c_elementData_915e3, Cond.code yJx4a65c_elementData_915e3 cJx4a65c_elementData_915e3 2 (some (.object "java/lang/Object")), Cond.fieldLink RJx4a65c 9 "java/util/ArrayList" "elementData" "[Ljava/lang/Object;", Cond.methodLink RX5 213 yX4_lostOn, Cond.instanceMethod yX4_lostOn, Cond.selects RX4 yX4_lostOn yX4_lostOn, Cond.initialized RX4]
def wsX5_giveBack_r3 : List Cond := [Cond.code yX4_lostOn cX4_lostOn 3 (some .int), Cond.fieldLink RX4 30 "ModelCopies$Loan" "pledge" "I", Cond.methodLink RX4 39 yX4_daysLateOn, Cond.instanceMethod yX4_daysLateOn, Cond.selects RX4 yX4_daysLateOn yX4_daysLateOn, Cond.code yX4_daysLateOn cX4_daysLateOn 2 (some .int), Cond.fieldLink RX4 27 "ModelCopies$Loan" "lastDay" "I", Cond.methodLink RX4 33 Lib.Math.max.name, Cond.static Lib.Math.max.name, Cond.initialized "java/lang/Math", Cond.code Lib.Math.max.name Lib.Math.max.code 2 (some .int), Cond.methodLink RX5 217 yX4_daysLateOn, Cond.methodLink RX5 194 yX2_takeLettersOf, Cond.instanceMethod yX2_takeLettersOf, Cond.selects RX2 yX2_takeLettersOf yX2_takeLettersOf, Cond.initialized RX2, Cond.code yX2_takeLettersOf cX2_takeLettersOf 3 none, Cond.methodLink RX2 25 yX2_holds, Cond.instanceMethod yX2_holds, Cond.selects RX2 yX2_holds yX2_holds, Cond.code yX2_holds cX2_holds 2 (some .boolean), Cond.fieldLink RX2 9 "ModelCopies$House" "held" "[Z", Cond.methodLink RX2 29 yX2_take, Cond.instanceMethod yX2_take]
def wsX5_giveBack_r4 : List Cond := [Cond.selects RX2 yX2_take yX2_take, Cond.code yX2_take cX2_take 2 none]
def wsX5_giveBack : List Cond := .code yX5_giveBack cX5_giveBack 6 (some .int) :: ((wsX5_giveBack_r1 ++ (wsX5_giveBack_r2 ++ (wsX5_giveBack_r3 ++ wsX5_giveBack_r4))) ++ wsX40 ++ wsX00 ++ wsX50 ++ wsX20 ++ wsJx4a65c0 ++ (vx_atS RX5 72 "java/lang/IllegalStateException" ["java/lang/RuntimeException", "java/lang/Exception"]).filter goodWord ++ (vx_atS RX5 288 "java/lang/IndexOutOfBoundsException" ["java/lang/RuntimeException", "java/lang/Exception"]).filter goodWord)
def wsX5_day : List Cond := .code yX5_day cX5_day 1 (some .int) :: ([.fieldLink RX5 36 "ModelCopies" "today" "I"] ++ wsX50)
def wsX5_copies : List Cond := .code yX5_copies cX5_copies 1 (some .int) :: ([.fieldLink RX5 16 "ModelCopies" "copies" "Ljava/util/ArrayList;", .methodLink RX5 97 yJx4a65c_size_8abf5, .instanceMethod yJx4a65c_size_8abf5, .selects RJx4a65c yJx4a65c_size_8abf5 yJx4a65c_size_8abf5, .initialized RJx4a65c, .code yJx4a65c_size_8abf5 cJx4a65c_size_8abf5 1 (some .int), .fieldLink RJx4a65c 48 "java/util/ArrayList" "size" "I"] ++ wsX50 ++ wsJx4a65c0)
def wsX5_reading_r1 : List Cond := [Cond.fieldLink RX5 139 "ModelCopies$Copy" "readings" "[I", Cond.methodLink RX5 80 yX5_findCopy, Cond.instanceMethod yX5_findCopy, Cond.selects RX5 yX5_findCopy yX5_findCopy, Cond.initialized RX5, Cond.code yX5_findCopy cX5_findCopy 2 (some (.object "ModelCopies$Copy")), Cond.classLink RX5 284 "java/lang/IndexOutOfBoundsException", Cond.initialized "java/lang/IndexOutOfBoundsException", Cond.fieldLink RX5 16 "ModelCopies" "copies" "Ljava/util/ArrayList;", Cond.classLink RX5 49 "ModelCopies$Copy", Cond.methodLink RX5 97 yJx4a65c_size_8abf5, Cond.instanceMethod yJx4a65c_size_8abf5, Cond.selects RJx4a65c yJx4a65c_size_8abf5 yJx4a65c_size_8abf5, Cond.initialized RJx4a65c, Cond.code yJx4a65c_size_8abf5 cJx4a65c_size_8abf5 1 (some .int), Cond.fieldLink RJx4a65c 48 "java/util/ArrayList" "size" "I", Cond.methodLink RX5 162 yJx4a65c_get_915e3, Cond.instanceMethod yJx4a65c_get_915e3, Cond.selects RJx4a65c yJx4a65c_get_915e3 yJx4a65c_get_915e3, Cond.code yJx4a65c_get_915e3 cJx4a65c_get_915e3 2 (some (.object "java/lang/Object")), Cond.methodLink RJx4a65c 118 yJ15_checkIndex_7cf53, Cond.static yJ15_checkIndex_7cf53, Cond.initialized RJ15, Cond.code yJ15_checkIndex_7cf53 cJ15_checkIndex_7cf53 2 (some .int)]
def wsX5_reading_r2 : List Cond := [Cond.methodLink RJ15 105 yJ3_checkIndex_8e157, Cond.static yJ3_checkIndex_8e157, Cond.initialized RJ3, Cond.code yJ3_checkIndex_8e157 cJ3_checkIndex_8e157 3 (some .int), Cond.methodLink RJx4a65c 123 yJx4a65c_elementData_915e3, Cond.instanceMethod yJx4a65c_elementData_915e3, Cond.selects RJx4a65c yJx4a65c_elementData_915e3 yJx4a65c_elementData_915e3, Cond.code yJx4a65c_elementData_915e3 cJx4a65c_elementData_915e3 2 (some (.object "java/lang/Object")), Cond.fieldLink RJx4a65c 9 "java/util/ArrayList" "elementData" "[Ljava/lang/Object;", Cond.methodLink RX5 54 yX5_requirePlace, Cond.static yX5_requirePlace, Cond.code yX5_requirePlace cX5_requirePlace 1 none]
def wsX5_reading : List Cond := .code yX5_reading cX5_reading 4 (some .int) :: ((wsX5_reading_r1 ++ wsX5_reading_r2) ++ wsX00 ++ wsX50 ++ wsJx4a65c0 ++ (vx_atS RX5 288 "java/lang/IndexOutOfBoundsException" ["java/lang/RuntimeException", "java/lang/Exception"]).filter goodWord)
def wsX5_errors_r1 : List Cond := [Cond.methodLink RX5 80 yX5_findCopy, Cond.instanceMethod yX5_findCopy, Cond.selects RX5 yX5_findCopy yX5_findCopy, Cond.initialized RX5, Cond.code yX5_findCopy cX5_findCopy 2 (some (.object "ModelCopies$Copy")), Cond.classLink RX5 284 "java/lang/IndexOutOfBoundsException", Cond.initialized "java/lang/IndexOutOfBoundsException", Cond.fieldLink RX5 16 "ModelCopies" "copies" "Ljava/util/ArrayList;", Cond.classLink RX5 49 "ModelCopies$Copy", Cond.methodLink RX5 97 yJx4a65c_size_8abf5, Cond.instanceMethod yJx4a65c_size_8abf5, Cond.selects RJx4a65c yJx4a65c_size_8abf5 yJx4a65c_size_8abf5, Cond.initialized RJx4a65c, Cond.code yJx4a65c_size_8abf5 cJx4a65c_size_8abf5 1 (some .int), Cond.fieldLink RJx4a65c 48 "java/util/ArrayList" "size" "I", Cond.methodLink RX5 162 yJx4a65c_get_915e3, Cond.instanceMethod yJx4a65c_get_915e3, Cond.selects RJx4a65c yJx4a65c_get_915e3 yJx4a65c_get_915e3, Cond.code yJx4a65c_get_915e3 cJx4a65c_get_915e3 2 (some (.object "java/lang/Object")), Cond.methodLink RJx4a65c 118 yJ15_checkIndex_7cf53, Cond.static yJ15_checkIndex_7cf53, Cond.initialized RJ15, Cond.code yJ15_checkIndex_7cf53 cJ15_checkIndex_7cf53 2 (some .int), Cond.methodLink RJ15 105 yJ3_checkIndex_8e157]
def wsX5_errors_r2 : List Cond := [Cond.static yJ3_checkIndex_8e157, Cond.initialized RJ3, Cond.code yJ3_checkIndex_8e157 cJ3_checkIndex_8e157 3 (some .int), Cond.methodLink RJx4a65c 123 yJx4a65c_elementData_915e3, Cond.instanceMethod yJx4a65c_elementData_915e3, Cond.selects RJx4a65c yJx4a65c_elementData_915e3 yJx4a65c_elementData_915e3, Cond.code yJx4a65c_elementData_915e3 cJx4a65c_elementData_915e3 2 (some (.object "java/lang/Object")), Cond.fieldLink RJx4a65c 9 "java/util/ArrayList" "elementData" "[Ljava/lang/Object;", Cond.methodLink RX5 226 yX0_countErrors, Cond.instanceMethod yX0_countErrors, Cond.selects RX0 yX0_countErrors yX0_countErrors, Cond.initialized RX0, Cond.code yX0_countErrors cX0_countErrors 1 (some .int), Cond.methodLink RX0 47 yX0_countSharedWith, Cond.instanceMethod yX0_countSharedWith, Cond.selects RX0 yX0_countSharedWith yX0_countSharedWith, Cond.code yX0_countSharedWith cX0_countSharedWith 4 (some .int), Cond.fieldLink RX0 9 "ModelCopies$Copy" "readings" "[I"]
def wsX5_errors : List Cond := .code yX5_errors cX5_errors 2 (some .int) :: ((wsX5_errors_r1 ++ wsX5_errors_r2) ++ wsX50 ++ wsJx4a65c0 ++ wsX00 ++ (vx_atS RX5 288 "java/lang/IndexOutOfBoundsException" ["java/lang/RuntimeException", "java/lang/Exception"]).filter goodWord)
def wsX5_shared_r1 : List Cond := [Cond.methodLink RX5 80 yX5_findCopy, Cond.instanceMethod yX5_findCopy, Cond.selects RX5 yX5_findCopy yX5_findCopy, Cond.initialized RX5, Cond.code yX5_findCopy cX5_findCopy 2 (some (.object "ModelCopies$Copy")), Cond.classLink RX5 284 "java/lang/IndexOutOfBoundsException", Cond.initialized "java/lang/IndexOutOfBoundsException", Cond.fieldLink RX5 16 "ModelCopies" "copies" "Ljava/util/ArrayList;", Cond.classLink RX5 49 "ModelCopies$Copy", Cond.methodLink RX5 97 yJx4a65c_size_8abf5, Cond.instanceMethod yJx4a65c_size_8abf5, Cond.selects RJx4a65c yJx4a65c_size_8abf5 yJx4a65c_size_8abf5, Cond.initialized RJx4a65c, Cond.code yJx4a65c_size_8abf5 cJx4a65c_size_8abf5 1 (some .int), Cond.fieldLink RJx4a65c 48 "java/util/ArrayList" "size" "I", Cond.methodLink RX5 162 yJx4a65c_get_915e3, Cond.instanceMethod yJx4a65c_get_915e3, Cond.selects RJx4a65c yJx4a65c_get_915e3 yJx4a65c_get_915e3, Cond.code yJx4a65c_get_915e3 cJx4a65c_get_915e3 2 (some (.object "java/lang/Object")), Cond.methodLink RJx4a65c 118 yJ15_checkIndex_7cf53, Cond.static yJ15_checkIndex_7cf53, Cond.initialized RJ15, Cond.code yJ15_checkIndex_7cf53 cJ15_checkIndex_7cf53 2 (some .int), Cond.methodLink RJ15 105 yJ3_checkIndex_8e157]
def wsX5_shared_r2 : List Cond := [Cond.static yJ3_checkIndex_8e157, Cond.initialized RJ3, Cond.code yJ3_checkIndex_8e157 cJ3_checkIndex_8e157 3 (some .int), Cond.methodLink RJx4a65c 123 yJx4a65c_elementData_915e3, Cond.instanceMethod yJx4a65c_elementData_915e3, Cond.selects RJx4a65c yJx4a65c_elementData_915e3 yJx4a65c_elementData_915e3, Cond.code yJx4a65c_elementData_915e3 cJx4a65c_elementData_915e3 2 (some (.object "java/lang/Object")), Cond.fieldLink RJx4a65c 9 "java/util/ArrayList" "elementData" "[Ljava/lang/Object;", Cond.methodLink RX5 229 yX0_countSharedWith, Cond.instanceMethod yX0_countSharedWith, Cond.selects RX0 yX0_countSharedWith yX0_countSharedWith, Cond.initialized RX0, Cond.code yX0_countSharedWith cX0_countSharedWith 4 (some .int), Cond.fieldLink RX0 9 "ModelCopies$Copy" "readings" "[I"]
def wsX5_shared : List Cond := .code yX5_shared cX5_shared 4 (some .int) :: ((wsX5_shared_r1 ++ wsX5_shared_r2) ++ wsX50 ++ wsJx4a65c0 ++ wsX00 ++ (vx_atS RX5 288 "java/lang/IndexOutOfBoundsException" ["java/lang/RuntimeException", "java/lang/Exception"]).filter goodWord)
def wsX5_houseOf_r1 : List Cond := [Cond.fieldLink RX5 91 "ModelCopies$Copy" "house" "LModelCopies$House;", Cond.fieldLink RX5 232 "ModelCopies$House" "number" "I", Cond.methodLink RX5 80 yX5_findCopy, Cond.instanceMethod yX5_findCopy, Cond.selects RX5 yX5_findCopy yX5_findCopy, Cond.initialized RX5, Cond.code yX5_findCopy cX5_findCopy 2 (some (.object "ModelCopies$Copy")), Cond.classLink RX5 284 "java/lang/IndexOutOfBoundsException", Cond.initialized "java/lang/IndexOutOfBoundsException", Cond.fieldLink RX5 16 "ModelCopies" "copies" "Ljava/util/ArrayList;", Cond.classLink RX5 49 "ModelCopies$Copy", Cond.methodLink RX5 97 yJx4a65c_size_8abf5, Cond.instanceMethod yJx4a65c_size_8abf5, Cond.selects RJx4a65c yJx4a65c_size_8abf5 yJx4a65c_size_8abf5, Cond.initialized RJx4a65c, Cond.code yJx4a65c_size_8abf5 cJx4a65c_size_8abf5 1 (some .int), Cond.fieldLink RJx4a65c 48 "java/util/ArrayList" "size" "I", Cond.methodLink RX5 162 yJx4a65c_get_915e3, Cond.instanceMethod yJx4a65c_get_915e3, Cond.selects RJx4a65c yJx4a65c_get_915e3 yJx4a65c_get_915e3, Cond.code yJx4a65c_get_915e3 cJx4a65c_get_915e3 2 (some (.object "java/lang/Object")), Cond.methodLink RJx4a65c 118 yJ15_checkIndex_7cf53, Cond.static yJ15_checkIndex_7cf53, Cond.initialized RJ15]
def wsX5_houseOf_r2 : List Cond := [Cond.code yJ15_checkIndex_7cf53 cJ15_checkIndex_7cf53 2 (some .int), Cond.methodLink RJ15 105 yJ3_checkIndex_8e157, Cond.static yJ3_checkIndex_8e157, Cond.initialized RJ3, Cond.code yJ3_checkIndex_8e157 cJ3_checkIndex_8e157 3 (some .int), Cond.methodLink RJx4a65c 123 yJx4a65c_elementData_915e3, Cond.instanceMethod yJx4a65c_elementData_915e3, Cond.selects RJx4a65c yJx4a65c_elementData_915e3 yJx4a65c_elementData_915e3, Cond.code yJx4a65c_elementData_915e3 cJx4a65c_elementData_915e3 2 (some (.object "java/lang/Object")), Cond.fieldLink RJx4a65c 9 "java/util/ArrayList" "elementData" "[Ljava/lang/Object;"]
def wsX5_houseOf : List Cond := .code yX5_houseOf cX5_houseOf 2 (some .int) :: ((wsX5_houseOf_r1 ++ wsX5_houseOf_r2) ++ wsX00 ++ wsX20 ++ wsX50 ++ wsJx4a65c0 ++ (vx_atS RX5 288 "java/lang/IndexOutOfBoundsException" ["java/lang/RuntimeException", "java/lang/Exception"]).filter goodWord)
def wsX5_ownerOf_r1 : List Cond := [Cond.fieldLink RX5 174 "ModelCopies$Copy" "owner" "LModelCopies$House;", Cond.fieldLink RX5 232 "ModelCopies$House" "number" "I", Cond.methodLink RX5 80 yX5_findCopy, Cond.instanceMethod yX5_findCopy, Cond.selects RX5 yX5_findCopy yX5_findCopy, Cond.initialized RX5, Cond.code yX5_findCopy cX5_findCopy 2 (some (.object "ModelCopies$Copy")), Cond.classLink RX5 284 "java/lang/IndexOutOfBoundsException", Cond.initialized "java/lang/IndexOutOfBoundsException", Cond.fieldLink RX5 16 "ModelCopies" "copies" "Ljava/util/ArrayList;", Cond.classLink RX5 49 "ModelCopies$Copy", Cond.methodLink RX5 97 yJx4a65c_size_8abf5, Cond.instanceMethod yJx4a65c_size_8abf5, Cond.selects RJx4a65c yJx4a65c_size_8abf5 yJx4a65c_size_8abf5, Cond.initialized RJx4a65c, Cond.code yJx4a65c_size_8abf5 cJx4a65c_size_8abf5 1 (some .int), Cond.fieldLink RJx4a65c 48 "java/util/ArrayList" "size" "I", Cond.methodLink RX5 162 yJx4a65c_get_915e3, Cond.instanceMethod yJx4a65c_get_915e3, Cond.selects RJx4a65c yJx4a65c_get_915e3 yJx4a65c_get_915e3, Cond.code yJx4a65c_get_915e3 cJx4a65c_get_915e3 2 (some (.object "java/lang/Object")), Cond.methodLink RJx4a65c 118 yJ15_checkIndex_7cf53, Cond.static yJ15_checkIndex_7cf53, Cond.initialized RJ15]
def wsX5_ownerOf_r2 : List Cond := [Cond.code yJ15_checkIndex_7cf53 cJ15_checkIndex_7cf53 2 (some .int), Cond.methodLink RJ15 105 yJ3_checkIndex_8e157, Cond.static yJ3_checkIndex_8e157, Cond.initialized RJ3, Cond.code yJ3_checkIndex_8e157 cJ3_checkIndex_8e157 3 (some .int), Cond.methodLink RJx4a65c 123 yJx4a65c_elementData_915e3, Cond.instanceMethod yJx4a65c_elementData_915e3, Cond.selects RJx4a65c yJx4a65c_elementData_915e3 yJx4a65c_elementData_915e3, Cond.code yJx4a65c_elementData_915e3 cJx4a65c_elementData_915e3 2 (some (.object "java/lang/Object")), Cond.fieldLink RJx4a65c 9 "java/util/ArrayList" "elementData" "[Ljava/lang/Object;"]
def wsX5_ownerOf : List Cond := .code yX5_ownerOf cX5_ownerOf 2 (some .int) :: ((wsX5_ownerOf_r1 ++ wsX5_ownerOf_r2) ++ wsX00 ++ wsX20 ++ wsX50 ++ wsJx4a65c0 ++ (vx_atS RX5 288 "java/lang/IndexOutOfBoundsException" ["java/lang/RuntimeException", "java/lang/Exception"]).filter goodWord)
def wsX5_numberOf : List Cond := .code yX5_numberOf cX5_numberOf 1 (some .int) :: ([.fieldLink RX5 118 "ModelCopies$Copy" "number" "I"] ++ wsX00)
def wsX5_toldModel_r1 : List Cond := [Cond.methodLink RX5 80 yX5_findCopy, Cond.instanceMethod yX5_findCopy, Cond.selects RX5 yX5_findCopy yX5_findCopy, Cond.initialized RX5, Cond.code yX5_findCopy cX5_findCopy 2 (some (.object "ModelCopies$Copy")), Cond.classLink RX5 284 "java/lang/IndexOutOfBoundsException", Cond.initialized "java/lang/IndexOutOfBoundsException", Cond.fieldLink RX5 16 "ModelCopies" "copies" "Ljava/util/ArrayList;", Cond.classLink RX5 49 "ModelCopies$Copy", Cond.methodLink RX5 97 yJx4a65c_size_8abf5, Cond.instanceMethod yJx4a65c_size_8abf5, Cond.selects RJx4a65c yJx4a65c_size_8abf5 yJx4a65c_size_8abf5, Cond.initialized RJx4a65c, Cond.code yJx4a65c_size_8abf5 cJx4a65c_size_8abf5 1 (some .int), Cond.fieldLink RJx4a65c 48 "java/util/ArrayList" "size" "I", Cond.methodLink RX5 162 yJx4a65c_get_915e3, Cond.instanceMethod yJx4a65c_get_915e3, Cond.selects RJx4a65c yJx4a65c_get_915e3 yJx4a65c_get_915e3, Cond.code yJx4a65c_get_915e3 cJx4a65c_get_915e3 2 (some (.object "java/lang/Object")), Cond.methodLink RJx4a65c 118 yJ15_checkIndex_7cf53, Cond.static yJ15_checkIndex_7cf53, Cond.initialized RJ15, Cond.code yJ15_checkIndex_7cf53 cJ15_checkIndex_7cf53 2 (some .int), Cond.methodLink RJ15 105 yJ3_checkIndex_8e157]
def wsX5_toldModel_r2 : List Cond := [Cond.static yJ3_checkIndex_8e157, Cond.initialized RJ3, Cond.code yJ3_checkIndex_8e157 cJ3_checkIndex_8e157 3 (some .int), Cond.methodLink RJx4a65c 123 yJx4a65c_elementData_915e3, Cond.instanceMethod yJx4a65c_elementData_915e3, Cond.selects RJx4a65c yJx4a65c_elementData_915e3 yJx4a65c_elementData_915e3, Cond.code yJx4a65c_elementData_915e3 cJx4a65c_elementData_915e3 2 (some (.object "java/lang/Object")), Cond.fieldLink RJx4a65c 9 "java/util/ArrayList" "elementData" "[Ljava/lang/Object;", Cond.methodLink RX5 233 yX0_modelIfTold, Cond.instanceMethod yX0_modelIfTold, Cond.selects RX0 yX0_modelIfTold yX0_modelIfTold, Cond.initialized RX0, Cond.code yX0_modelIfTold cX0_modelIfTold 1 (some (.object "ModelCopies$Copy")), Cond.fieldLink RX0 15 "ModelCopies$Copy" "isTold" "Z", Cond.fieldLink RX0 23 "ModelCopies$Copy" "model" "LModelCopies$Copy;", Cond.methodLink RX5 237 yX5_numberOf, Cond.static yX5_numberOf, Cond.code yX5_numberOf cX5_numberOf 1 (some .int), Cond.fieldLink RX5 118 "ModelCopies$Copy" "number" "I"]
def wsX5_toldModel : List Cond := .code yX5_toldModel cX5_toldModel 2 (some .int) :: ((wsX5_toldModel_r1 ++ wsX5_toldModel_r2) ++ wsX50 ++ wsJx4a65c0 ++ wsX00 ++ (vx_atS RX5 288 "java/lang/IndexOutOfBoundsException" ["java/lang/RuntimeException", "java/lang/Exception"]).filter goodWord)
def wsX5_slips : List Cond := .code yX5_slips cX5_slips 2 (some .int) :: ([.fieldLink RX5 25 "ModelCopies" "slipsByScribe" "[I", .methodLink RX5 84 yX5_requireScribe, .static yX5_requireScribe, .initialized RX5, .code yX5_requireScribe cX5_requireScribe 1 none, .classLink RX5 284 "java/lang/IndexOutOfBoundsException", .initialized "java/lang/IndexOutOfBoundsException"] ++ wsX50 ++ (vx_atS RX5 288 "java/lang/IndexOutOfBoundsException" ["java/lang/RuntimeException", "java/lang/Exception"]).filter goodWord)
def wsX5_family_r1 : List Cond := [Cond.fieldLink RX5 127 "ModelCopies$Copy" "family" "I", Cond.methodLink RX5 80 yX5_findCopy, Cond.instanceMethod yX5_findCopy, Cond.selects RX5 yX5_findCopy yX5_findCopy, Cond.initialized RX5, Cond.code yX5_findCopy cX5_findCopy 2 (some (.object "ModelCopies$Copy")), Cond.classLink RX5 284 "java/lang/IndexOutOfBoundsException", Cond.initialized "java/lang/IndexOutOfBoundsException", Cond.fieldLink RX5 16 "ModelCopies" "copies" "Ljava/util/ArrayList;", Cond.classLink RX5 49 "ModelCopies$Copy", Cond.methodLink RX5 97 yJx4a65c_size_8abf5, Cond.instanceMethod yJx4a65c_size_8abf5, Cond.selects RJx4a65c yJx4a65c_size_8abf5 yJx4a65c_size_8abf5, Cond.initialized RJx4a65c, Cond.code yJx4a65c_size_8abf5 cJx4a65c_size_8abf5 1 (some .int), Cond.fieldLink RJx4a65c 48 "java/util/ArrayList" "size" "I", Cond.methodLink RX5 162 yJx4a65c_get_915e3, Cond.instanceMethod yJx4a65c_get_915e3, Cond.selects RJx4a65c yJx4a65c_get_915e3 yJx4a65c_get_915e3, Cond.code yJx4a65c_get_915e3 cJx4a65c_get_915e3 2 (some (.object "java/lang/Object")), Cond.methodLink RJx4a65c 118 yJ15_checkIndex_7cf53, Cond.static yJ15_checkIndex_7cf53, Cond.initialized RJ15, Cond.code yJ15_checkIndex_7cf53 cJ15_checkIndex_7cf53 2 (some .int)]
def wsX5_family_r2 : List Cond := [Cond.methodLink RJ15 105 yJ3_checkIndex_8e157, Cond.static yJ3_checkIndex_8e157, Cond.initialized RJ3, Cond.code yJ3_checkIndex_8e157 cJ3_checkIndex_8e157 3 (some .int), Cond.methodLink RJx4a65c 123 yJx4a65c_elementData_915e3, Cond.instanceMethod yJx4a65c_elementData_915e3, Cond.selects RJx4a65c yJx4a65c_elementData_915e3 yJx4a65c_elementData_915e3, Cond.code yJx4a65c_elementData_915e3 cJx4a65c_elementData_915e3 2 (some (.object "java/lang/Object")), Cond.fieldLink RJx4a65c 9 "java/util/ArrayList" "elementData" "[Ljava/lang/Object;"]
def wsX5_family : List Cond := .code yX5_family cX5_family 2 (some .int) :: ((wsX5_family_r1 ++ wsX5_family_r2) ++ wsX00 ++ wsX50 ++ wsJx4a65c0 ++ (vx_atS RX5 288 "java/lang/IndexOutOfBoundsException" ["java/lang/RuntimeException", "java/lang/Exception"]).filter goodWord)
def wsX5_setOf : List Cond := .code yX5_setOf cX5_setOf 1 (some .long) :: ([.fieldLink RX5 118 "ModelCopies$Copy" "number" "I"] ++ wsX00)
def wsX5_lowestIn_r1 : List Cond := [Cond.fieldLink RX5 16 "ModelCopies" "copies" "Ljava/util/ArrayList;", Cond.classLink RX5 49 "ModelCopies$Copy", Cond.methodLink RX5 97 yJx4a65c_size_8abf5, Cond.instanceMethod yJx4a65c_size_8abf5, Cond.selects RJx4a65c yJx4a65c_size_8abf5 yJx4a65c_size_8abf5, Cond.initialized RJx4a65c, Cond.code yJx4a65c_size_8abf5 cJx4a65c_size_8abf5 1 (some .int), Cond.fieldLink RJx4a65c 48 "java/util/ArrayList" "size" "I", Cond.methodLink RX5 162 yJx4a65c_get_915e3, Cond.instanceMethod yJx4a65c_get_915e3, Cond.selects RJx4a65c yJx4a65c_get_915e3 yJx4a65c_get_915e3, Cond.code yJx4a65c_get_915e3 cJx4a65c_get_915e3 2 (some (.object "java/lang/Object")), Cond.methodLink RJx4a65c 118 yJ15_checkIndex_7cf53, Cond.static yJ15_checkIndex_7cf53, Cond.initialized RJ15, Cond.code yJ15_checkIndex_7cf53 cJ15_checkIndex_7cf53 2 (some .int), Cond.methodLink RJ15 105 yJ3_checkIndex_8e157, Cond.static yJ3_checkIndex_8e157, Cond.initialized RJ3, Cond.code yJ3_checkIndex_8e157 cJ3_checkIndex_8e157 3 (some .int), Cond.methodLink RJx4a65c 123 yJx4a65c_elementData_915e3, Cond.instanceMethod yJx4a65c_elementData_915e3, Cond.selects RJx4a65c yJx4a65c_elementData_915e3 yJx4a65c_elementData_915e3, Cond.code yJx4a65c_elementData_915e3 cJx4a65c_elementData_915e3 2 (some (.object "java/lang/Object"))]
def wsX5_lowestIn_r2 : List Cond := [Cond.fieldLink RJx4a65c 9 "java/util/ArrayList" "elementData" "[Ljava/lang/Object;", Cond.methodLink RX5 240 yX5_setOf, Cond.static yX5_setOf, Cond.initialized RX5, Cond.code yX5_setOf cX5_setOf 1 (some .long), Cond.fieldLink RX5 118 "ModelCopies$Copy" "number" "I"]
def wsX5_lowestIn : List Cond := .code yX5_lowestIn cX5_lowestIn 4 (some .int) :: ((wsX5_lowestIn_r1 ++ wsX5_lowestIn_r2) ++ wsX50 ++ wsJx4a65c0 ++ wsX00)
def wsX5_copiesThatRead_r1 : List Cond := [Cond.fieldLink RX5 16 "ModelCopies" "copies" "Ljava/util/ArrayList;", Cond.classLink RX5 49 "ModelCopies$Copy", Cond.fieldLink RX5 139 "ModelCopies$Copy" "readings" "[I", Cond.methodLink RX5 97 yJx4a65c_size_8abf5, Cond.instanceMethod yJx4a65c_size_8abf5, Cond.selects RJx4a65c yJx4a65c_size_8abf5 yJx4a65c_size_8abf5, Cond.initialized RJx4a65c, Cond.code yJx4a65c_size_8abf5 cJx4a65c_size_8abf5 1 (some .int), Cond.fieldLink RJx4a65c 48 "java/util/ArrayList" "size" "I", Cond.methodLink RX5 162 yJx4a65c_get_915e3, Cond.instanceMethod yJx4a65c_get_915e3, Cond.selects RJx4a65c yJx4a65c_get_915e3 yJx4a65c_get_915e3, Cond.code yJx4a65c_get_915e3 cJx4a65c_get_915e3 2 (some (.object "java/lang/Object")), Cond.methodLink RJx4a65c 118 yJ15_checkIndex_7cf53, Cond.static yJ15_checkIndex_7cf53, Cond.initialized RJ15, Cond.code yJ15_checkIndex_7cf53 cJ15_checkIndex_7cf53 2 (some .int), Cond.methodLink RJ15 105 yJ3_checkIndex_8e157, Cond.static yJ3_checkIndex_8e157, Cond.initialized RJ3, Cond.code yJ3_checkIndex_8e157 cJ3_checkIndex_8e157 3 (some .int), Cond.methodLink RJx4a65c 123 yJx4a65c_elementData_915e3, Cond.instanceMethod yJx4a65c_elementData_915e3, Cond.selects RJx4a65c yJx4a65c_elementData_915e3 yJx4a65c_elementData_915e3]
def wsX5_copiesThatRead_r2 : List Cond := [Cond.code yJx4a65c_elementData_915e3 cJx4a65c_elementData_915e3 2 (some (.object "java/lang/Object")), Cond.fieldLink RJx4a65c 9 "java/util/ArrayList" "elementData" "[Ljava/lang/Object;", Cond.methodLink RX5 240 yX5_setOf, Cond.static yX5_setOf, Cond.initialized RX5, Cond.code yX5_setOf cX5_setOf 1 (some .long), Cond.fieldLink RX5 118 "ModelCopies$Copy" "number" "I"]
def wsX5_copiesThatRead : List Cond := .code yX5_copiesThatRead cX5_copiesThatRead 7 (some .long) :: ((wsX5_copiesThatRead_r1 ++ wsX5_copiesThatRead_r2) ++ wsX50 ++ wsX00 ++ wsJx4a65c0)
def wsX5_kinByErrors_r1 : List Cond := [Cond.fieldLink RX5 139 "ModelCopies$Copy" "readings" "[I", Cond.methodLink RX5 263 yX5_copiesThatRead, Cond.instanceMethod yX5_copiesThatRead, Cond.selects RX5 yX5_copiesThatRead yX5_copiesThatRead, Cond.initialized RX5, Cond.code yX5_copiesThatRead cX5_copiesThatRead 7 (some .long), Cond.fieldLink RX5 16 "ModelCopies" "copies" "Ljava/util/ArrayList;", Cond.classLink RX5 49 "ModelCopies$Copy", Cond.methodLink RX5 97 yJx4a65c_size_8abf5, Cond.instanceMethod yJx4a65c_size_8abf5, Cond.selects RJx4a65c yJx4a65c_size_8abf5 yJx4a65c_size_8abf5, Cond.initialized RJx4a65c, Cond.code yJx4a65c_size_8abf5 cJx4a65c_size_8abf5 1 (some .int), Cond.fieldLink RJx4a65c 48 "java/util/ArrayList" "size" "I", Cond.methodLink RX5 162 yJx4a65c_get_915e3, Cond.instanceMethod yJx4a65c_get_915e3, Cond.selects RJx4a65c yJx4a65c_get_915e3 yJx4a65c_get_915e3, Cond.code yJx4a65c_get_915e3 cJx4a65c_get_915e3 2 (some (.object "java/lang/Object")), Cond.methodLink RJx4a65c 118 yJ15_checkIndex_7cf53, Cond.static yJ15_checkIndex_7cf53, Cond.initialized RJ15, Cond.code yJ15_checkIndex_7cf53 cJ15_checkIndex_7cf53 2 (some .int), Cond.methodLink RJ15 105 yJ3_checkIndex_8e157, Cond.static yJ3_checkIndex_8e157]
def wsX5_kinByErrors_r2 : List Cond := [Cond.initialized RJ3, Cond.code yJ3_checkIndex_8e157 cJ3_checkIndex_8e157 3 (some .int), Cond.methodLink RJx4a65c 123 yJx4a65c_elementData_915e3, Cond.instanceMethod yJx4a65c_elementData_915e3, Cond.selects RJx4a65c yJx4a65c_elementData_915e3 yJx4a65c_elementData_915e3, Cond.code yJx4a65c_elementData_915e3 cJx4a65c_elementData_915e3 2 (some (.object "java/lang/Object")), Cond.fieldLink RJx4a65c 9 "java/util/ArrayList" "elementData" "[Ljava/lang/Object;", Cond.methodLink RX5 240 yX5_setOf, Cond.static yX5_setOf, Cond.code yX5_setOf cX5_setOf 1 (some .long), Cond.fieldLink RX5 118 "ModelCopies$Copy" "number" "I"]
def wsX5_kinByErrors : List Cond := .code yX5_kinByErrors cX5_kinByErrors 6 (some .long) :: ((wsX5_kinByErrors_r1 ++ wsX5_kinByErrors_r2) ++ wsX00 ++ wsX50 ++ wsJx4a65c0)
def wsX5_kinByModels_r1 : List Cond := [Cond.fieldLink RX5 16 "ModelCopies" "copies" "Ljava/util/ArrayList;", Cond.classLink RX5 49 "ModelCopies$Copy", Cond.methodLink RX5 233 yX0_modelIfTold, Cond.instanceMethod yX0_modelIfTold, Cond.selects RX0 yX0_modelIfTold yX0_modelIfTold, Cond.initialized RX0, Cond.code yX0_modelIfTold cX0_modelIfTold 1 (some (.object "ModelCopies$Copy")), Cond.fieldLink RX0 15 "ModelCopies$Copy" "isTold" "Z", Cond.fieldLink RX0 23 "ModelCopies$Copy" "model" "LModelCopies$Copy;", Cond.methodLink RX5 240 yX5_setOf, Cond.static yX5_setOf, Cond.initialized RX5, Cond.code yX5_setOf cX5_setOf 1 (some .long), Cond.fieldLink RX5 118 "ModelCopies$Copy" "number" "I", Cond.methodLink RX5 97 yJx4a65c_size_8abf5, Cond.instanceMethod yJx4a65c_size_8abf5, Cond.selects RJx4a65c yJx4a65c_size_8abf5 yJx4a65c_size_8abf5, Cond.initialized RJx4a65c, Cond.code yJx4a65c_size_8abf5 cJx4a65c_size_8abf5 1 (some .int), Cond.fieldLink RJx4a65c 48 "java/util/ArrayList" "size" "I", Cond.methodLink RX5 162 yJx4a65c_get_915e3, Cond.instanceMethod yJx4a65c_get_915e3, Cond.selects RJx4a65c yJx4a65c_get_915e3 yJx4a65c_get_915e3, Cond.code yJx4a65c_get_915e3 cJx4a65c_get_915e3 2 (some (.object "java/lang/Object"))]
def wsX5_kinByModels_r2 : List Cond := [Cond.methodLink RJx4a65c 118 yJ15_checkIndex_7cf53, Cond.static yJ15_checkIndex_7cf53, Cond.initialized RJ15, Cond.code yJ15_checkIndex_7cf53 cJ15_checkIndex_7cf53 2 (some .int), Cond.methodLink RJ15 105 yJ3_checkIndex_8e157, Cond.static yJ3_checkIndex_8e157, Cond.initialized RJ3, Cond.code yJ3_checkIndex_8e157 cJ3_checkIndex_8e157 3 (some .int), Cond.methodLink RJx4a65c 123 yJx4a65c_elementData_915e3, Cond.instanceMethod yJx4a65c_elementData_915e3, Cond.selects RJx4a65c yJx4a65c_elementData_915e3 yJx4a65c_elementData_915e3, Cond.code yJx4a65c_elementData_915e3 cJx4a65c_elementData_915e3 2 (some (.object "java/lang/Object")), Cond.fieldLink RJx4a65c 9 "java/util/ArrayList" "elementData" "[Ljava/lang/Object;"]
def wsX5_kinByModels : List Cond := .code yX5_kinByModels cX5_kinByModels 7 (some .long) :: ((wsX5_kinByModels_r1 ++ wsX5_kinByModels_r2) ++ wsX50 ++ wsX00 ++ wsJx4a65c0)
def wsX5_familyByErrors_r1 : List Cond := [Cond.fieldLink RX5 16 "ModelCopies" "copies" "Ljava/util/ArrayList;", Cond.constantLong RX5 244 (-1), Cond.classLink RX5 49 "ModelCopies$Copy", Cond.methodLink RX5 80 yX5_findCopy, Cond.instanceMethod yX5_findCopy, Cond.selects RX5 yX5_findCopy yX5_findCopy, Cond.initialized RX5, Cond.code yX5_findCopy cX5_findCopy 2 (some (.object "ModelCopies$Copy")), Cond.classLink RX5 284 "java/lang/IndexOutOfBoundsException", Cond.initialized "java/lang/IndexOutOfBoundsException", Cond.methodLink RX5 97 yJx4a65c_size_8abf5, Cond.instanceMethod yJx4a65c_size_8abf5, Cond.selects RJx4a65c yJx4a65c_size_8abf5 yJx4a65c_size_8abf5, Cond.initialized RJx4a65c, Cond.code yJx4a65c_size_8abf5 cJx4a65c_size_8abf5 1 (some .int), Cond.fieldLink RJx4a65c 48 "java/util/ArrayList" "size" "I", Cond.methodLink RX5 162 yJx4a65c_get_915e3, Cond.instanceMethod yJx4a65c_get_915e3, Cond.selects RJx4a65c yJx4a65c_get_915e3 yJx4a65c_get_915e3, Cond.code yJx4a65c_get_915e3 cJx4a65c_get_915e3 2 (some (.object "java/lang/Object")), Cond.methodLink RJx4a65c 118 yJ15_checkIndex_7cf53, Cond.static yJ15_checkIndex_7cf53, Cond.initialized RJ15, Cond.code yJ15_checkIndex_7cf53 cJ15_checkIndex_7cf53 2 (some .int)]
def wsX5_familyByErrors_r2 : List Cond := [Cond.methodLink RJ15 105 yJ3_checkIndex_8e157, Cond.static yJ3_checkIndex_8e157, Cond.initialized RJ3, Cond.code yJ3_checkIndex_8e157 cJ3_checkIndex_8e157 3 (some .int), Cond.methodLink RJx4a65c 123 yJx4a65c_elementData_915e3, Cond.instanceMethod yJx4a65c_elementData_915e3, Cond.selects RJx4a65c yJx4a65c_elementData_915e3 yJx4a65c_elementData_915e3, Cond.code yJx4a65c_elementData_915e3 cJx4a65c_elementData_915e3 2 (some (.object "java/lang/Object")), Cond.fieldLink RJx4a65c 9 "java/util/ArrayList" "elementData" "[Ljava/lang/Object;", Cond.methodLink RX5 240 yX5_setOf, Cond.static yX5_setOf, Cond.code yX5_setOf cX5_setOf 1 (some .long), Cond.fieldLink RX5 118 "ModelCopies$Copy" "number" "I", Cond.methodLink RX5 246 yX5_lowestIn, Cond.instanceMethod yX5_lowestIn, Cond.selects RX5 yX5_lowestIn yX5_lowestIn, Cond.code yX5_lowestIn cX5_lowestIn 4 (some .int), Cond.methodLink RX5 250 yX5_kinByErrors, Cond.instanceMethod yX5_kinByErrors, Cond.selects RX5 yX5_kinByErrors yX5_kinByErrors, Cond.code yX5_kinByErrors cX5_kinByErrors 6 (some .long), Cond.fieldLink RX5 139 "ModelCopies$Copy" "readings" "[I", Cond.methodLink RX5 263 yX5_copiesThatRead, Cond.instanceMethod yX5_copiesThatRead]
def wsX5_familyByErrors_r3 : List Cond := [Cond.selects RX5 yX5_copiesThatRead yX5_copiesThatRead, Cond.code yX5_copiesThatRead cX5_copiesThatRead 7 (some .long), Cond.methodLink RX5 253 yX5_kinByModels, Cond.instanceMethod yX5_kinByModels, Cond.selects RX5 yX5_kinByModels yX5_kinByModels, Cond.code yX5_kinByModels cX5_kinByModels 7 (some .long), Cond.methodLink RX5 233 yX0_modelIfTold, Cond.instanceMethod yX0_modelIfTold, Cond.selects RX0 yX0_modelIfTold yX0_modelIfTold, Cond.initialized RX0, Cond.code yX0_modelIfTold cX0_modelIfTold 1 (some (.object "ModelCopies$Copy")), Cond.fieldLink RX0 15 "ModelCopies$Copy" "isTold" "Z", Cond.fieldLink RX0 23 "ModelCopies$Copy" "model" "LModelCopies$Copy;"]
def wsX5_familyByErrors : List Cond := .code yX5_familyByErrors cX5_familyByErrors 9 (some .int) :: ((wsX5_familyByErrors_r1 ++ (wsX5_familyByErrors_r2 ++ wsX5_familyByErrors_r3)) ++ wsX50 ++ wsJx4a65c0 ++ wsX00 ++ (vx_atS RX5 288 "java/lang/IndexOutOfBoundsException" ["java/lang/RuntimeException", "java/lang/Exception"]).filter goodWord)
def wsX5_families_r1 : List Cond := [Cond.fieldLink RX5 16 "ModelCopies" "copies" "Ljava/util/ArrayList;", Cond.classLink RX5 49 "ModelCopies$Copy", Cond.fieldLink RX5 127 "ModelCopies$Copy" "family" "I", Cond.methodLink RX5 97 yJx4a65c_size_8abf5, Cond.instanceMethod yJx4a65c_size_8abf5, Cond.selects RJx4a65c yJx4a65c_size_8abf5 yJx4a65c_size_8abf5, Cond.initialized RJx4a65c, Cond.code yJx4a65c_size_8abf5 cJx4a65c_size_8abf5 1 (some .int), Cond.fieldLink RJx4a65c 48 "java/util/ArrayList" "size" "I", Cond.methodLink RX5 162 yJx4a65c_get_915e3, Cond.instanceMethod yJx4a65c_get_915e3, Cond.selects RJx4a65c yJx4a65c_get_915e3 yJx4a65c_get_915e3, Cond.code yJx4a65c_get_915e3 cJx4a65c_get_915e3 2 (some (.object "java/lang/Object")), Cond.methodLink RJx4a65c 118 yJ15_checkIndex_7cf53, Cond.static yJ15_checkIndex_7cf53, Cond.initialized RJ15, Cond.code yJ15_checkIndex_7cf53 cJ15_checkIndex_7cf53 2 (some .int), Cond.methodLink RJ15 105 yJ3_checkIndex_8e157, Cond.static yJ3_checkIndex_8e157, Cond.initialized RJ3, Cond.code yJ3_checkIndex_8e157 cJ3_checkIndex_8e157 3 (some .int), Cond.methodLink RJx4a65c 123 yJx4a65c_elementData_915e3, Cond.instanceMethod yJx4a65c_elementData_915e3, Cond.selects RJx4a65c yJx4a65c_elementData_915e3 yJx4a65c_elementData_915e3]
def wsX5_families_r2 : List Cond := [Cond.code yJx4a65c_elementData_915e3 cJx4a65c_elementData_915e3 2 (some (.object "java/lang/Object")), Cond.fieldLink RJx4a65c 9 "java/util/ArrayList" "elementData" "[Ljava/lang/Object;"]
def wsX5_families : List Cond := .code yX5_families cX5_families 3 (some .int) :: ((wsX5_families_r1 ++ wsX5_families_r2) ++ wsX50 ++ wsX00 ++ wsJx4a65c0)
def wsX5_worthAsModel : List Cond := .code yX5_worthAsModel cX5_worthAsModel 4 (some .int) :: ([.methodLink RX5 229 yX0_countSharedWith, .instanceMethod yX0_countSharedWith, .selects RX0 yX0_countSharedWith yX0_countSharedWith, .initialized RX0, .code yX0_countSharedWith cX0_countSharedWith 4 (some .int), .fieldLink RX0 9 "ModelCopies$Copy" "readings" "[I", .methodLink RX5 226 yX0_countErrors, .instanceMethod yX0_countErrors, .selects RX0 yX0_countErrors yX0_countErrors, .code yX0_countErrors cX0_countErrors 1 (some .int), .methodLink RX0 47 yX0_countSharedWith] ++ wsX00)
def wsX5_guessFor_r1 : List Cond := [Cond.fieldLink RX5 118 "ModelCopies$Copy" "number" "I", Cond.fieldLink RX5 16 "ModelCopies" "copies" "Ljava/util/ArrayList;", Cond.classLink RX5 49 "ModelCopies$Copy", Cond.methodLink RX5 233 yX0_modelIfTold, Cond.instanceMethod yX0_modelIfTold, Cond.selects RX0 yX0_modelIfTold yX0_modelIfTold, Cond.initialized RX0, Cond.code yX0_modelIfTold cX0_modelIfTold 1 (some (.object "ModelCopies$Copy")), Cond.fieldLink RX0 15 "ModelCopies$Copy" "isTold" "Z", Cond.fieldLink RX0 23 "ModelCopies$Copy" "model" "LModelCopies$Copy;", Cond.methodLink RX5 97 yJx4a65c_size_8abf5, Cond.instanceMethod yJx4a65c_size_8abf5, Cond.selects RJx4a65c yJx4a65c_size_8abf5 yJx4a65c_size_8abf5, Cond.initialized RJx4a65c, Cond.code yJx4a65c_size_8abf5 cJx4a65c_size_8abf5 1 (some .int), Cond.fieldLink RJx4a65c 48 "java/util/ArrayList" "size" "I", Cond.methodLink RX5 162 yJx4a65c_get_915e3, Cond.instanceMethod yJx4a65c_get_915e3, Cond.selects RJx4a65c yJx4a65c_get_915e3 yJx4a65c_get_915e3, Cond.code yJx4a65c_get_915e3 cJx4a65c_get_915e3 2 (some (.object "java/lang/Object")), Cond.methodLink RJx4a65c 118 yJ15_checkIndex_7cf53, Cond.static yJ15_checkIndex_7cf53, Cond.initialized RJ15, Cond.code yJ15_checkIndex_7cf53 cJ15_checkIndex_7cf53 2 (some .int)]
def wsX5_guessFor_r2 : List Cond := [Cond.methodLink RJ15 105 yJ3_checkIndex_8e157, Cond.static yJ3_checkIndex_8e157, Cond.initialized RJ3, Cond.code yJ3_checkIndex_8e157 cJ3_checkIndex_8e157 3 (some .int), Cond.methodLink RJx4a65c 123 yJx4a65c_elementData_915e3, Cond.instanceMethod yJx4a65c_elementData_915e3, Cond.selects RJx4a65c yJx4a65c_elementData_915e3 yJx4a65c_elementData_915e3, Cond.code yJx4a65c_elementData_915e3 cJx4a65c_elementData_915e3 2 (some (.object "java/lang/Object")), Cond.fieldLink RJx4a65c 9 "java/util/ArrayList" "elementData" "[Ljava/lang/Object;", Cond.methodLink RX5 313 yX5_worthAsModel, Cond.static yX5_worthAsModel, Cond.initialized RX5, Cond.code yX5_worthAsModel cX5_worthAsModel 4 (some .int), Cond.methodLink RX5 229 yX0_countSharedWith, Cond.instanceMethod yX0_countSharedWith, Cond.selects RX0 yX0_countSharedWith yX0_countSharedWith, Cond.code yX0_countSharedWith cX0_countSharedWith 4 (some .int), Cond.fieldLink RX0 9 "ModelCopies$Copy" "readings" "[I", Cond.methodLink RX5 226 yX0_countErrors, Cond.instanceMethod yX0_countErrors, Cond.selects RX0 yX0_countErrors yX0_countErrors, Cond.code yX0_countErrors cX0_countErrors 1 (some .int), Cond.methodLink RX0 47 yX0_countSharedWith]
def wsX5_guessFor : List Cond := .code yX5_guessFor cX5_guessFor 8 (some (.object "ModelCopies$Copy")) :: ((wsX5_guessFor_r1 ++ wsX5_guessFor_r2) ++ wsX00 ++ wsX50 ++ wsJx4a65c0)
def wsX5_guess_r1 : List Cond := [Cond.methodLink RX5 80 yX5_findCopy, Cond.instanceMethod yX5_findCopy, Cond.selects RX5 yX5_findCopy yX5_findCopy, Cond.initialized RX5, Cond.code yX5_findCopy cX5_findCopy 2 (some (.object "ModelCopies$Copy")), Cond.classLink RX5 284 "java/lang/IndexOutOfBoundsException", Cond.initialized "java/lang/IndexOutOfBoundsException", Cond.fieldLink RX5 16 "ModelCopies" "copies" "Ljava/util/ArrayList;", Cond.classLink RX5 49 "ModelCopies$Copy", Cond.methodLink RX5 97 yJx4a65c_size_8abf5, Cond.instanceMethod yJx4a65c_size_8abf5, Cond.selects RJx4a65c yJx4a65c_size_8abf5 yJx4a65c_size_8abf5, Cond.initialized RJx4a65c, Cond.code yJx4a65c_size_8abf5 cJx4a65c_size_8abf5 1 (some .int), Cond.fieldLink RJx4a65c 48 "java/util/ArrayList" "size" "I", Cond.methodLink RX5 162 yJx4a65c_get_915e3, Cond.instanceMethod yJx4a65c_get_915e3, Cond.selects RJx4a65c yJx4a65c_get_915e3 yJx4a65c_get_915e3, Cond.code yJx4a65c_get_915e3 cJx4a65c_get_915e3 2 (some (.object "java/lang/Object")), Cond.methodLink RJx4a65c 118 yJ15_checkIndex_7cf53, Cond.static yJ15_checkIndex_7cf53, Cond.initialized RJ15, Cond.code yJ15_checkIndex_7cf53 cJ15_checkIndex_7cf53 2 (some .int), Cond.methodLink RJ15 105 yJ3_checkIndex_8e157]
def wsX5_guess_r2 : List Cond := [Cond.static yJ3_checkIndex_8e157, Cond.initialized RJ3, Cond.code yJ3_checkIndex_8e157 cJ3_checkIndex_8e157 3 (some .int), Cond.methodLink RJx4a65c 123 yJx4a65c_elementData_915e3, Cond.instanceMethod yJx4a65c_elementData_915e3, Cond.selects RJx4a65c yJx4a65c_elementData_915e3 yJx4a65c_elementData_915e3, Cond.code yJx4a65c_elementData_915e3 cJx4a65c_elementData_915e3 2 (some (.object "java/lang/Object")), Cond.fieldLink RJx4a65c 9 "java/util/ArrayList" "elementData" "[Ljava/lang/Object;", Cond.methodLink RX5 256 yX5_guessFor, Cond.instanceMethod yX5_guessFor, Cond.selects RX5 yX5_guessFor yX5_guessFor, Cond.code yX5_guessFor cX5_guessFor 8 (some (.object "ModelCopies$Copy")), Cond.fieldLink RX5 118 "ModelCopies$Copy" "number" "I", Cond.methodLink RX5 233 yX0_modelIfTold, Cond.instanceMethod yX0_modelIfTold, Cond.selects RX0 yX0_modelIfTold yX0_modelIfTold, Cond.initialized RX0, Cond.code yX0_modelIfTold cX0_modelIfTold 1 (some (.object "ModelCopies$Copy")), Cond.fieldLink RX0 15 "ModelCopies$Copy" "isTold" "Z", Cond.fieldLink RX0 23 "ModelCopies$Copy" "model" "LModelCopies$Copy;", Cond.methodLink RX5 313 yX5_worthAsModel, Cond.static yX5_worthAsModel, Cond.code yX5_worthAsModel cX5_worthAsModel 4 (some .int), Cond.methodLink RX5 229 yX0_countSharedWith]
def wsX5_guess_r3 : List Cond := [Cond.instanceMethod yX0_countSharedWith, Cond.selects RX0 yX0_countSharedWith yX0_countSharedWith, Cond.code yX0_countSharedWith cX0_countSharedWith 4 (some .int), Cond.fieldLink RX0 9 "ModelCopies$Copy" "readings" "[I", Cond.methodLink RX5 226 yX0_countErrors, Cond.instanceMethod yX0_countErrors, Cond.selects RX0 yX0_countErrors yX0_countErrors, Cond.code yX0_countErrors cX0_countErrors 1 (some .int), Cond.methodLink RX0 47 yX0_countSharedWith, Cond.methodLink RX5 237 yX5_numberOf, Cond.static yX5_numberOf, Cond.code yX5_numberOf cX5_numberOf 1 (some .int)]
def wsX5_guess : List Cond := .code yX5_guess cX5_guess 2 (some .int) :: ((wsX5_guess_r1 ++ (wsX5_guess_r2 ++ wsX5_guess_r3)) ++ wsX50 ++ wsJx4a65c0 ++ wsX00 ++ (vx_atS RX5 288 "java/lang/IndexOutOfBoundsException" ["java/lang/RuntimeException", "java/lang/Exception"]).filter goodWord)
def wsX5_rightGuesses_r1 : List Cond := [Cond.fieldLink RX5 16 "ModelCopies" "copies" "Ljava/util/ArrayList;", Cond.classLink RX5 49 "ModelCopies$Copy", Cond.fieldLink RX5 121 "ModelCopies$Copy" "model" "LModelCopies$Copy;", Cond.methodLink RX5 97 yJx4a65c_size_8abf5, Cond.instanceMethod yJx4a65c_size_8abf5, Cond.selects RJx4a65c yJx4a65c_size_8abf5 yJx4a65c_size_8abf5, Cond.initialized RJx4a65c, Cond.code yJx4a65c_size_8abf5 cJx4a65c_size_8abf5 1 (some .int), Cond.fieldLink RJx4a65c 48 "java/util/ArrayList" "size" "I", Cond.methodLink RX5 162 yJx4a65c_get_915e3, Cond.instanceMethod yJx4a65c_get_915e3, Cond.selects RJx4a65c yJx4a65c_get_915e3 yJx4a65c_get_915e3, Cond.code yJx4a65c_get_915e3 cJx4a65c_get_915e3 2 (some (.object "java/lang/Object")), Cond.methodLink RJx4a65c 118 yJ15_checkIndex_7cf53, Cond.static yJ15_checkIndex_7cf53, Cond.initialized RJ15, Cond.code yJ15_checkIndex_7cf53 cJ15_checkIndex_7cf53 2 (some .int), Cond.methodLink RJ15 105 yJ3_checkIndex_8e157, Cond.static yJ3_checkIndex_8e157, Cond.initialized RJ3, Cond.code yJ3_checkIndex_8e157 cJ3_checkIndex_8e157 3 (some .int), Cond.methodLink RJx4a65c 123 yJx4a65c_elementData_915e3, Cond.instanceMethod yJx4a65c_elementData_915e3, Cond.selects RJx4a65c yJx4a65c_elementData_915e3 yJx4a65c_elementData_915e3]
def wsX5_rightGuesses_r2 : List Cond := [Cond.code yJx4a65c_elementData_915e3 cJx4a65c_elementData_915e3 2 (some (.object "java/lang/Object")), Cond.fieldLink RJx4a65c 9 "java/util/ArrayList" "elementData" "[Ljava/lang/Object;", Cond.methodLink RX5 256 yX5_guessFor, Cond.instanceMethod yX5_guessFor, Cond.selects RX5 yX5_guessFor yX5_guessFor, Cond.initialized RX5, Cond.code yX5_guessFor cX5_guessFor 8 (some (.object "ModelCopies$Copy")), Cond.fieldLink RX5 118 "ModelCopies$Copy" "number" "I", Cond.methodLink RX5 233 yX0_modelIfTold, Cond.instanceMethod yX0_modelIfTold, Cond.selects RX0 yX0_modelIfTold yX0_modelIfTold, Cond.initialized RX0, Cond.code yX0_modelIfTold cX0_modelIfTold 1 (some (.object "ModelCopies$Copy")), Cond.fieldLink RX0 15 "ModelCopies$Copy" "isTold" "Z", Cond.fieldLink RX0 23 "ModelCopies$Copy" "model" "LModelCopies$Copy;", Cond.methodLink RX5 313 yX5_worthAsModel, Cond.static yX5_worthAsModel, Cond.code yX5_worthAsModel cX5_worthAsModel 4 (some .int), Cond.methodLink RX5 229 yX0_countSharedWith, Cond.instanceMethod yX0_countSharedWith, Cond.selects RX0 yX0_countSharedWith yX0_countSharedWith, Cond.code yX0_countSharedWith cX0_countSharedWith 4 (some .int), Cond.fieldLink RX0 9 "ModelCopies$Copy" "readings" "[I", Cond.methodLink RX5 226 yX0_countErrors]
def wsX5_rightGuesses_r3 : List Cond := [Cond.instanceMethod yX0_countErrors, Cond.selects RX0 yX0_countErrors yX0_countErrors, Cond.code yX0_countErrors cX0_countErrors 1 (some .int), Cond.methodLink RX0 47 yX0_countSharedWith]
def wsX5_rightGuesses : List Cond := .code yX5_rightGuesses cX5_rightGuesses 4 (some .int) :: ((wsX5_rightGuesses_r1 ++ (wsX5_rightGuesses_r2 ++ wsX5_rightGuesses_r3)) ++ wsX50 ++ wsX00 ++ wsJx4a65c0)
def wsX5_requireError : List Cond := .code yX5_requireError cX5_requireError 2 none :: ([.classLink RX5 57 "java/lang/IllegalArgumentException", .initialized "java/lang/IllegalArgumentException", .methodLink RX5 54 yX5_requirePlace, .static yX5_requirePlace, .initialized RX5, .code yX5_requirePlace cX5_requirePlace 1 none, .classLink RX5 284 "java/lang/IndexOutOfBoundsException", .initialized "java/lang/IndexOutOfBoundsException"] ++ (vx_atS RX5 61 "java/lang/IllegalArgumentException" ["java/lang/RuntimeException", "java/lang/Exception"]).filter goodWord ++ (vx_atS RX5 288 "java/lang/IndexOutOfBoundsException" ["java/lang/RuntimeException", "java/lang/Exception"]).filter goodWord)
def wsJ13_bitCount_95d88 : List Cond := .code yJ13_bitCount_95d88 cJ13_bitCount_95d88 2 (some .int) :: ([.constantLong RJ13 314 (6148914691236517205), .constantLong RJ13 316 (3689348814741910323), .constantLong RJ13 318 (1085102592571150095)])
def wsX5_spread_r1 : List Cond := [Cond.methodLink RX5 260 yX5_requireError, Cond.static yX5_requireError, Cond.initialized RX5, Cond.code yX5_requireError cX5_requireError 2 none, Cond.classLink RX5 57 "java/lang/IllegalArgumentException", Cond.initialized "java/lang/IllegalArgumentException", Cond.methodLink RX5 54 yX5_requirePlace, Cond.static yX5_requirePlace, Cond.code yX5_requirePlace cX5_requirePlace 1 none, Cond.classLink RX5 284 "java/lang/IndexOutOfBoundsException", Cond.initialized "java/lang/IndexOutOfBoundsException", Cond.methodLink RX5 263 yX5_copiesThatRead, Cond.instanceMethod yX5_copiesThatRead, Cond.selects RX5 yX5_copiesThatRead yX5_copiesThatRead, Cond.code yX5_copiesThatRead cX5_copiesThatRead 7 (some .long), Cond.fieldLink RX5 16 "ModelCopies" "copies" "Ljava/util/ArrayList;", Cond.classLink RX5 49 "ModelCopies$Copy", Cond.fieldLink RX5 139 "ModelCopies$Copy" "readings" "[I", Cond.methodLink RX5 97 yJx4a65c_size_8abf5, Cond.instanceMethod yJx4a65c_size_8abf5, Cond.selects RJx4a65c yJx4a65c_size_8abf5 yJx4a65c_size_8abf5, Cond.initialized RJx4a65c, Cond.code yJx4a65c_size_8abf5 cJx4a65c_size_8abf5 1 (some .int), Cond.fieldLink RJx4a65c 48 "java/util/ArrayList" "size" "I"]
def wsX5_spread_r2 : List Cond := [Cond.methodLink RX5 162 yJx4a65c_get_915e3, Cond.instanceMethod yJx4a65c_get_915e3, Cond.selects RJx4a65c yJx4a65c_get_915e3 yJx4a65c_get_915e3, Cond.code yJx4a65c_get_915e3 cJx4a65c_get_915e3 2 (some (.object "java/lang/Object")), Cond.methodLink RJx4a65c 118 yJ15_checkIndex_7cf53, Cond.static yJ15_checkIndex_7cf53, Cond.initialized RJ15, Cond.code yJ15_checkIndex_7cf53 cJ15_checkIndex_7cf53 2 (some .int), Cond.methodLink RJ15 105 yJ3_checkIndex_8e157, Cond.static yJ3_checkIndex_8e157, Cond.initialized RJ3, Cond.code yJ3_checkIndex_8e157 cJ3_checkIndex_8e157 3 (some .int), Cond.methodLink RJx4a65c 123 yJx4a65c_elementData_915e3, Cond.instanceMethod yJx4a65c_elementData_915e3, Cond.selects RJx4a65c yJx4a65c_elementData_915e3 yJx4a65c_elementData_915e3, Cond.code yJx4a65c_elementData_915e3 cJx4a65c_elementData_915e3 2 (some (.object "java/lang/Object")), Cond.fieldLink RJx4a65c 9 "java/util/ArrayList" "elementData" "[Ljava/lang/Object;", Cond.methodLink RX5 240 yX5_setOf, Cond.static yX5_setOf, Cond.code yX5_setOf cX5_setOf 1 (some .long), Cond.fieldLink RX5 118 "ModelCopies$Copy" "number" "I", Cond.methodLink RX5 267 yJ13_bitCount_95d88, Cond.static yJ13_bitCount_95d88, Cond.initialized RJ13]
def wsX5_spread_r3 : List Cond := [Cond.code yJ13_bitCount_95d88 cJ13_bitCount_95d88 2 (some .int), Cond.constantLong RJ13 314 (6148914691236517205), Cond.constantLong RJ13 316 (3689348814741910323), Cond.constantLong RJ13 318 (1085102592571150095)]
def wsX5_spread : List Cond := .code yX5_spread cX5_spread 3 (some .int) :: ((wsX5_spread_r1 ++ (wsX5_spread_r2 ++ wsX5_spread_r3)) ++ wsX50 ++ wsX00 ++ wsJx4a65c0 ++ (vx_atS RX5 61 "java/lang/IllegalArgumentException" ["java/lang/RuntimeException", "java/lang/Exception"]).filter goodWord ++ (vx_atS RX5 288 "java/lang/IndexOutOfBoundsException" ["java/lang/RuntimeException", "java/lang/Exception"]).filter goodWord)
def wsX5_sources_r1 : List Cond := [Cond.fieldLink RX5 16 "ModelCopies" "copies" "Ljava/util/ArrayList;", Cond.classLink RX5 49 "ModelCopies$Copy", Cond.fieldLink RX5 139 "ModelCopies$Copy" "readings" "[I", Cond.methodLink RX5 260 yX5_requireError, Cond.static yX5_requireError, Cond.initialized RX5, Cond.code yX5_requireError cX5_requireError 2 none, Cond.classLink RX5 57 "java/lang/IllegalArgumentException", Cond.initialized "java/lang/IllegalArgumentException", Cond.methodLink RX5 54 yX5_requirePlace, Cond.static yX5_requirePlace, Cond.code yX5_requirePlace cX5_requirePlace 1 none, Cond.classLink RX5 284 "java/lang/IndexOutOfBoundsException", Cond.initialized "java/lang/IndexOutOfBoundsException", Cond.methodLink RX5 97 yJx4a65c_size_8abf5, Cond.instanceMethod yJx4a65c_size_8abf5, Cond.selects RJx4a65c yJx4a65c_size_8abf5 yJx4a65c_size_8abf5, Cond.initialized RJx4a65c, Cond.code yJx4a65c_size_8abf5 cJx4a65c_size_8abf5 1 (some .int), Cond.fieldLink RJx4a65c 48 "java/util/ArrayList" "size" "I", Cond.methodLink RX5 162 yJx4a65c_get_915e3, Cond.instanceMethod yJx4a65c_get_915e3, Cond.selects RJx4a65c yJx4a65c_get_915e3 yJx4a65c_get_915e3, Cond.code yJx4a65c_get_915e3 cJx4a65c_get_915e3 2 (some (.object "java/lang/Object"))]
def wsX5_sources_r2 : List Cond := [Cond.methodLink RJx4a65c 118 yJ15_checkIndex_7cf53, Cond.static yJ15_checkIndex_7cf53, Cond.initialized RJ15, Cond.code yJ15_checkIndex_7cf53 cJ15_checkIndex_7cf53 2 (some .int), Cond.methodLink RJ15 105 yJ3_checkIndex_8e157, Cond.static yJ3_checkIndex_8e157, Cond.initialized RJ3, Cond.code yJ3_checkIndex_8e157 cJ3_checkIndex_8e157 3 (some .int), Cond.methodLink RJx4a65c 123 yJx4a65c_elementData_915e3, Cond.instanceMethod yJx4a65c_elementData_915e3, Cond.selects RJx4a65c yJx4a65c_elementData_915e3 yJx4a65c_elementData_915e3, Cond.code yJx4a65c_elementData_915e3 cJx4a65c_elementData_915e3 2 (some (.object "java/lang/Object")), Cond.fieldLink RJx4a65c 9 "java/util/ArrayList" "elementData" "[Ljava/lang/Object;", Cond.methodLink RX5 256 yX5_guessFor, Cond.instanceMethod yX5_guessFor, Cond.selects RX5 yX5_guessFor yX5_guessFor, Cond.code yX5_guessFor cX5_guessFor 8 (some (.object "ModelCopies$Copy")), Cond.fieldLink RX5 118 "ModelCopies$Copy" "number" "I", Cond.methodLink RX5 233 yX0_modelIfTold, Cond.instanceMethod yX0_modelIfTold, Cond.selects RX0 yX0_modelIfTold yX0_modelIfTold, Cond.initialized RX0, Cond.code yX0_modelIfTold cX0_modelIfTold 1 (some (.object "ModelCopies$Copy")), Cond.fieldLink RX0 15 "ModelCopies$Copy" "isTold" "Z"]
def wsX5_sources_r3 : List Cond := [Cond.fieldLink RX0 23 "ModelCopies$Copy" "model" "LModelCopies$Copy;", Cond.methodLink RX5 313 yX5_worthAsModel, Cond.static yX5_worthAsModel, Cond.code yX5_worthAsModel cX5_worthAsModel 4 (some .int), Cond.methodLink RX5 229 yX0_countSharedWith, Cond.instanceMethod yX0_countSharedWith, Cond.selects RX0 yX0_countSharedWith yX0_countSharedWith, Cond.code yX0_countSharedWith cX0_countSharedWith 4 (some .int), Cond.fieldLink RX0 9 "ModelCopies$Copy" "readings" "[I", Cond.methodLink RX5 226 yX0_countErrors, Cond.instanceMethod yX0_countErrors, Cond.selects RX0 yX0_countErrors yX0_countErrors, Cond.code yX0_countErrors cX0_countErrors 1 (some .int), Cond.methodLink RX0 47 yX0_countSharedWith]
def wsX5_sources : List Cond := .code yX5_sources cX5_sources 7 (some .int) :: ((wsX5_sources_r1 ++ (wsX5_sources_r2 ++ wsX5_sources_r3)) ++ wsX50 ++ wsX00 ++ wsJx4a65c0 ++ (vx_atS RX5 61 "java/lang/IllegalArgumentException" ["java/lang/RuntimeException", "java/lang/Exception"]).filter goodWord ++ (vx_atS RX5 288 "java/lang/IndexOutOfBoundsException" ["java/lang/RuntimeException", "java/lang/Exception"]).filter goodWord)
def wsX5_letters : List Cond := .code yX5_letters cX5_letters 1 (some .int) :: ([.fieldLink RX5 19 "ModelCopies" "letters" "Ljava/util/ArrayList;", .methodLink RX5 97 yJx4a65c_size_8abf5, .instanceMethod yJx4a65c_size_8abf5, .selects RJx4a65c yJx4a65c_size_8abf5 yJx4a65c_size_8abf5, .initialized RJx4a65c, .code yJx4a65c_size_8abf5 cJx4a65c_size_8abf5 1 (some .int), .fieldLink RJx4a65c 48 "java/util/ArrayList" "size" "I"] ++ wsX50 ++ wsJx4a65c0)
def wsX5_requireLetter : List Cond := .code yX5_requireLetter cX5_requireLetter 2 none :: ([.classLink RX5 284 "java/lang/IndexOutOfBoundsException", .initialized "java/lang/IndexOutOfBoundsException", .fieldLink RX5 19 "ModelCopies" "letters" "Ljava/util/ArrayList;", .methodLink RX5 97 yJx4a65c_size_8abf5, .instanceMethod yJx4a65c_size_8abf5, .selects RJx4a65c yJx4a65c_size_8abf5 yJx4a65c_size_8abf5, .initialized RJx4a65c, .code yJx4a65c_size_8abf5 cJx4a65c_size_8abf5 1 (some .int), .fieldLink RJx4a65c 48 "java/util/ArrayList" "size" "I"] ++ wsX50 ++ wsJx4a65c0 ++ (vx_atS RX5 288 "java/lang/IndexOutOfBoundsException" ["java/lang/RuntimeException", "java/lang/Exception"]).filter goodWord)
def wsX5_hasLetter_r1 : List Cond := [Cond.methodLink RX5 87 yX5_findHouse, Cond.instanceMethod yX5_findHouse, Cond.selects RX5 yX5_findHouse yX5_findHouse, Cond.initialized RX5, Cond.code yX5_findHouse cX5_findHouse 2 (some (.object "ModelCopies$House")), Cond.classLink RX5 284 "java/lang/IndexOutOfBoundsException", Cond.initialized "java/lang/IndexOutOfBoundsException", Cond.fieldLink RX5 10 "ModelCopies" "houses" "Ljava/util/ArrayList;", Cond.classLink RX5 40 "ModelCopies$House", Cond.methodLink RX5 97 yJx4a65c_size_8abf5, Cond.instanceMethod yJx4a65c_size_8abf5, Cond.selects RJx4a65c yJx4a65c_size_8abf5 yJx4a65c_size_8abf5, Cond.initialized RJx4a65c, Cond.code yJx4a65c_size_8abf5 cJx4a65c_size_8abf5 1 (some .int), Cond.fieldLink RJx4a65c 48 "java/util/ArrayList" "size" "I", Cond.methodLink RX5 162 yJx4a65c_get_915e3, Cond.instanceMethod yJx4a65c_get_915e3, Cond.selects RJx4a65c yJx4a65c_get_915e3 yJx4a65c_get_915e3, Cond.code yJx4a65c_get_915e3 cJx4a65c_get_915e3 2 (some (.object "java/lang/Object")), Cond.methodLink RJx4a65c 118 yJ15_checkIndex_7cf53, Cond.static yJ15_checkIndex_7cf53, Cond.initialized RJ15, Cond.code yJ15_checkIndex_7cf53 cJ15_checkIndex_7cf53 2 (some .int), Cond.methodLink RJ15 105 yJ3_checkIndex_8e157]
def wsX5_hasLetter_r2 : List Cond := [Cond.static yJ3_checkIndex_8e157, Cond.initialized RJ3, Cond.code yJ3_checkIndex_8e157 cJ3_checkIndex_8e157 3 (some .int), Cond.methodLink RJx4a65c 123 yJx4a65c_elementData_915e3, Cond.instanceMethod yJx4a65c_elementData_915e3, Cond.selects RJx4a65c yJx4a65c_elementData_915e3 yJx4a65c_elementData_915e3, Cond.code yJx4a65c_elementData_915e3 cJx4a65c_elementData_915e3 2 (some (.object "java/lang/Object")), Cond.fieldLink RJx4a65c 9 "java/util/ArrayList" "elementData" "[Ljava/lang/Object;", Cond.methodLink RX5 272 yX5_requireLetter, Cond.instanceMethod yX5_requireLetter, Cond.selects RX5 yX5_requireLetter yX5_requireLetter, Cond.code yX5_requireLetter cX5_requireLetter 2 none, Cond.fieldLink RX5 19 "ModelCopies" "letters" "Ljava/util/ArrayList;", Cond.methodLink RX5 159 yX2_holds, Cond.instanceMethod yX2_holds, Cond.selects RX2 yX2_holds yX2_holds, Cond.initialized RX2, Cond.code yX2_holds cX2_holds 2 (some .boolean), Cond.fieldLink RX2 9 "ModelCopies$House" "held" "[Z"]
def wsX5_hasLetter : List Cond := .code yX5_hasLetter cX5_hasLetter 4 (some .boolean) :: ((wsX5_hasLetter_r1 ++ wsX5_hasLetter_r2) ++ wsX50 ++ wsJx4a65c0 ++ wsX20 ++ (vx_atS RX5 288 "java/lang/IndexOutOfBoundsException" ["java/lang/RuntimeException", "java/lang/Exception"]).filter goodWord)
def wsX5_letter_r1 : List Cond := [Cond.fieldLink RX5 19 "ModelCopies" "letters" "Ljava/util/ArrayList;", Cond.classLink RX5 146 "ModelCopies$Letter", Cond.fieldLink RX5 275 "ModelCopies$Letter" "place" "I", Cond.fieldLink RX5 278 "ModelCopies$Letter" "was" "I", Cond.fieldLink RX5 281 "ModelCopies$Letter" "now" "I", Cond.methodLink RX5 272 yX5_requireLetter, Cond.instanceMethod yX5_requireLetter, Cond.selects RX5 yX5_requireLetter yX5_requireLetter, Cond.initialized RX5, Cond.code yX5_requireLetter cX5_requireLetter 2 none, Cond.classLink RX5 284 "java/lang/IndexOutOfBoundsException", Cond.initialized "java/lang/IndexOutOfBoundsException", Cond.methodLink RX5 97 yJx4a65c_size_8abf5, Cond.instanceMethod yJx4a65c_size_8abf5, Cond.selects RJx4a65c yJx4a65c_size_8abf5 yJx4a65c_size_8abf5, Cond.initialized RJx4a65c, Cond.code yJx4a65c_size_8abf5 cJx4a65c_size_8abf5 1 (some .int), Cond.fieldLink RJx4a65c 48 "java/util/ArrayList" "size" "I", Cond.methodLink RX5 162 yJx4a65c_get_915e3, Cond.instanceMethod yJx4a65c_get_915e3, Cond.selects RJx4a65c yJx4a65c_get_915e3 yJx4a65c_get_915e3, Cond.code yJx4a65c_get_915e3 cJx4a65c_get_915e3 2 (some (.object "java/lang/Object")), Cond.methodLink RJx4a65c 118 yJ15_checkIndex_7cf53, Cond.static yJ15_checkIndex_7cf53]
def wsX5_letter_r2 : List Cond := [Cond.initialized RJ15, Cond.code yJ15_checkIndex_7cf53 cJ15_checkIndex_7cf53 2 (some .int), Cond.methodLink RJ15 105 yJ3_checkIndex_8e157, Cond.static yJ3_checkIndex_8e157, Cond.initialized RJ3, Cond.code yJ3_checkIndex_8e157 cJ3_checkIndex_8e157 3 (some .int), Cond.methodLink RJx4a65c 123 yJx4a65c_elementData_915e3, Cond.instanceMethod yJx4a65c_elementData_915e3, Cond.selects RJx4a65c yJx4a65c_elementData_915e3 yJx4a65c_elementData_915e3, Cond.code yJx4a65c_elementData_915e3 cJx4a65c_elementData_915e3 2 (some (.object "java/lang/Object")), Cond.fieldLink RJx4a65c 9 "java/util/ArrayList" "elementData" "[Ljava/lang/Object;"]
def wsX5_letter : List Cond := .code yX5_letter cX5_letter 3 (some .int) :: ((wsX5_letter_r1 ++ wsX5_letter_r2) ++ wsX50 ++ wsX30 ++ wsJx4a65c0 ++ (vx_atS RX5 288 "java/lang/IndexOutOfBoundsException" ["java/lang/RuntimeException", "java/lang/Exception"]).filter goodWord)
def wsX5_loans : List Cond := .code yX5_loans cX5_loans 1 (some .int) :: ([.fieldLink RX5 22 "ModelCopies" "loans" "Ljava/util/ArrayList;", .methodLink RX5 97 yJx4a65c_size_8abf5, .instanceMethod yJx4a65c_size_8abf5, .selects RJx4a65c yJx4a65c_size_8abf5 yJx4a65c_size_8abf5, .initialized RJx4a65c, .code yJx4a65c_size_8abf5 cJx4a65c_size_8abf5 1 (some .int), .fieldLink RJx4a65c 48 "java/util/ArrayList" "size" "I"] ++ wsX50 ++ wsJx4a65c0)
def wsX5_isBack_r1 : List Cond := [Cond.fieldLink RX5 202 "ModelCopies$Loan" "isBack" "Z", Cond.methodLink RX5 198 yX5_findLoan, Cond.instanceMethod yX5_findLoan, Cond.selects RX5 yX5_findLoan yX5_findLoan, Cond.initialized RX5, Cond.code yX5_findLoan cX5_findLoan 2 (some (.object "ModelCopies$Loan")), Cond.classLink RX5 284 "java/lang/IndexOutOfBoundsException", Cond.initialized "java/lang/IndexOutOfBoundsException", Cond.fieldLink RX5 22 "ModelCopies" "loans" "Ljava/util/ArrayList;", Cond.classLink RX5 186 "ModelCopies$Loan", Cond.methodLink RX5 97 yJx4a65c_size_8abf5, Cond.instanceMethod yJx4a65c_size_8abf5, Cond.selects RJx4a65c yJx4a65c_size_8abf5 yJx4a65c_size_8abf5, Cond.initialized RJx4a65c, Cond.code yJx4a65c_size_8abf5 cJx4a65c_size_8abf5 1 (some .int), Cond.fieldLink RJx4a65c 48 "java/util/ArrayList" "size" "I", Cond.methodLink RX5 162 yJx4a65c_get_915e3, Cond.instanceMethod yJx4a65c_get_915e3, Cond.selects RJx4a65c yJx4a65c_get_915e3 yJx4a65c_get_915e3, Cond.code yJx4a65c_get_915e3 cJx4a65c_get_915e3 2 (some (.object "java/lang/Object")), Cond.methodLink RJx4a65c 118 yJ15_checkIndex_7cf53, Cond.static yJ15_checkIndex_7cf53, Cond.initialized RJ15, Cond.code yJ15_checkIndex_7cf53 cJ15_checkIndex_7cf53 2 (some .int)]
def wsX5_isBack_r2 : List Cond := [Cond.methodLink RJ15 105 yJ3_checkIndex_8e157, Cond.static yJ3_checkIndex_8e157, Cond.initialized RJ3, Cond.code yJ3_checkIndex_8e157 cJ3_checkIndex_8e157 3 (some .int), Cond.methodLink RJx4a65c 123 yJx4a65c_elementData_915e3, Cond.instanceMethod yJx4a65c_elementData_915e3, Cond.selects RJx4a65c yJx4a65c_elementData_915e3 yJx4a65c_elementData_915e3, Cond.code yJx4a65c_elementData_915e3 cJx4a65c_elementData_915e3 2 (some (.object "java/lang/Object")), Cond.fieldLink RJx4a65c 9 "java/util/ArrayList" "elementData" "[Ljava/lang/Object;"]
def wsX5_isBack : List Cond := .code yX5_isBack cX5_isBack 2 (some .boolean) :: ((wsX5_isBack_r1 ++ wsX5_isBack_r2) ++ wsX40 ++ wsX50 ++ wsJx4a65c0 ++ (vx_atS RX5 288 "java/lang/IndexOutOfBoundsException" ["java/lang/RuntimeException", "java/lang/Exception"]).filter goodWord)
def wsX5_late_r1 : List Cond := [Cond.fieldLink RX5 202 "ModelCopies$Loan" "isBack" "Z", Cond.fieldLink RX5 220 "ModelCopies$Loan" "daysLateAtEnd" "I", Cond.fieldLink RX5 36 "ModelCopies" "today" "I", Cond.methodLink RX5 198 yX5_findLoan, Cond.instanceMethod yX5_findLoan, Cond.selects RX5 yX5_findLoan yX5_findLoan, Cond.initialized RX5, Cond.code yX5_findLoan cX5_findLoan 2 (some (.object "ModelCopies$Loan")), Cond.classLink RX5 284 "java/lang/IndexOutOfBoundsException", Cond.initialized "java/lang/IndexOutOfBoundsException", Cond.fieldLink RX5 22 "ModelCopies" "loans" "Ljava/util/ArrayList;", Cond.classLink RX5 186 "ModelCopies$Loan", Cond.methodLink RX5 97 yJx4a65c_size_8abf5, Cond.instanceMethod yJx4a65c_size_8abf5, Cond.selects RJx4a65c yJx4a65c_size_8abf5 yJx4a65c_size_8abf5, Cond.initialized RJx4a65c, Cond.code yJx4a65c_size_8abf5 cJx4a65c_size_8abf5 1 (some .int), Cond.fieldLink RJx4a65c 48 "java/util/ArrayList" "size" "I", Cond.methodLink RX5 162 yJx4a65c_get_915e3, Cond.instanceMethod yJx4a65c_get_915e3, Cond.selects RJx4a65c yJx4a65c_get_915e3 yJx4a65c_get_915e3, Cond.code yJx4a65c_get_915e3 cJx4a65c_get_915e3 2 (some (.object "java/lang/Object")), Cond.methodLink RJx4a65c 118 yJ15_checkIndex_7cf53, Cond.static yJ15_checkIndex_7cf53]
def wsX5_late_r2 : List Cond := [Cond.initialized RJ15, Cond.code yJ15_checkIndex_7cf53 cJ15_checkIndex_7cf53 2 (some .int), Cond.methodLink RJ15 105 yJ3_checkIndex_8e157, Cond.static yJ3_checkIndex_8e157, Cond.initialized RJ3, Cond.code yJ3_checkIndex_8e157 cJ3_checkIndex_8e157 3 (some .int), Cond.methodLink RJx4a65c 123 yJx4a65c_elementData_915e3, Cond.instanceMethod yJx4a65c_elementData_915e3, Cond.selects RJx4a65c yJx4a65c_elementData_915e3 yJx4a65c_elementData_915e3, Cond.code yJx4a65c_elementData_915e3 cJx4a65c_elementData_915e3 2 (some (.object "java/lang/Object")), Cond.fieldLink RJx4a65c 9 "java/util/ArrayList" "elementData" "[Ljava/lang/Object;", Cond.methodLink RX5 217 yX4_daysLateOn, Cond.instanceMethod yX4_daysLateOn, Cond.selects RX4 yX4_daysLateOn yX4_daysLateOn, Cond.initialized RX4, Cond.code yX4_daysLateOn cX4_daysLateOn 2 (some .int), Cond.fieldLink RX4 27 "ModelCopies$Loan" "lastDay" "I", Cond.methodLink RX4 33 Lib.Math.max.name, Cond.static Lib.Math.max.name, Cond.initialized "java/lang/Math", Cond.code Lib.Math.max.name Lib.Math.max.code 2 (some .int)]
def wsX5_late : List Cond := .code yX5_late cX5_late 3 (some .int) :: ((wsX5_late_r1 ++ wsX5_late_r2) ++ wsX40 ++ wsX50 ++ wsJx4a65c0 ++ (vx_atS RX5 288 "java/lang/IndexOutOfBoundsException" ["java/lang/RuntimeException", "java/lang/Exception"]).filter goodWord)
def wsX5_coins_r1 : List Cond := [Cond.fieldLink RX5 179 "ModelCopies$House" "coins" "I", Cond.methodLink RX5 87 yX5_findHouse, Cond.instanceMethod yX5_findHouse, Cond.selects RX5 yX5_findHouse yX5_findHouse, Cond.initialized RX5, Cond.code yX5_findHouse cX5_findHouse 2 (some (.object "ModelCopies$House")), Cond.classLink RX5 284 "java/lang/IndexOutOfBoundsException", Cond.initialized "java/lang/IndexOutOfBoundsException", Cond.fieldLink RX5 10 "ModelCopies" "houses" "Ljava/util/ArrayList;", Cond.classLink RX5 40 "ModelCopies$House", Cond.methodLink RX5 97 yJx4a65c_size_8abf5, Cond.instanceMethod yJx4a65c_size_8abf5, Cond.selects RJx4a65c yJx4a65c_size_8abf5 yJx4a65c_size_8abf5, Cond.initialized RJx4a65c, Cond.code yJx4a65c_size_8abf5 cJx4a65c_size_8abf5 1 (some .int), Cond.fieldLink RJx4a65c 48 "java/util/ArrayList" "size" "I", Cond.methodLink RX5 162 yJx4a65c_get_915e3, Cond.instanceMethod yJx4a65c_get_915e3, Cond.selects RJx4a65c yJx4a65c_get_915e3 yJx4a65c_get_915e3, Cond.code yJx4a65c_get_915e3 cJx4a65c_get_915e3 2 (some (.object "java/lang/Object")), Cond.methodLink RJx4a65c 118 yJ15_checkIndex_7cf53, Cond.static yJ15_checkIndex_7cf53, Cond.initialized RJ15, Cond.code yJ15_checkIndex_7cf53 cJ15_checkIndex_7cf53 2 (some .int)]
def wsX5_coins_r2 : List Cond := [Cond.methodLink RJ15 105 yJ3_checkIndex_8e157, Cond.static yJ3_checkIndex_8e157, Cond.initialized RJ3, Cond.code yJ3_checkIndex_8e157 cJ3_checkIndex_8e157 3 (some .int), Cond.methodLink RJx4a65c 123 yJx4a65c_elementData_915e3, Cond.instanceMethod yJx4a65c_elementData_915e3, Cond.selects RJx4a65c yJx4a65c_elementData_915e3 yJx4a65c_elementData_915e3, Cond.code yJx4a65c_elementData_915e3 cJx4a65c_elementData_915e3 2 (some (.object "java/lang/Object")), Cond.fieldLink RJx4a65c 9 "java/util/ArrayList" "elementData" "[Ljava/lang/Object;"]
def wsX5_coins : List Cond := .code yX5_coins cX5_coins 2 (some .int) :: ((wsX5_coins_r1 ++ wsX5_coins_r2) ++ wsX20 ++ wsX50 ++ wsJx4a65c0 ++ (vx_atS RX5 288 "java/lang/IndexOutOfBoundsException" ["java/lang/RuntimeException", "java/lang/Exception"]).filter goodWord)
def wsX5_laidDown_r1 : List Cond := [Cond.fieldLink RX5 191 "ModelCopies$House" "laidDown" "I", Cond.methodLink RX5 87 yX5_findHouse, Cond.instanceMethod yX5_findHouse, Cond.selects RX5 yX5_findHouse yX5_findHouse, Cond.initialized RX5, Cond.code yX5_findHouse cX5_findHouse 2 (some (.object "ModelCopies$House")), Cond.classLink RX5 284 "java/lang/IndexOutOfBoundsException", Cond.initialized "java/lang/IndexOutOfBoundsException", Cond.fieldLink RX5 10 "ModelCopies" "houses" "Ljava/util/ArrayList;", Cond.classLink RX5 40 "ModelCopies$House", Cond.methodLink RX5 97 yJx4a65c_size_8abf5, Cond.instanceMethod yJx4a65c_size_8abf5, Cond.selects RJx4a65c yJx4a65c_size_8abf5 yJx4a65c_size_8abf5, Cond.initialized RJx4a65c, Cond.code yJx4a65c_size_8abf5 cJx4a65c_size_8abf5 1 (some .int), Cond.fieldLink RJx4a65c 48 "java/util/ArrayList" "size" "I", Cond.methodLink RX5 162 yJx4a65c_get_915e3, Cond.instanceMethod yJx4a65c_get_915e3, Cond.selects RJx4a65c yJx4a65c_get_915e3 yJx4a65c_get_915e3, Cond.code yJx4a65c_get_915e3 cJx4a65c_get_915e3 2 (some (.object "java/lang/Object")), Cond.methodLink RJx4a65c 118 yJ15_checkIndex_7cf53, Cond.static yJ15_checkIndex_7cf53, Cond.initialized RJ15, Cond.code yJ15_checkIndex_7cf53 cJ15_checkIndex_7cf53 2 (some .int)]
def wsX5_laidDown_r2 : List Cond := [Cond.methodLink RJ15 105 yJ3_checkIndex_8e157, Cond.static yJ3_checkIndex_8e157, Cond.initialized RJ3, Cond.code yJ3_checkIndex_8e157 cJ3_checkIndex_8e157 3 (some .int), Cond.methodLink RJx4a65c 123 yJx4a65c_elementData_915e3, Cond.instanceMethod yJx4a65c_elementData_915e3, Cond.selects RJx4a65c yJx4a65c_elementData_915e3 yJx4a65c_elementData_915e3, Cond.code yJx4a65c_elementData_915e3 cJx4a65c_elementData_915e3 2 (some (.object "java/lang/Object")), Cond.fieldLink RJx4a65c 9 "java/util/ArrayList" "elementData" "[Ljava/lang/Object;"]
def wsX5_laidDown : List Cond := .code yX5_laidDown cX5_laidDown 2 (some .int) :: ((wsX5_laidDown_r1 ++ wsX5_laidDown_r2) ++ wsX20 ++ wsX50 ++ wsJx4a65c0 ++ (vx_atS RX5 288 "java/lang/IndexOutOfBoundsException" ["java/lang/RuntimeException", "java/lang/Exception"]).filter goodWord)
def wsX6_init_r1 : List Cond := [Cond.methodLink RX6 1 objectInit, Cond.instanceMethod objectInit, Cond.code objectInit ⟨#[0xb1]⟩ 1 none, Cond.arrayClass .int, Cond.fieldLink RX6 7 "ModelCopiesModel" "readings" "[I", Cond.fieldLink RX6 13 "ModelCopiesModel" "models" "[I", Cond.arrayClass .boolean, Cond.fieldLink RX6 16 "ModelCopiesModel" "told" "[Z", Cond.fieldLink RX6 20 "ModelCopiesModel" "owners" "[I", Cond.fieldLink RX6 23 "ModelCopiesModel" "houses" "[I", Cond.fieldLink RX6 26 "ModelCopiesModel" "copies" "I", Cond.fieldLink RX6 30 "ModelCopiesModel" "draft" "[I", Cond.fieldLink RX6 33 "ModelCopiesModel" "slips" "[I", Cond.fieldLink RX6 36 "ModelCopiesModel" "spots" "[I", Cond.fieldLink RX6 39 "ModelCopiesModel" "olds" "[I", Cond.fieldLink RX6 42 "ModelCopiesModel" "news" "[I", Cond.fieldLink RX6 45 "ModelCopiesModel" "has" "[Z", Cond.fieldLink RX6 48 "ModelCopiesModel" "lent" "[I", Cond.fieldLink RX6 51 "ModelCopiesModel" "borrowers" "[I", Cond.fieldLink RX6 54 "ModelCopiesModel" "lasts" "[I", Cond.fieldLink RX6 57 "ModelCopiesModel" "pledges" "[I", Cond.fieldLink RX6 60 "ModelCopiesModel" "lates" "[I", Cond.fieldLink RX6 63 "ModelCopiesModel" "back" "[Z", Cond.fieldLink RX6 66 "ModelCopiesModel" "coins" "[I"]
def wsX6_init_r2 : List Cond := [Cond.fieldLink RX6 69 "ModelCopiesModel" "laid" "[I", Cond.fieldLink RX6 72 "ModelCopiesModel" "families" "[I"]
def wsX6_init : List Cond := .code yX6_init cX6_init 2 none :: ((wsX6_init_r1 ++ wsX6_init_r2) ++ wsX60)
def wsX6_thrown : List Cond := .code yX6_thrown cX6_thrown 1 (some .int) :: ([.fieldLink RX6 75 "ModelCopiesModel" "last" "I"] ++ wsX60)
def wsX6_in : List Cond := .code yX6_in cX6_in 3 (some .boolean) :: ([])
def wsX6_goes : List Cond := .code yX6_goes cX6_goes 4 (some .boolean) :: ([.fieldLink RX6 75 "ModelCopiesModel" "last" "I"] ++ wsX60)
def wsX6_isPlace : List Cond := .code yX6_isPlace cX6_isPlace 1 (some .boolean) :: ([.methodLink RX6 78 yX6_in, .static yX6_in, .initialized RX6, .code yX6_in cX6_in 3 (some .boolean)])
def wsX6_isHouse : List Cond := .code yX6_isHouse cX6_isHouse 1 (some .boolean) :: ([.methodLink RX6 78 yX6_in, .static yX6_in, .initialized RX6, .code yX6_in cX6_in 3 (some .boolean)])
def wsX6_isScribe : List Cond := .code yX6_isScribe cX6_isScribe 1 (some .boolean) :: ([.methodLink RX6 78 yX6_in, .static yX6_in, .initialized RX6, .code yX6_in cX6_in 3 (some .boolean)])
def wsX6_isCopy : List Cond := .code yX6_isCopy cX6_isCopy 2 (some .boolean) :: ([.fieldLink RX6 26 "ModelCopiesModel" "copies" "I", .methodLink RX6 78 yX6_in, .static yX6_in, .initialized RX6, .code yX6_in cX6_in 3 (some .boolean)] ++ wsX60)
def wsX6_isLetter : List Cond := .code yX6_isLetter cX6_isLetter 2 (some .boolean) :: ([.fieldLink RX6 82 "ModelCopiesModel" "letters" "I", .methodLink RX6 78 yX6_in, .static yX6_in, .initialized RX6, .code yX6_in cX6_in 3 (some .boolean)] ++ wsX60)
def wsX6_isLoan : List Cond := .code yX6_isLoan cX6_isLoan 2 (some .boolean) :: ([.fieldLink RX6 85 "ModelCopiesModel" "loans" "I", .methodLink RX6 78 yX6_in, .static yX6_in, .initialized RX6, .code yX6_in cX6_in 3 (some .boolean)] ++ wsX60)
def wsX6_slip : List Cond := .code yX6_slip cX6_slip 5 (some .int) :: ([.fieldLink RX6 30 "ModelCopiesModel" "draft" "[I", .fieldLink RX6 92 "ModelCopiesModel" "drafted" "I", .methodLink RX6 88 yX6_isPlace, .static yX6_isPlace, .initialized RX6, .code yX6_isPlace cX6_isPlace 1 (some .boolean), .methodLink RX6 78 yX6_in, .static yX6_in, .code yX6_in cX6_in 3 (some .boolean), .methodLink RX6 95 yX6_goes, .instanceMethod yX6_goes, .selects RX6 yX6_goes yX6_goes, .code yX6_goes cX6_goes 4 (some .boolean), .fieldLink RX6 75 "ModelCopiesModel" "last" "I"] ++ wsX60)
def wsX6_copy_r1 : List Cond := [Cond.fieldLink RX6 23 "ModelCopiesModel" "houses" "[I", Cond.fieldLink RX6 26 "ModelCopiesModel" "copies" "I", Cond.fieldLink RX6 7 "ModelCopiesModel" "readings" "[I", Cond.fieldLink RX6 33 "ModelCopiesModel" "slips" "[I", Cond.fieldLink RX6 30 "ModelCopiesModel" "draft" "[I", Cond.fieldLink RX6 92 "ModelCopiesModel" "drafted" "I", Cond.fieldLink RX6 13 "ModelCopiesModel" "models" "[I", Cond.fieldLink RX6 16 "ModelCopiesModel" "told" "[Z", Cond.fieldLink RX6 20 "ModelCopiesModel" "owners" "[I", Cond.methodLink RX6 99 yX6_isCopy, Cond.instanceMethod yX6_isCopy, Cond.selects RX6 yX6_isCopy yX6_isCopy, Cond.initialized RX6, Cond.code yX6_isCopy cX6_isCopy 2 (some .boolean), Cond.methodLink RX6 78 yX6_in, Cond.static yX6_in, Cond.code yX6_in cX6_in 3 (some .boolean), Cond.methodLink RX6 102 yX6_isScribe, Cond.static yX6_isScribe, Cond.code yX6_isScribe cX6_isScribe 1 (some .boolean), Cond.methodLink RX6 105 yX6_isHouse, Cond.static yX6_isHouse, Cond.code yX6_isHouse cX6_isHouse 1 (some .boolean), Cond.methodLink RX6 95 yX6_goes]
def wsX6_copy_r2 : List Cond := [Cond.instanceMethod yX6_goes, Cond.selects RX6 yX6_goes yX6_goes, Cond.code yX6_goes cX6_goes 4 (some .boolean), Cond.fieldLink RX6 75 "ModelCopiesModel" "last" "I"]
def wsX6_copy : List Cond := .code yX6_copy cX6_copy 8 (some .int) :: ((wsX6_copy_r1 ++ wsX6_copy_r2) ++ wsX60)
def wsX6_share : List Cond := .code yX6_share cX6_share 6 (some .int) :: ([.fieldLink RX6 7 "ModelCopiesModel" "readings" "[I"] ++ wsX60)
def wsX6_areKin : List Cond := .code yX6_areKin cX6_areKin 3 (some .boolean) :: ([.fieldLink RX6 16 "ModelCopiesModel" "told" "[Z", .fieldLink RX6 13 "ModelCopiesModel" "models" "[I", .methodLink RX6 128 yX6_share, .instanceMethod yX6_share, .selects RX6 yX6_share yX6_share, .initialized RX6, .code yX6_share cX6_share 6 (some .int), .fieldLink RX6 7 "ModelCopiesModel" "readings" "[I"] ++ wsX60)
def wsX6_sorts : List Cond := .code yX6_sorts cX6_sorts 4 none :: ([.fieldLink RX6 26 "ModelCopiesModel" "copies" "I", .fieldLink RX6 72 "ModelCopiesModel" "families" "[I", .methodLink RX6 132 yX6_areKin, .instanceMethod yX6_areKin, .selects RX6 yX6_areKin yX6_areKin, .initialized RX6, .code yX6_areKin cX6_areKin 3 (some .boolean), .fieldLink RX6 16 "ModelCopiesModel" "told" "[Z", .fieldLink RX6 13 "ModelCopiesModel" "models" "[I", .methodLink RX6 128 yX6_share, .instanceMethod yX6_share, .selects RX6 yX6_share yX6_share, .code yX6_share cX6_share 6 (some .int), .fieldLink RX6 7 "ModelCopiesModel" "readings" "[I"] ++ wsX60)
def wsX6_tellModel_r1 : List Cond := [Cond.fieldLink RX6 16 "ModelCopiesModel" "told" "[Z", Cond.fieldLink RX6 72 "ModelCopiesModel" "families" "[I", Cond.methodLink RX6 99 yX6_isCopy, Cond.instanceMethod yX6_isCopy, Cond.selects RX6 yX6_isCopy yX6_isCopy, Cond.initialized RX6, Cond.code yX6_isCopy cX6_isCopy 2 (some .boolean), Cond.fieldLink RX6 26 "ModelCopiesModel" "copies" "I", Cond.methodLink RX6 78 yX6_in, Cond.static yX6_in, Cond.code yX6_in cX6_in 3 (some .boolean), Cond.methodLink RX6 95 yX6_goes, Cond.instanceMethod yX6_goes, Cond.selects RX6 yX6_goes yX6_goes, Cond.code yX6_goes cX6_goes 4 (some .boolean), Cond.fieldLink RX6 75 "ModelCopiesModel" "last" "I", Cond.methodLink RX6 108 yX6_sorts, Cond.instanceMethod yX6_sorts, Cond.selects RX6 yX6_sorts yX6_sorts, Cond.code yX6_sorts cX6_sorts 4 none, Cond.methodLink RX6 132 yX6_areKin, Cond.instanceMethod yX6_areKin, Cond.selects RX6 yX6_areKin yX6_areKin, Cond.code yX6_areKin cX6_areKin 3 (some .boolean)]
def wsX6_tellModel_r2 : List Cond := [Cond.fieldLink RX6 13 "ModelCopiesModel" "models" "[I", Cond.methodLink RX6 128 yX6_share, Cond.instanceMethod yX6_share, Cond.selects RX6 yX6_share yX6_share, Cond.code yX6_share cX6_share 6 (some .int), Cond.fieldLink RX6 7 "ModelCopiesModel" "readings" "[I"]
def wsX6_tellModel : List Cond := .code yX6_tellModel cX6_tellModel 3 (some .int) :: ((wsX6_tellModel_r1 ++ wsX6_tellModel_r2) ++ wsX60)
def wsX6_pass : List Cond := .code yX6_pass cX6_pass 3 (some .int) :: ([.fieldLink RX6 111 "ModelCopiesModel" "day" "I", .methodLink RX6 78 yX6_in, .static yX6_in, .initialized RX6, .code yX6_in cX6_in 3 (some .boolean), .methodLink RX6 95 yX6_goes, .instanceMethod yX6_goes, .selects RX6 yX6_goes yX6_goes, .code yX6_goes cX6_goes 4 (some .boolean), .fieldLink RX6 75 "ModelCopiesModel" "last" "I"] ++ wsX60)
def wsX6_correct_r1 : List Cond := [Cond.fieldLink RX6 23 "ModelCopiesModel" "houses" "[I", Cond.fieldLink RX6 7 "ModelCopiesModel" "readings" "[I", Cond.fieldLink RX6 82 "ModelCopiesModel" "letters" "I", Cond.fieldLink RX6 36 "ModelCopiesModel" "spots" "[I", Cond.fieldLink RX6 39 "ModelCopiesModel" "olds" "[I", Cond.fieldLink RX6 42 "ModelCopiesModel" "news" "[I", Cond.fieldLink RX6 45 "ModelCopiesModel" "has" "[Z", Cond.methodLink RX6 105 yX6_isHouse, Cond.static yX6_isHouse, Cond.initialized RX6, Cond.code yX6_isHouse cX6_isHouse 1 (some .boolean), Cond.methodLink RX6 78 yX6_in, Cond.static yX6_in, Cond.code yX6_in cX6_in 3 (some .boolean), Cond.methodLink RX6 99 yX6_isCopy, Cond.instanceMethod yX6_isCopy, Cond.selects RX6 yX6_isCopy yX6_isCopy, Cond.code yX6_isCopy cX6_isCopy 2 (some .boolean), Cond.fieldLink RX6 26 "ModelCopiesModel" "copies" "I", Cond.methodLink RX6 88 yX6_isPlace, Cond.static yX6_isPlace, Cond.code yX6_isPlace cX6_isPlace 1 (some .boolean), Cond.methodLink RX6 95 yX6_goes, Cond.instanceMethod yX6_goes]
def wsX6_correct_r2 : List Cond := [Cond.selects RX6 yX6_goes yX6_goes, Cond.code yX6_goes cX6_goes 4 (some .boolean), Cond.fieldLink RX6 75 "ModelCopiesModel" "last" "I"]
def wsX6_correct : List Cond := .code yX6_correct cX6_correct 7 (some .int) :: ((wsX6_correct_r1 ++ wsX6_correct_r2) ++ wsX60)
def wsX6_workIn : List Cond := .code yX6_workIn cX6_workIn 8 (some .int) :: ([.fieldLink RX6 23 "ModelCopiesModel" "houses" "[I", .fieldLink RX6 82 "ModelCopiesModel" "letters" "I", .fieldLink RX6 36 "ModelCopiesModel" "spots" "[I", .fieldLink RX6 45 "ModelCopiesModel" "has" "[Z", .fieldLink RX6 7 "ModelCopiesModel" "readings" "[I", .fieldLink RX6 39 "ModelCopiesModel" "olds" "[I", .fieldLink RX6 42 "ModelCopiesModel" "news" "[I", .methodLink RX6 105 yX6_isHouse, .static yX6_isHouse, .initialized RX6, .code yX6_isHouse cX6_isHouse 1 (some .boolean), .methodLink RX6 78 yX6_in, .static yX6_in, .code yX6_in cX6_in 3 (some .boolean), .methodLink RX6 99 yX6_isCopy, .instanceMethod yX6_isCopy, .selects RX6 yX6_isCopy yX6_isCopy, .code yX6_isCopy cX6_isCopy 2 (some .boolean), .fieldLink RX6 26 "ModelCopiesModel" "copies" "I", .methodLink RX6 95 yX6_goes, .instanceMethod yX6_goes, .selects RX6 yX6_goes yX6_goes, .code yX6_goes cX6_goes 4 (some .boolean), .fieldLink RX6 75 "ModelCopiesModel" "last" "I"] ++ wsX60)
def wsX6_gets : List Cond := .code yX6_gets cX6_gets 4 none :: ([.fieldLink RX6 82 "ModelCopiesModel" "letters" "I", .fieldLink RX6 45 "ModelCopiesModel" "has" "[Z"] ++ wsX60)
def wsX6_lend_r1 : List Cond := [Cond.fieldLink RX6 20 "ModelCopiesModel" "owners" "[I", Cond.fieldLink RX6 23 "ModelCopiesModel" "houses" "[I", Cond.fieldLink RX6 66 "ModelCopiesModel" "coins" "[I", Cond.fieldLink RX6 85 "ModelCopiesModel" "loans" "I", Cond.fieldLink RX6 48 "ModelCopiesModel" "lent" "[I", Cond.fieldLink RX6 51 "ModelCopiesModel" "borrowers" "[I", Cond.fieldLink RX6 54 "ModelCopiesModel" "lasts" "[I", Cond.fieldLink RX6 111 "ModelCopiesModel" "day" "I", Cond.fieldLink RX6 57 "ModelCopiesModel" "pledges" "[I", Cond.fieldLink RX6 69 "ModelCopiesModel" "laid" "[I", Cond.methodLink RX6 99 yX6_isCopy, Cond.instanceMethod yX6_isCopy, Cond.selects RX6 yX6_isCopy yX6_isCopy, Cond.initialized RX6, Cond.code yX6_isCopy cX6_isCopy 2 (some .boolean), Cond.fieldLink RX6 26 "ModelCopiesModel" "copies" "I", Cond.methodLink RX6 78 yX6_in, Cond.static yX6_in, Cond.code yX6_in cX6_in 3 (some .boolean), Cond.methodLink RX6 105 yX6_isHouse, Cond.static yX6_isHouse, Cond.code yX6_isHouse cX6_isHouse 1 (some .boolean), Cond.methodLink RX6 95 yX6_goes, Cond.instanceMethod yX6_goes]
def wsX6_lend_r2 : List Cond := [Cond.selects RX6 yX6_goes yX6_goes, Cond.code yX6_goes cX6_goes 4 (some .boolean), Cond.fieldLink RX6 75 "ModelCopiesModel" "last" "I", Cond.methodLink RX6 114 yX6_gets, Cond.instanceMethod yX6_gets, Cond.selects RX6 yX6_gets yX6_gets, Cond.code yX6_gets cX6_gets 4 none, Cond.fieldLink RX6 82 "ModelCopiesModel" "letters" "I", Cond.fieldLink RX6 45 "ModelCopiesModel" "has" "[Z"]
def wsX6_lend : List Cond := .code yX6_lend cX6_lend 8 (some .int) :: ((wsX6_lend_r1 ++ wsX6_lend_r2) ++ wsX60)
def wsX6_lateNow : List Cond := .code yX6_lateNow cX6_lateNow 2 (some .int) :: ([.fieldLink RX6 111 "ModelCopiesModel" "day" "I", .fieldLink RX6 54 "ModelCopiesModel" "lasts" "[I"] ++ wsX60)
def wsX6_giveBack_r1 : List Cond := [Cond.fieldLink RX6 63 "ModelCopiesModel" "back" "[Z", Cond.fieldLink RX6 57 "ModelCopiesModel" "pledges" "[I", Cond.fieldLink RX6 51 "ModelCopiesModel" "borrowers" "[I", Cond.fieldLink RX6 20 "ModelCopiesModel" "owners" "[I", Cond.fieldLink RX6 48 "ModelCopiesModel" "lent" "[I", Cond.fieldLink RX6 60 "ModelCopiesModel" "lates" "[I", Cond.fieldLink RX6 69 "ModelCopiesModel" "laid" "[I", Cond.fieldLink RX6 66 "ModelCopiesModel" "coins" "[I", Cond.fieldLink RX6 23 "ModelCopiesModel" "houses" "[I", Cond.methodLink RX6 118 yX6_isLoan, Cond.instanceMethod yX6_isLoan, Cond.selects RX6 yX6_isLoan yX6_isLoan, Cond.initialized RX6, Cond.code yX6_isLoan cX6_isLoan 2 (some .boolean), Cond.fieldLink RX6 85 "ModelCopiesModel" "loans" "I", Cond.methodLink RX6 78 yX6_in, Cond.static yX6_in, Cond.code yX6_in cX6_in 3 (some .boolean), Cond.methodLink RX6 95 yX6_goes, Cond.instanceMethod yX6_goes, Cond.selects RX6 yX6_goes yX6_goes, Cond.code yX6_goes cX6_goes 4 (some .boolean), Cond.fieldLink RX6 75 "ModelCopiesModel" "last" "I", Cond.methodLink RX6 121 yX6_lateNow]
def wsX6_giveBack_r2 : List Cond := [Cond.instanceMethod yX6_lateNow, Cond.selects RX6 yX6_lateNow yX6_lateNow, Cond.code yX6_lateNow cX6_lateNow 2 (some .int), Cond.fieldLink RX6 111 "ModelCopiesModel" "day" "I", Cond.fieldLink RX6 54 "ModelCopiesModel" "lasts" "[I", Cond.methodLink RX6 114 yX6_gets, Cond.instanceMethod yX6_gets, Cond.selects RX6 yX6_gets yX6_gets, Cond.code yX6_gets cX6_gets 4 none, Cond.fieldLink RX6 82 "ModelCopiesModel" "letters" "I", Cond.fieldLink RX6 45 "ModelCopiesModel" "has" "[Z"]
def wsX6_giveBack : List Cond := .code yX6_giveBack cX6_giveBack 7 (some .int) :: ((wsX6_giveBack_r1 ++ wsX6_giveBack_r2) ++ wsX60)
def wsX6_day : List Cond := .code yX6_day cX6_day 1 (some .int) :: ([.fieldLink RX6 75 "ModelCopiesModel" "last" "I", .fieldLink RX6 111 "ModelCopiesModel" "day" "I"] ++ wsX60)
def wsX6_copies : List Cond := .code yX6_copies cX6_copies 1 (some .int) :: ([.fieldLink RX6 75 "ModelCopiesModel" "last" "I", .fieldLink RX6 26 "ModelCopiesModel" "copies" "I"] ++ wsX60)
def wsX6_reading : List Cond := .code yX6_reading cX6_reading 3 (some .int) :: ([.fieldLink RX6 7 "ModelCopiesModel" "readings" "[I", .methodLink RX6 99 yX6_isCopy, .instanceMethod yX6_isCopy, .selects RX6 yX6_isCopy yX6_isCopy, .initialized RX6, .code yX6_isCopy cX6_isCopy 2 (some .boolean), .fieldLink RX6 26 "ModelCopiesModel" "copies" "I", .methodLink RX6 78 yX6_in, .static yX6_in, .code yX6_in cX6_in 3 (some .boolean), .methodLink RX6 88 yX6_isPlace, .static yX6_isPlace, .code yX6_isPlace cX6_isPlace 1 (some .boolean), .methodLink RX6 95 yX6_goes, .instanceMethod yX6_goes, .selects RX6 yX6_goes yX6_goes, .code yX6_goes cX6_goes 4 (some .boolean), .fieldLink RX6 75 "ModelCopiesModel" "last" "I"] ++ wsX60)
def wsX6_errorsOf : List Cond := .code yX6_errorsOf cX6_errorsOf 4 (some .int) :: ([.fieldLink RX6 7 "ModelCopiesModel" "readings" "[I"] ++ wsX60)
def wsX6_errors : List Cond := .code yX6_errors cX6_errors 2 (some .int) :: ([.methodLink RX6 99 yX6_isCopy, .instanceMethod yX6_isCopy, .selects RX6 yX6_isCopy yX6_isCopy, .initialized RX6, .code yX6_isCopy cX6_isCopy 2 (some .boolean), .fieldLink RX6 26 "ModelCopiesModel" "copies" "I", .methodLink RX6 78 yX6_in, .static yX6_in, .code yX6_in cX6_in 3 (some .boolean), .methodLink RX6 95 yX6_goes, .instanceMethod yX6_goes, .selects RX6 yX6_goes yX6_goes, .code yX6_goes cX6_goes 4 (some .boolean), .fieldLink RX6 75 "ModelCopiesModel" "last" "I", .methodLink RX6 125 yX6_errorsOf, .instanceMethod yX6_errorsOf, .selects RX6 yX6_errorsOf yX6_errorsOf, .code yX6_errorsOf cX6_errorsOf 4 (some .int), .fieldLink RX6 7 "ModelCopiesModel" "readings" "[I"] ++ wsX60)
def wsX6_shared : List Cond := .code yX6_shared cX6_shared 3 (some .int) :: ([.methodLink RX6 99 yX6_isCopy, .instanceMethod yX6_isCopy, .selects RX6 yX6_isCopy yX6_isCopy, .initialized RX6, .code yX6_isCopy cX6_isCopy 2 (some .boolean), .fieldLink RX6 26 "ModelCopiesModel" "copies" "I", .methodLink RX6 78 yX6_in, .static yX6_in, .code yX6_in cX6_in 3 (some .boolean), .methodLink RX6 95 yX6_goes, .instanceMethod yX6_goes, .selects RX6 yX6_goes yX6_goes, .code yX6_goes cX6_goes 4 (some .boolean), .fieldLink RX6 75 "ModelCopiesModel" "last" "I", .methodLink RX6 128 yX6_share, .instanceMethod yX6_share, .selects RX6 yX6_share yX6_share, .code yX6_share cX6_share 6 (some .int), .fieldLink RX6 7 "ModelCopiesModel" "readings" "[I"] ++ wsX60)
def wsX6_houseOf : List Cond := .code yX6_houseOf cX6_houseOf 2 (some .int) :: ([.fieldLink RX6 23 "ModelCopiesModel" "houses" "[I", .methodLink RX6 99 yX6_isCopy, .instanceMethod yX6_isCopy, .selects RX6 yX6_isCopy yX6_isCopy, .initialized RX6, .code yX6_isCopy cX6_isCopy 2 (some .boolean), .fieldLink RX6 26 "ModelCopiesModel" "copies" "I", .methodLink RX6 78 yX6_in, .static yX6_in, .code yX6_in cX6_in 3 (some .boolean), .methodLink RX6 95 yX6_goes, .instanceMethod yX6_goes, .selects RX6 yX6_goes yX6_goes, .code yX6_goes cX6_goes 4 (some .boolean), .fieldLink RX6 75 "ModelCopiesModel" "last" "I"] ++ wsX60)
def wsX6_ownerOf : List Cond := .code yX6_ownerOf cX6_ownerOf 2 (some .int) :: ([.fieldLink RX6 20 "ModelCopiesModel" "owners" "[I", .methodLink RX6 99 yX6_isCopy, .instanceMethod yX6_isCopy, .selects RX6 yX6_isCopy yX6_isCopy, .initialized RX6, .code yX6_isCopy cX6_isCopy 2 (some .boolean), .fieldLink RX6 26 "ModelCopiesModel" "copies" "I", .methodLink RX6 78 yX6_in, .static yX6_in, .code yX6_in cX6_in 3 (some .boolean), .methodLink RX6 95 yX6_goes, .instanceMethod yX6_goes, .selects RX6 yX6_goes yX6_goes, .code yX6_goes cX6_goes 4 (some .boolean), .fieldLink RX6 75 "ModelCopiesModel" "last" "I"] ++ wsX60)
def wsX6_toldModel : List Cond := .code yX6_toldModel cX6_toldModel 2 (some .int) :: ([.fieldLink RX6 16 "ModelCopiesModel" "told" "[Z", .fieldLink RX6 13 "ModelCopiesModel" "models" "[I", .methodLink RX6 99 yX6_isCopy, .instanceMethod yX6_isCopy, .selects RX6 yX6_isCopy yX6_isCopy, .initialized RX6, .code yX6_isCopy cX6_isCopy 2 (some .boolean), .fieldLink RX6 26 "ModelCopiesModel" "copies" "I", .methodLink RX6 78 yX6_in, .static yX6_in, .code yX6_in cX6_in 3 (some .boolean), .methodLink RX6 95 yX6_goes, .instanceMethod yX6_goes, .selects RX6 yX6_goes yX6_goes, .code yX6_goes cX6_goes 4 (some .boolean), .fieldLink RX6 75 "ModelCopiesModel" "last" "I"] ++ wsX60)
def wsX6_slips : List Cond := .code yX6_slips cX6_slips 2 (some .int) :: ([.fieldLink RX6 33 "ModelCopiesModel" "slips" "[I", .methodLink RX6 102 yX6_isScribe, .static yX6_isScribe, .initialized RX6, .code yX6_isScribe cX6_isScribe 1 (some .boolean), .methodLink RX6 78 yX6_in, .static yX6_in, .code yX6_in cX6_in 3 (some .boolean), .methodLink RX6 95 yX6_goes, .instanceMethod yX6_goes, .selects RX6 yX6_goes yX6_goes, .code yX6_goes cX6_goes 4 (some .boolean), .fieldLink RX6 75 "ModelCopiesModel" "last" "I"] ++ wsX60)
def wsX6_family_r1 : List Cond := [Cond.fieldLink RX6 72 "ModelCopiesModel" "families" "[I", Cond.methodLink RX6 99 yX6_isCopy, Cond.instanceMethod yX6_isCopy, Cond.selects RX6 yX6_isCopy yX6_isCopy, Cond.initialized RX6, Cond.code yX6_isCopy cX6_isCopy 2 (some .boolean), Cond.fieldLink RX6 26 "ModelCopiesModel" "copies" "I", Cond.methodLink RX6 78 yX6_in, Cond.static yX6_in, Cond.code yX6_in cX6_in 3 (some .boolean), Cond.methodLink RX6 95 yX6_goes, Cond.instanceMethod yX6_goes, Cond.selects RX6 yX6_goes yX6_goes, Cond.code yX6_goes cX6_goes 4 (some .boolean), Cond.fieldLink RX6 75 "ModelCopiesModel" "last" "I", Cond.methodLink RX6 108 yX6_sorts, Cond.instanceMethod yX6_sorts, Cond.selects RX6 yX6_sorts yX6_sorts, Cond.code yX6_sorts cX6_sorts 4 none, Cond.methodLink RX6 132 yX6_areKin, Cond.instanceMethod yX6_areKin, Cond.selects RX6 yX6_areKin yX6_areKin, Cond.code yX6_areKin cX6_areKin 3 (some .boolean), Cond.fieldLink RX6 16 "ModelCopiesModel" "told" "[Z"]
def wsX6_family_r2 : List Cond := [Cond.fieldLink RX6 13 "ModelCopiesModel" "models" "[I", Cond.methodLink RX6 128 yX6_share, Cond.instanceMethod yX6_share, Cond.selects RX6 yX6_share yX6_share, Cond.code yX6_share cX6_share 6 (some .int), Cond.fieldLink RX6 7 "ModelCopiesModel" "readings" "[I"]
def wsX6_family : List Cond := .code yX6_family cX6_family 2 (some .int) :: ((wsX6_family_r1 ++ wsX6_family_r2) ++ wsX60)
def wsX6_familyByErrors_r1 : List Cond := [Cond.methodLink RX6 136 yX6_family, Cond.instanceMethod yX6_family, Cond.selects RX6 yX6_family yX6_family, Cond.initialized RX6, Cond.code yX6_family cX6_family 2 (some .int), Cond.fieldLink RX6 72 "ModelCopiesModel" "families" "[I", Cond.methodLink RX6 99 yX6_isCopy, Cond.instanceMethod yX6_isCopy, Cond.selects RX6 yX6_isCopy yX6_isCopy, Cond.code yX6_isCopy cX6_isCopy 2 (some .boolean), Cond.fieldLink RX6 26 "ModelCopiesModel" "copies" "I", Cond.methodLink RX6 78 yX6_in, Cond.static yX6_in, Cond.code yX6_in cX6_in 3 (some .boolean), Cond.methodLink RX6 95 yX6_goes, Cond.instanceMethod yX6_goes, Cond.selects RX6 yX6_goes yX6_goes, Cond.code yX6_goes cX6_goes 4 (some .boolean), Cond.fieldLink RX6 75 "ModelCopiesModel" "last" "I", Cond.methodLink RX6 108 yX6_sorts, Cond.instanceMethod yX6_sorts, Cond.selects RX6 yX6_sorts yX6_sorts, Cond.code yX6_sorts cX6_sorts 4 none, Cond.methodLink RX6 132 yX6_areKin]
def wsX6_familyByErrors_r2 : List Cond := [Cond.instanceMethod yX6_areKin, Cond.selects RX6 yX6_areKin yX6_areKin, Cond.code yX6_areKin cX6_areKin 3 (some .boolean), Cond.fieldLink RX6 16 "ModelCopiesModel" "told" "[Z", Cond.fieldLink RX6 13 "ModelCopiesModel" "models" "[I", Cond.methodLink RX6 128 yX6_share, Cond.instanceMethod yX6_share, Cond.selects RX6 yX6_share yX6_share, Cond.code yX6_share cX6_share 6 (some .int), Cond.fieldLink RX6 7 "ModelCopiesModel" "readings" "[I"]
def wsX6_familyByErrors : List Cond := .code yX6_familyByErrors cX6_familyByErrors 2 (some .int) :: ((wsX6_familyByErrors_r1 ++ wsX6_familyByErrors_r2) ++ wsX60)
def wsX6_families : List Cond := .code yX6_families cX6_families 3 (some .int) :: ([.fieldLink RX6 75 "ModelCopiesModel" "last" "I", .fieldLink RX6 26 "ModelCopiesModel" "copies" "I", .fieldLink RX6 72 "ModelCopiesModel" "families" "[I", .methodLink RX6 108 yX6_sorts, .instanceMethod yX6_sorts, .selects RX6 yX6_sorts yX6_sorts, .initialized RX6, .code yX6_sorts cX6_sorts 4 none, .methodLink RX6 132 yX6_areKin, .instanceMethod yX6_areKin, .selects RX6 yX6_areKin yX6_areKin, .code yX6_areKin cX6_areKin 3 (some .boolean), .fieldLink RX6 16 "ModelCopiesModel" "told" "[Z", .fieldLink RX6 13 "ModelCopiesModel" "models" "[I", .methodLink RX6 128 yX6_share, .instanceMethod yX6_share, .selects RX6 yX6_share yX6_share, .code yX6_share cX6_share 6 (some .int), .fieldLink RX6 7 "ModelCopiesModel" "readings" "[I"] ++ wsX60)
def wsX6_guesses : List Cond := .code yX6_guesses cX6_guesses 6 (some .int) :: ([.fieldLink RX6 16 "ModelCopiesModel" "told" "[Z", .fieldLink RX6 13 "ModelCopiesModel" "models" "[I", .methodLink RX6 128 yX6_share, .instanceMethod yX6_share, .selects RX6 yX6_share yX6_share, .initialized RX6, .code yX6_share cX6_share 6 (some .int), .fieldLink RX6 7 "ModelCopiesModel" "readings" "[I", .methodLink RX6 125 yX6_errorsOf, .instanceMethod yX6_errorsOf, .selects RX6 yX6_errorsOf yX6_errorsOf, .code yX6_errorsOf cX6_errorsOf 4 (some .int)] ++ wsX60)
def wsX6_guess_r1 : List Cond := [Cond.methodLink RX6 99 yX6_isCopy, Cond.instanceMethod yX6_isCopy, Cond.selects RX6 yX6_isCopy yX6_isCopy, Cond.initialized RX6, Cond.code yX6_isCopy cX6_isCopy 2 (some .boolean), Cond.fieldLink RX6 26 "ModelCopiesModel" "copies" "I", Cond.methodLink RX6 78 yX6_in, Cond.static yX6_in, Cond.code yX6_in cX6_in 3 (some .boolean), Cond.methodLink RX6 95 yX6_goes, Cond.instanceMethod yX6_goes, Cond.selects RX6 yX6_goes yX6_goes, Cond.code yX6_goes cX6_goes 4 (some .boolean), Cond.fieldLink RX6 75 "ModelCopiesModel" "last" "I", Cond.methodLink RX6 139 yX6_guesses, Cond.instanceMethod yX6_guesses, Cond.selects RX6 yX6_guesses yX6_guesses, Cond.code yX6_guesses cX6_guesses 6 (some .int), Cond.fieldLink RX6 16 "ModelCopiesModel" "told" "[Z", Cond.fieldLink RX6 13 "ModelCopiesModel" "models" "[I", Cond.methodLink RX6 128 yX6_share, Cond.instanceMethod yX6_share, Cond.selects RX6 yX6_share yX6_share, Cond.code yX6_share cX6_share 6 (some .int)]
def wsX6_guess_r2 : List Cond := [Cond.fieldLink RX6 7 "ModelCopiesModel" "readings" "[I", Cond.methodLink RX6 125 yX6_errorsOf, Cond.instanceMethod yX6_errorsOf, Cond.selects RX6 yX6_errorsOf yX6_errorsOf, Cond.code yX6_errorsOf cX6_errorsOf 4 (some .int)]
def wsX6_guess : List Cond := .code yX6_guess cX6_guess 2 (some .int) :: ((wsX6_guess_r1 ++ wsX6_guess_r2) ++ wsX60)
def wsX6_rightGuesses : List Cond := .code yX6_rightGuesses cX6_rightGuesses 3 (some .int) :: ([.fieldLink RX6 75 "ModelCopiesModel" "last" "I", .fieldLink RX6 26 "ModelCopiesModel" "copies" "I", .fieldLink RX6 13 "ModelCopiesModel" "models" "[I", .methodLink RX6 139 yX6_guesses, .instanceMethod yX6_guesses, .selects RX6 yX6_guesses yX6_guesses, .initialized RX6, .code yX6_guesses cX6_guesses 6 (some .int), .fieldLink RX6 16 "ModelCopiesModel" "told" "[Z", .methodLink RX6 128 yX6_share, .instanceMethod yX6_share, .selects RX6 yX6_share yX6_share, .code yX6_share cX6_share 6 (some .int), .fieldLink RX6 7 "ModelCopiesModel" "readings" "[I", .methodLink RX6 125 yX6_errorsOf, .instanceMethod yX6_errorsOf, .selects RX6 yX6_errorsOf yX6_errorsOf, .code yX6_errorsOf cX6_errorsOf 4 (some .int)] ++ wsX60)
def wsX6_isError : List Cond := .code yX6_isError cX6_isError 3 (some .boolean) :: ([.methodLink RX6 88 yX6_isPlace, .static yX6_isPlace, .initialized RX6, .code yX6_isPlace cX6_isPlace 1 (some .boolean), .methodLink RX6 78 yX6_in, .static yX6_in, .code yX6_in cX6_in 3 (some .boolean), .methodLink RX6 95 yX6_goes, .instanceMethod yX6_goes, .selects RX6 yX6_goes yX6_goes, .code yX6_goes cX6_goes 4 (some .boolean), .fieldLink RX6 75 "ModelCopiesModel" "last" "I"] ++ wsX60)
def wsX6_spread : List Cond := .code yX6_spread cX6_spread 6 (some .int) :: ([.fieldLink RX6 26 "ModelCopiesModel" "copies" "I", .fieldLink RX6 7 "ModelCopiesModel" "readings" "[I", .methodLink RX6 142 yX6_isError, .instanceMethod yX6_isError, .selects RX6 yX6_isError yX6_isError, .initialized RX6, .code yX6_isError cX6_isError 3 (some .boolean), .methodLink RX6 88 yX6_isPlace, .static yX6_isPlace, .code yX6_isPlace cX6_isPlace 1 (some .boolean), .methodLink RX6 78 yX6_in, .static yX6_in, .code yX6_in cX6_in 3 (some .boolean), .methodLink RX6 95 yX6_goes, .instanceMethod yX6_goes, .selects RX6 yX6_goes yX6_goes, .code yX6_goes cX6_goes 4 (some .boolean), .fieldLink RX6 75 "ModelCopiesModel" "last" "I"] ++ wsX60)
def wsX6_sources_r1 : List Cond := [Cond.fieldLink RX6 26 "ModelCopiesModel" "copies" "I", Cond.fieldLink RX6 7 "ModelCopiesModel" "readings" "[I", Cond.methodLink RX6 142 yX6_isError, Cond.instanceMethod yX6_isError, Cond.selects RX6 yX6_isError yX6_isError, Cond.initialized RX6, Cond.code yX6_isError cX6_isError 3 (some .boolean), Cond.methodLink RX6 88 yX6_isPlace, Cond.static yX6_isPlace, Cond.code yX6_isPlace cX6_isPlace 1 (some .boolean), Cond.methodLink RX6 78 yX6_in, Cond.static yX6_in, Cond.code yX6_in cX6_in 3 (some .boolean), Cond.methodLink RX6 95 yX6_goes, Cond.instanceMethod yX6_goes, Cond.selects RX6 yX6_goes yX6_goes, Cond.code yX6_goes cX6_goes 4 (some .boolean), Cond.fieldLink RX6 75 "ModelCopiesModel" "last" "I", Cond.methodLink RX6 139 yX6_guesses, Cond.instanceMethod yX6_guesses, Cond.selects RX6 yX6_guesses yX6_guesses, Cond.code yX6_guesses cX6_guesses 6 (some .int), Cond.fieldLink RX6 16 "ModelCopiesModel" "told" "[Z", Cond.fieldLink RX6 13 "ModelCopiesModel" "models" "[I"]
def wsX6_sources_r2 : List Cond := [Cond.methodLink RX6 128 yX6_share, Cond.instanceMethod yX6_share, Cond.selects RX6 yX6_share yX6_share, Cond.code yX6_share cX6_share 6 (some .int), Cond.methodLink RX6 125 yX6_errorsOf, Cond.instanceMethod yX6_errorsOf, Cond.selects RX6 yX6_errorsOf yX6_errorsOf, Cond.code yX6_errorsOf cX6_errorsOf 4 (some .int)]
def wsX6_sources : List Cond := .code yX6_sources cX6_sources 7 (some .int) :: ((wsX6_sources_r1 ++ wsX6_sources_r2) ++ wsX60)
def wsX6_letters : List Cond := .code yX6_letters cX6_letters 1 (some .int) :: ([.fieldLink RX6 75 "ModelCopiesModel" "last" "I", .fieldLink RX6 82 "ModelCopiesModel" "letters" "I"] ++ wsX60)
def wsX6_hasLetter : List Cond := .code yX6_hasLetter cX6_hasLetter 3 (some .boolean) :: ([.fieldLink RX6 45 "ModelCopiesModel" "has" "[Z", .methodLink RX6 105 yX6_isHouse, .static yX6_isHouse, .initialized RX6, .code yX6_isHouse cX6_isHouse 1 (some .boolean), .methodLink RX6 78 yX6_in, .static yX6_in, .code yX6_in cX6_in 3 (some .boolean), .methodLink RX6 145 yX6_isLetter, .instanceMethod yX6_isLetter, .selects RX6 yX6_isLetter yX6_isLetter, .code yX6_isLetter cX6_isLetter 2 (some .boolean), .fieldLink RX6 82 "ModelCopiesModel" "letters" "I", .methodLink RX6 95 yX6_goes, .instanceMethod yX6_goes, .selects RX6 yX6_goes yX6_goes, .code yX6_goes cX6_goes 4 (some .boolean), .fieldLink RX6 75 "ModelCopiesModel" "last" "I"] ++ wsX60)
def wsX6_letter : List Cond := .code yX6_letter cX6_letter 2 (some .int) :: ([.fieldLink RX6 36 "ModelCopiesModel" "spots" "[I", .fieldLink RX6 39 "ModelCopiesModel" "olds" "[I", .fieldLink RX6 42 "ModelCopiesModel" "news" "[I", .methodLink RX6 145 yX6_isLetter, .instanceMethod yX6_isLetter, .selects RX6 yX6_isLetter yX6_isLetter, .initialized RX6, .code yX6_isLetter cX6_isLetter 2 (some .boolean), .fieldLink RX6 82 "ModelCopiesModel" "letters" "I", .methodLink RX6 78 yX6_in, .static yX6_in, .code yX6_in cX6_in 3 (some .boolean), .methodLink RX6 95 yX6_goes, .instanceMethod yX6_goes, .selects RX6 yX6_goes yX6_goes, .code yX6_goes cX6_goes 4 (some .boolean), .fieldLink RX6 75 "ModelCopiesModel" "last" "I"] ++ wsX60)
def wsX6_loans : List Cond := .code yX6_loans cX6_loans 1 (some .int) :: ([.fieldLink RX6 75 "ModelCopiesModel" "last" "I", .fieldLink RX6 85 "ModelCopiesModel" "loans" "I"] ++ wsX60)
def wsX6_isBack : List Cond := .code yX6_isBack cX6_isBack 2 (some .boolean) :: ([.fieldLink RX6 63 "ModelCopiesModel" "back" "[Z", .methodLink RX6 118 yX6_isLoan, .instanceMethod yX6_isLoan, .selects RX6 yX6_isLoan yX6_isLoan, .initialized RX6, .code yX6_isLoan cX6_isLoan 2 (some .boolean), .fieldLink RX6 85 "ModelCopiesModel" "loans" "I", .methodLink RX6 78 yX6_in, .static yX6_in, .code yX6_in cX6_in 3 (some .boolean), .methodLink RX6 95 yX6_goes, .instanceMethod yX6_goes, .selects RX6 yX6_goes yX6_goes, .code yX6_goes cX6_goes 4 (some .boolean), .fieldLink RX6 75 "ModelCopiesModel" "last" "I"] ++ wsX60)
def wsX6_late : List Cond := .code yX6_late cX6_late 2 (some .int) :: ([.fieldLink RX6 63 "ModelCopiesModel" "back" "[Z", .fieldLink RX6 60 "ModelCopiesModel" "lates" "[I", .methodLink RX6 118 yX6_isLoan, .instanceMethod yX6_isLoan, .selects RX6 yX6_isLoan yX6_isLoan, .initialized RX6, .code yX6_isLoan cX6_isLoan 2 (some .boolean), .fieldLink RX6 85 "ModelCopiesModel" "loans" "I", .methodLink RX6 78 yX6_in, .static yX6_in, .code yX6_in cX6_in 3 (some .boolean), .methodLink RX6 95 yX6_goes, .instanceMethod yX6_goes, .selects RX6 yX6_goes yX6_goes, .code yX6_goes cX6_goes 4 (some .boolean), .fieldLink RX6 75 "ModelCopiesModel" "last" "I", .methodLink RX6 121 yX6_lateNow, .instanceMethod yX6_lateNow, .selects RX6 yX6_lateNow yX6_lateNow, .code yX6_lateNow cX6_lateNow 2 (some .int), .fieldLink RX6 111 "ModelCopiesModel" "day" "I", .fieldLink RX6 54 "ModelCopiesModel" "lasts" "[I"] ++ wsX60)
def wsX6_coins : List Cond := .code yX6_coins cX6_coins 2 (some .int) :: ([.fieldLink RX6 66 "ModelCopiesModel" "coins" "[I", .methodLink RX6 105 yX6_isHouse, .static yX6_isHouse, .initialized RX6, .code yX6_isHouse cX6_isHouse 1 (some .boolean), .methodLink RX6 78 yX6_in, .static yX6_in, .code yX6_in cX6_in 3 (some .boolean), .methodLink RX6 95 yX6_goes, .instanceMethod yX6_goes, .selects RX6 yX6_goes yX6_goes, .code yX6_goes cX6_goes 4 (some .boolean), .fieldLink RX6 75 "ModelCopiesModel" "last" "I"] ++ wsX60)
def wsX6_laidDown : List Cond := .code yX6_laidDown cX6_laidDown 2 (some .int) :: ([.fieldLink RX6 69 "ModelCopiesModel" "laid" "[I", .methodLink RX6 105 yX6_isHouse, .static yX6_isHouse, .initialized RX6, .code yX6_isHouse cX6_isHouse 1 (some .boolean), .methodLink RX6 78 yX6_in, .static yX6_in, .code yX6_in cX6_in 3 (some .boolean), .methodLink RX6 95 yX6_goes, .instanceMethod yX6_goes, .selects RX6 yX6_goes yX6_goes, .code yX6_goes cX6_goes 4 (some .boolean), .fieldLink RX6 75 "ModelCopiesModel" "last" "I"] ++ wsX60)
def wsJ9_max_7cf53 : List Cond := .code yJ9_max_7cf53 cJ9_max_7cf53 2 (some .int) :: ([])
def wsJ9_min_7cf53 : List Cond := .code yJ9_min_7cf53 cJ9_min_7cf53 2 (some .int) :: ([])
def wsL_slip_r1 : List Cond := [Cond.classLink RL 13 "java/lang/IndexOutOfBoundsException", Cond.methodLink RL 7 yX5_slip, Cond.instanceMethod yX5_slip, Cond.selects RX5 yX5_slip yX5_slip, Cond.initialized RX5, Cond.code yX5_slip cX5_slip 3 (some .int), Cond.classLink RX5 57 "java/lang/IllegalArgumentException", Cond.initialized "java/lang/IllegalArgumentException", Cond.classLink RX5 68 "java/lang/IllegalStateException", Cond.initialized "java/lang/IllegalStateException", Cond.fieldLink RX5 32 "ModelCopies" "draft" "LModelCopies$Draft;", Cond.fieldLink RX5 77 "ModelCopies$Draft" "filled" "I", Cond.methodLink RX5 54 yX5_requirePlace, Cond.static yX5_requirePlace, Cond.code yX5_requirePlace cX5_requirePlace 1 none, Cond.classLink RX5 284 "java/lang/IndexOutOfBoundsException", Cond.initialized "java/lang/IndexOutOfBoundsException", Cond.methodLink RX5 64 yX1_hasRoomAt, Cond.instanceMethod yX1_hasRoomAt, Cond.selects RX1 yX1_hasRoomAt yX1_hasRoomAt, Cond.initialized RX1, Cond.code yX1_hasRoomAt cX1_hasRoomAt 2 (some .boolean), Cond.fieldLink RX1 15 "ModelCopies$Draft" "filled" "I", Cond.methodLink RX1 25 yX1_isFilled]
def wsL_slip_r2 : List Cond := [Cond.instanceMethod yX1_isFilled, Cond.selects RX1 yX1_isFilled yX1_isFilled, Cond.code yX1_isFilled cX1_isFilled 2 (some .boolean), Cond.fieldLink RX1 9 "ModelCopies$Draft" "readings" "[I", Cond.methodLink RX5 73 yX1_put, Cond.instanceMethod yX1_put, Cond.selects RX1 yX1_put yX1_put, Cond.code yX1_put cX1_put 3 none]
def wsL_slip : List Cond := .codeWith yL_slip cL_slip 5 (some .int) [(0, 10, 13, 13), (0, 10, 17, 15), (0, 10, 21, 17)] :: ((wsL_slip_r1 ++ wsL_slip_r2) ++ wsX50 ++ wsX10 ++ (vx_atS RX5 61 "java/lang/IllegalArgumentException" ["java/lang/RuntimeException", "java/lang/Exception"]).filter goodWord ++ (vx_atS RX5 72 "java/lang/IllegalStateException" ["java/lang/RuntimeException", "java/lang/Exception"]).filter goodWord ++ (vx_atS RX5 288 "java/lang/IndexOutOfBoundsException" ["java/lang/RuntimeException", "java/lang/Exception"]).filter goodWord)
def wsL_copy_r1 : List Cond := [Cond.classLink RL 13 "java/lang/IndexOutOfBoundsException", Cond.methodLink RL 19 yX5_copy, Cond.instanceMethod yX5_copy, Cond.selects RX5 yX5_copy yX5_copy, Cond.initialized RX5, Cond.code yX5_copy cX5_copy 8 (some .int), Cond.classLink RX5 68 "java/lang/IllegalStateException", Cond.initialized "java/lang/IllegalStateException", Cond.fieldLink RX5 91 "ModelCopies$Copy" "house" "LModelCopies$House;", Cond.fieldLink RX5 16 "ModelCopies" "copies" "Ljava/util/ArrayList;", Cond.classLink RX5 49 RX0, Cond.instantiable RX0 7, Cond.initialized RX0, Cond.fieldLink RX5 103 "ModelCopies$Copy" "isTold" "Z", Cond.fieldLink RX5 25 "ModelCopies" "slipsByScribe" "[I", Cond.fieldLink RX5 32 "ModelCopies" "draft" "LModelCopies$Draft;", Cond.fieldLink RX5 118 "ModelCopies$Copy" "number" "I", Cond.methodLink RX5 80 yX5_findCopy, Cond.instanceMethod yX5_findCopy, Cond.selects RX5 yX5_findCopy yX5_findCopy, Cond.code yX5_findCopy cX5_findCopy 2 (some (.object "ModelCopies$Copy")), Cond.classLink RX5 284 "java/lang/IndexOutOfBoundsException", Cond.initialized "java/lang/IndexOutOfBoundsException", Cond.classLink RX5 49 "ModelCopies$Copy"]
def wsL_copy_r2 : List Cond := [Cond.methodLink RX5 97 yJx4a65c_size_8abf5, Cond.instanceMethod yJx4a65c_size_8abf5, Cond.selects RJx4a65c yJx4a65c_size_8abf5 yJx4a65c_size_8abf5, Cond.initialized RJx4a65c, Cond.code yJx4a65c_size_8abf5 cJx4a65c_size_8abf5 1 (some .int), Cond.fieldLink RJx4a65c 48 "java/util/ArrayList" "size" "I", Cond.methodLink RX5 162 yJx4a65c_get_915e3, Cond.instanceMethod yJx4a65c_get_915e3, Cond.selects RJx4a65c yJx4a65c_get_915e3 yJx4a65c_get_915e3, Cond.code yJx4a65c_get_915e3 cJx4a65c_get_915e3 2 (some (.object "java/lang/Object")), Cond.methodLink RJx4a65c 118 yJ15_checkIndex_7cf53, Cond.static yJ15_checkIndex_7cf53, Cond.initialized RJ15, Cond.code yJ15_checkIndex_7cf53 cJ15_checkIndex_7cf53 2 (some .int), Cond.methodLink RJ15 105 yJ3_checkIndex_8e157, Cond.static yJ3_checkIndex_8e157, Cond.initialized RJ3, Cond.code yJ3_checkIndex_8e157 cJ3_checkIndex_8e157 3 (some .int), Cond.methodLink RJx4a65c 123 yJx4a65c_elementData_915e3, Cond.instanceMethod yJx4a65c_elementData_915e3, Cond.selects RJx4a65c yJx4a65c_elementData_915e3 yJx4a65c_elementData_915e3, Cond.code yJx4a65c_elementData_915e3 cJx4a65c_elementData_915e3 2 (some (.object "java/lang/Object")), Cond.fieldLink RJx4a65c 9 "java/util/ArrayList" "elementData" "[Ljava/lang/Object;", Cond.methodLink RX5 84 yX5_requireScribe]
def wsL_copy_r3 : List Cond := [Cond.static yX5_requireScribe, Cond.code yX5_requireScribe cX5_requireScribe 1 none, Cond.methodLink RX5 87 yX5_findHouse, Cond.instanceMethod yX5_findHouse, Cond.selects RX5 yX5_findHouse yX5_findHouse, Cond.code yX5_findHouse cX5_findHouse 2 (some (.object "ModelCopies$House")), Cond.fieldLink RX5 10 "ModelCopies" "houses" "Ljava/util/ArrayList;", Cond.classLink RX5 40 "ModelCopies$House", Cond.methodLink RX5 51 yX0_init, Cond.instanceMethod yX0_init, Cond.code yX0_init cX0_init 4 none, Cond.methodLink RX0 3 objectInit, Cond.instanceMethod objectInit, Cond.code objectInit ⟨#[0xb1]⟩ 1 none, Cond.arrayClass .int, Cond.fieldLink RX0 9 "ModelCopies$Copy" "readings" "[I", Cond.fieldLink RX0 15 "ModelCopies$Copy" "isTold" "Z", Cond.fieldLink RX0 19 "ModelCopies$Copy" "number" "I", Cond.fieldLink RX0 23 "ModelCopies$Copy" "model" "LModelCopies$Copy;", Cond.fieldLink RX0 27 "ModelCopies$Copy" "owner" "LModelCopies$House;", Cond.fieldLink RX0 31 "ModelCopies$Copy" "house" "LModelCopies$House;", Cond.fieldLink RX0 34 "ModelCopies$Copy" "family" "I", Cond.methodLink RX0 37 arraycopyName, Cond.native arraycopyName]
def wsL_copy_r4 : List Cond := [Cond.static arraycopyName, Cond.initialized "java/lang/System", Cond.methodLink RX5 107 yX1_writeInto, Cond.instanceMethod yX1_writeInto, Cond.selects RX1 yX1_writeInto yX1_writeInto, Cond.initialized RX1, Cond.code yX1_writeInto cX1_writeInto 4 (some .int), Cond.fieldLink RX1 29 "ModelCopies$Copy" "readings" "[I", Cond.fieldLink RX1 9 "ModelCopies$Draft" "readings" "[I", Cond.methodLink RX1 25 yX1_isFilled, Cond.instanceMethod yX1_isFilled, Cond.selects RX1 yX1_isFilled yX1_isFilled, Cond.code yX1_isFilled cX1_isFilled 2 (some .boolean), Cond.methodLink RX5 111 yX1_clear, Cond.instanceMethod yX1_clear, Cond.selects RX1 yX1_clear yX1_clear, Cond.code yX1_clear cX1_clear 1 none, Cond.fieldLink RX1 15 "ModelCopies$Draft" "filled" "I", Cond.methodLink RX1 19 yJ7_fill_53178, Cond.static yJ7_fill_53178, Cond.initialized RJ7, Cond.code yJ7_fill_53178 cJ7_fill_53178 4 none, Cond.methodLink RX5 45 yJx4a65c_add_9ea2d, Cond.instanceMethod yJx4a65c_add_9ea2d]
def wsL_copy_r5 : List Cond := [Cond.selects RJx4a65c yJx4a65c_add_9ea2d yJx4a65c_add_9ea2d, Cond.code yJx4a65c_add_9ea2d cJx4a65c_add_9ea2d 2 (some .boolean), Cond.fieldLink RJx4a65c 63 "java/util/ArrayList" "modCount" "I", Cond.sameField "java/util/ArrayList" "java/util/AbstractList" "modCount" "I", Cond.methodLink RJx4a65c 131 yJx4a65c_add_72be8, Cond.instanceMethod yJx4a65c_add_72be8, Cond.selects RJx4a65c yJx4a65c_add_72be8 yJx4a65c_add_72be8, Cond.code yJx4a65c_add_72be8 cJx4a65c_add_72be8 4 none, Cond.methodLink RJx4a65c 129 yJx4a65c_grow_d5877, Cond.instanceMethod yJx4a65c_grow_d5877, Cond.selects RJx4a65c yJx4a65c_grow_d5877 yJx4a65c_grow_d5877, Cond.code yJx4a65c_grow_d5877 cJx4a65c_grow_d5877 1 (some (.array (.object "java/lang/Object"))), Cond.methodLink RJx4a65c 69 yJx4a65c_grow_92f84, Cond.instanceMethod yJx4a65c_grow_92f84, Cond.selects RJx4a65c yJx4a65c_grow_92f84 yJx4a65c_grow_92f84, Cond.code yJx4a65c_grow_92f84 cJx4a65c_grow_92f84 4 (some (.array (.object "java/lang/Object"))), Cond.fieldLink RJx4a65c 39 "java/util/ArrayList" "DEFAULTCAPACITY_EMPTY_ELEMENTDATA" "[Ljava/lang/Object;", Cond.methodLink RJx4a65c 79 Lib.Math.max.name, Cond.static Lib.Math.max.name, Cond.initialized "java/lang/Math", Cond.code Lib.Math.max.name Lib.Math.max.code 2 (some .int), Cond.classLink RJx4a65c 7 "java/lang/Object", Cond.methodLink RJx4a65c 73 yJ8_newLength_cabcc, Cond.static yJ8_newLength_cabcc]
def wsL_copy_r6 : List Cond := [Cond.initialized RJ8, Cond.code yJ8_newLength_cabcc cJ8_newLength_cabcc 4 (some .int), Cond.methodLink RJ8 194 Lib.Math.max.name, Cond.constant RJ8 200 (2147483639), Cond.methodLink RJ8 201 yJ8_hugeLength_7cf53, Cond.static yJ8_hugeLength_7cf53, Cond.code yJ8_hugeLength_7cf53 cJ8_hugeLength_7cf53 3 (some .int), Cond.methodLink RJx4a65c 66 yJ7_copyOf_1904c, Cond.static yJ7_copyOf_1904c, Cond.code yJ7_copyOf_1904c cJ7_copyOf_1904c 2 (some (.array (.object "java/lang/Object"))), Cond.methodLink RJ7 86 ⟨"java/lang/Object", "getClass", "()Ljava/lang/Class;"⟩, Cond.selects "[Ljava/lang/Object;" ⟨"java/lang/Object", "getClass", "()Ljava/lang/Class;"⟩ ⟨"java/lang/Object", "getClass", "()Ljava/lang/Class;"⟩, Cond.instanceMethod ⟨"java/lang/Object", "getClass", "()Ljava/lang/Class;"⟩, Cond.native ⟨"java/lang/Object", "getClass", "()Ljava/lang/Class;"⟩, Cond.methodLink RJ7 300 yJ7_copyOf_6403c, Cond.static yJ7_copyOf_6403c, Cond.code yJ7_copyOf_6403c cJ7_copyOf_6403c 4 (some (.array (.object "java/lang/Object"))), Cond.classLink RJ7 110 "[Ljava/lang/Object;", Cond.classLink RJ7 2 "java/lang/Object", Cond.methodLink RJ7 304 Lib.Math.min.name, Cond.static Lib.Math.min.name, Cond.code Lib.Math.min.name Lib.Math.min.code 2 (some .int), Cond.methodLink RJ7 150 arraycopyName, Cond.methodLink RX5 114 yX5_enterFamily]
def wsL_copy_r7 : List Cond := [Cond.instanceMethod yX5_enterFamily, Cond.selects RX5 yX5_enterFamily yX5_enterFamily, Cond.code yX5_enterFamily cX5_enterFamily 4 none, Cond.fieldLink RX5 127 "ModelCopies$Copy" "family" "I", Cond.methodLink RX5 301 yX0_isKinOf, Cond.instanceMethod yX0_isKinOf, Cond.selects RX0 yX0_isKinOf yX0_isKinOf, Cond.code yX0_isKinOf cX0_isKinOf 2 (some .boolean), Cond.methodLink RX0 43 yX0_modelIfTold, Cond.instanceMethod yX0_modelIfTold, Cond.selects RX0 yX0_modelIfTold yX0_modelIfTold, Cond.code yX0_modelIfTold cX0_modelIfTold 1 (some (.object "ModelCopies$Copy")), Cond.methodLink RX0 47 yX0_countSharedWith, Cond.instanceMethod yX0_countSharedWith, Cond.selects RX0 yX0_countSharedWith yX0_countSharedWith, Cond.code yX0_countSharedWith cX0_countSharedWith 4 (some .int), Cond.methodLink RX5 130 yX5_joinFamilies, Cond.instanceMethod yX5_joinFamilies, Cond.selects RX5 yX5_joinFamilies yX5_joinFamilies, Cond.code yX5_joinFamilies cX5_joinFamilies 7 none, Cond.methodLink RX5 304 Lib.Math.min.name, Cond.methodLink RX5 310 Lib.Math.max.name]
def wsL_copy : List Cond := .codeWith yL_copy cL_copy 7 (some .int) [(0, 14, 17, 13), (0, 14, 21, 17)] :: ((wsL_copy_r1 ++ (wsL_copy_r2 ++ (wsL_copy_r3 ++ (wsL_copy_r4 ++ (wsL_copy_r5 ++ (wsL_copy_r6 ++ wsL_copy_r7)))))) ++ wsX00 ++ wsX50 ++ wsJx4a65c0 ++ wsX10 ++ (vx_atS RX5 72 "java/lang/IllegalStateException" ["java/lang/RuntimeException", "java/lang/Exception"]).filter goodWord ++ (vx_atS RX5 288 "java/lang/IndexOutOfBoundsException" ["java/lang/RuntimeException", "java/lang/Exception"]).filter goodWord)
def wsL_tellModel_r1 : List Cond := [Cond.classLink RL 13 "java/lang/IndexOutOfBoundsException", Cond.methodLink RL 23 yX5_tellModel, Cond.instanceMethod yX5_tellModel, Cond.selects RX5 yX5_tellModel yX5_tellModel, Cond.initialized RX5, Cond.code yX5_tellModel cX5_tellModel 3 (some .int), Cond.classLink RX5 68 "java/lang/IllegalStateException", Cond.initialized "java/lang/IllegalStateException", Cond.fieldLink RX5 121 "ModelCopies$Copy" "model" "LModelCopies$Copy;", Cond.fieldLink RX5 103 "ModelCopies$Copy" "isTold" "Z", Cond.fieldLink RX5 127 "ModelCopies$Copy" "family" "I", Cond.methodLink RX5 80 yX5_findCopy, Cond.instanceMethod yX5_findCopy, Cond.selects RX5 yX5_findCopy yX5_findCopy, Cond.code yX5_findCopy cX5_findCopy 2 (some (.object "ModelCopies$Copy")), Cond.classLink RX5 284 "java/lang/IndexOutOfBoundsException", Cond.initialized "java/lang/IndexOutOfBoundsException", Cond.fieldLink RX5 16 "ModelCopies" "copies" "Ljava/util/ArrayList;", Cond.classLink RX5 49 "ModelCopies$Copy", Cond.methodLink RX5 97 yJx4a65c_size_8abf5, Cond.instanceMethod yJx4a65c_size_8abf5, Cond.selects RJx4a65c yJx4a65c_size_8abf5 yJx4a65c_size_8abf5, Cond.initialized RJx4a65c, Cond.code yJx4a65c_size_8abf5 cJx4a65c_size_8abf5 1 (some .int)]
def wsL_tellModel_r2 : List Cond := [Cond.fieldLink RJx4a65c 48 "java/util/ArrayList" "size" "I", Cond.methodLink RX5 162 yJx4a65c_get_915e3, Cond.instanceMethod yJx4a65c_get_915e3, Cond.selects RJx4a65c yJx4a65c_get_915e3 yJx4a65c_get_915e3, Cond.code yJx4a65c_get_915e3 cJx4a65c_get_915e3 2 (some (.object "java/lang/Object")), Cond.methodLink RJx4a65c 118 yJ15_checkIndex_7cf53, Cond.static yJ15_checkIndex_7cf53, Cond.initialized RJ15, Cond.code yJ15_checkIndex_7cf53 cJ15_checkIndex_7cf53 2 (some .int), Cond.methodLink RJ15 105 yJ3_checkIndex_8e157, Cond.static yJ3_checkIndex_8e157, Cond.initialized RJ3, Cond.code yJ3_checkIndex_8e157 cJ3_checkIndex_8e157 3 (some .int), Cond.methodLink RJx4a65c 123 yJx4a65c_elementData_915e3, Cond.instanceMethod yJx4a65c_elementData_915e3, Cond.selects RJx4a65c yJx4a65c_elementData_915e3 yJx4a65c_elementData_915e3, Cond.code yJx4a65c_elementData_915e3 cJx4a65c_elementData_915e3 2 (some (.object "java/lang/Object")), Cond.fieldLink RJx4a65c 9 "java/util/ArrayList" "elementData" "[Ljava/lang/Object;", Cond.methodLink RX5 130 yX5_joinFamilies, Cond.instanceMethod yX5_joinFamilies, Cond.selects RX5 yX5_joinFamilies yX5_joinFamilies, Cond.code yX5_joinFamilies cX5_joinFamilies 7 none, Cond.methodLink RX5 304 Lib.Math.min.name, Cond.static Lib.Math.min.name]
def wsL_tellModel_r3 : List Cond := [Cond.initialized "java/lang/Math", Cond.code Lib.Math.min.name Lib.Math.min.code 2 (some .int), Cond.methodLink RX5 310 Lib.Math.max.name, Cond.static Lib.Math.max.name, Cond.code Lib.Math.max.name Lib.Math.max.code 2 (some .int)]
def wsL_tellModel : List Cond := .codeWith yL_tellModel cL_tellModel 4 (some .int) [(0, 9, 12, 13), (0, 9, 15, 17)] :: ((wsL_tellModel_r1 ++ (wsL_tellModel_r2 ++ wsL_tellModel_r3)) ++ wsX00 ++ wsX50 ++ wsJx4a65c0 ++ (vx_atS RX5 72 "java/lang/IllegalStateException" ["java/lang/RuntimeException", "java/lang/Exception"]).filter goodWord ++ (vx_atS RX5 288 "java/lang/IndexOutOfBoundsException" ["java/lang/RuntimeException", "java/lang/Exception"]).filter goodWord)
def wsL_pass : List Cond := .codeWith yL_pass cL_pass 4 (some .int) [(0, 9, 12, 15), (0, 9, 15, 17)] :: ([.classLink RL 15 "java/lang/IllegalArgumentException", .methodLink RL 27 yX5_pass, .instanceMethod yX5_pass, .selects RX5 yX5_pass yX5_pass, .initialized RX5, .code yX5_pass cX5_pass 2 (some .int), .classLink RX5 57 "java/lang/IllegalArgumentException", .initialized "java/lang/IllegalArgumentException", .classLink RX5 68 "java/lang/IllegalStateException", .initialized "java/lang/IllegalStateException", .fieldLink RX5 36 "ModelCopies" "today" "I"] ++ wsX50 ++ (vx_atS RX5 61 "java/lang/IllegalArgumentException" ["java/lang/RuntimeException", "java/lang/Exception"]).filter goodWord ++ (vx_atS RX5 72 "java/lang/IllegalStateException" ["java/lang/RuntimeException", "java/lang/Exception"]).filter goodWord)
def wsL_correct_r1 : List Cond := [Cond.classLink RL 13 "java/lang/IndexOutOfBoundsException", Cond.methodLink RL 30 yX5_correct, Cond.instanceMethod yX5_correct, Cond.selects RX5 yX5_correct yX5_correct, Cond.initialized RX5, Cond.code yX5_correct cX5_correct 11 (some .int), Cond.classLink RX5 68 "java/lang/IllegalStateException", Cond.initialized "java/lang/IllegalStateException", Cond.fieldLink RX5 91 "ModelCopies$Copy" "house" "LModelCopies$House;", Cond.fieldLink RX5 139 "ModelCopies$Copy" "readings" "[I", Cond.fieldLink RX5 19 "ModelCopies" "letters" "Ljava/util/ArrayList;", Cond.classLink RX5 146 RX3, Cond.instantiable RX3 3, Cond.initialized RX3, Cond.methodLink RX5 87 yX5_findHouse, Cond.instanceMethod yX5_findHouse, Cond.selects RX5 yX5_findHouse yX5_findHouse, Cond.code yX5_findHouse cX5_findHouse 2 (some (.object "ModelCopies$House")), Cond.classLink RX5 284 "java/lang/IndexOutOfBoundsException", Cond.initialized "java/lang/IndexOutOfBoundsException", Cond.fieldLink RX5 10 "ModelCopies" "houses" "Ljava/util/ArrayList;", Cond.classLink RX5 40 "ModelCopies$House", Cond.methodLink RX5 97 yJx4a65c_size_8abf5, Cond.instanceMethod yJx4a65c_size_8abf5]
def wsL_correct_r2 : List Cond := [Cond.selects RJx4a65c yJx4a65c_size_8abf5 yJx4a65c_size_8abf5, Cond.initialized RJx4a65c, Cond.code yJx4a65c_size_8abf5 cJx4a65c_size_8abf5 1 (some .int), Cond.fieldLink RJx4a65c 48 "java/util/ArrayList" "size" "I", Cond.methodLink RX5 162 yJx4a65c_get_915e3, Cond.instanceMethod yJx4a65c_get_915e3, Cond.selects RJx4a65c yJx4a65c_get_915e3 yJx4a65c_get_915e3, Cond.code yJx4a65c_get_915e3 cJx4a65c_get_915e3 2 (some (.object "java/lang/Object")), Cond.methodLink RJx4a65c 118 yJ15_checkIndex_7cf53, Cond.static yJ15_checkIndex_7cf53, Cond.initialized RJ15, Cond.code yJ15_checkIndex_7cf53 cJ15_checkIndex_7cf53 2 (some .int), Cond.methodLink RJ15 105 yJ3_checkIndex_8e157, Cond.static yJ3_checkIndex_8e157, Cond.initialized RJ3, Cond.code yJ3_checkIndex_8e157 cJ3_checkIndex_8e157 3 (some .int), Cond.methodLink RJx4a65c 123 yJx4a65c_elementData_915e3, Cond.instanceMethod yJx4a65c_elementData_915e3, Cond.selects RJx4a65c yJx4a65c_elementData_915e3 yJx4a65c_elementData_915e3, Cond.code yJx4a65c_elementData_915e3 cJx4a65c_elementData_915e3 2 (some (.object "java/lang/Object")), Cond.fieldLink RJx4a65c 9 "java/util/ArrayList" "elementData" "[Ljava/lang/Object;", Cond.methodLink RX5 80 yX5_findCopy, Cond.instanceMethod yX5_findCopy, Cond.selects RX5 yX5_findCopy yX5_findCopy]
def wsL_correct_r3 : List Cond := [Cond.code yX5_findCopy cX5_findCopy 2 (some (.object "ModelCopies$Copy")), Cond.fieldLink RX5 16 "ModelCopies" "copies" "Ljava/util/ArrayList;", Cond.classLink RX5 49 "ModelCopies$Copy", Cond.methodLink RX5 54 yX5_requirePlace, Cond.static yX5_requirePlace, Cond.code yX5_requirePlace cX5_requirePlace 1 none, Cond.methodLink RX5 148 yX3_init, Cond.instanceMethod yX3_init, Cond.code yX3_init cX3_init 4 none, Cond.methodLink RX3 3 objectInit, Cond.instanceMethod objectInit, Cond.code objectInit ⟨#[0xb1]⟩ 1 none, Cond.fieldLink RX3 9 "ModelCopies$Letter" "place" "I", Cond.fieldLink RX3 15 "ModelCopies$Letter" "was" "I", Cond.fieldLink RX3 18 "ModelCopies$Letter" "now" "I", Cond.methodLink RX5 45 yJx4a65c_add_9ea2d, Cond.instanceMethod yJx4a65c_add_9ea2d, Cond.selects RJx4a65c yJx4a65c_add_9ea2d yJx4a65c_add_9ea2d, Cond.code yJx4a65c_add_9ea2d cJx4a65c_add_9ea2d 2 (some .boolean), Cond.fieldLink RJx4a65c 63 "java/util/ArrayList" "modCount" "I", Cond.sameField "java/util/ArrayList" "java/util/AbstractList" "modCount" "I", Cond.methodLink RJx4a65c 131 yJx4a65c_add_72be8, Cond.instanceMethod yJx4a65c_add_72be8, Cond.selects RJx4a65c yJx4a65c_add_72be8 yJx4a65c_add_72be8]
def wsL_correct_r4 : List Cond := [Cond.code yJx4a65c_add_72be8 cJx4a65c_add_72be8 4 none, Cond.methodLink RJx4a65c 129 yJx4a65c_grow_d5877, Cond.instanceMethod yJx4a65c_grow_d5877, Cond.selects RJx4a65c yJx4a65c_grow_d5877 yJx4a65c_grow_d5877, Cond.code yJx4a65c_grow_d5877 cJx4a65c_grow_d5877 1 (some (.array (.object "java/lang/Object"))), Cond.methodLink RJx4a65c 69 yJx4a65c_grow_92f84, Cond.instanceMethod yJx4a65c_grow_92f84, Cond.selects RJx4a65c yJx4a65c_grow_92f84 yJx4a65c_grow_92f84, Cond.code yJx4a65c_grow_92f84 cJx4a65c_grow_92f84 4 (some (.array (.object "java/lang/Object"))), Cond.fieldLink RJx4a65c 39 "java/util/ArrayList" "DEFAULTCAPACITY_EMPTY_ELEMENTDATA" "[Ljava/lang/Object;", Cond.methodLink RJx4a65c 79 Lib.Math.max.name, Cond.static Lib.Math.max.name, Cond.initialized "java/lang/Math", Cond.code Lib.Math.max.name Lib.Math.max.code 2 (some .int), Cond.classLink RJx4a65c 7 "java/lang/Object", Cond.methodLink RJx4a65c 73 yJ8_newLength_cabcc, Cond.static yJ8_newLength_cabcc, Cond.initialized RJ8, Cond.code yJ8_newLength_cabcc cJ8_newLength_cabcc 4 (some .int), Cond.methodLink RJ8 194 Lib.Math.max.name, Cond.constant RJ8 200 (2147483639), Cond.methodLink RJ8 201 yJ8_hugeLength_7cf53, Cond.static yJ8_hugeLength_7cf53, Cond.code yJ8_hugeLength_7cf53 cJ8_hugeLength_7cf53 3 (some .int)]
def wsL_correct_r5 : List Cond := [Cond.methodLink RJx4a65c 66 yJ7_copyOf_1904c, Cond.static yJ7_copyOf_1904c, Cond.initialized RJ7, Cond.code yJ7_copyOf_1904c cJ7_copyOf_1904c 2 (some (.array (.object "java/lang/Object"))), Cond.methodLink RJ7 86 ⟨"java/lang/Object", "getClass", "()Ljava/lang/Class;"⟩, Cond.selects "[Ljava/lang/Object;" ⟨"java/lang/Object", "getClass", "()Ljava/lang/Class;"⟩ ⟨"java/lang/Object", "getClass", "()Ljava/lang/Class;"⟩, Cond.instanceMethod ⟨"java/lang/Object", "getClass", "()Ljava/lang/Class;"⟩, Cond.native ⟨"java/lang/Object", "getClass", "()Ljava/lang/Class;"⟩, Cond.methodLink RJ7 300 yJ7_copyOf_6403c, Cond.static yJ7_copyOf_6403c, Cond.code yJ7_copyOf_6403c cJ7_copyOf_6403c 4 (some (.array (.object "java/lang/Object"))), Cond.classLink RJ7 110 "[Ljava/lang/Object;", Cond.classLink RJ7 2 "java/lang/Object", Cond.methodLink RJ7 304 Lib.Math.min.name, Cond.static Lib.Math.min.name, Cond.code Lib.Math.min.name Lib.Math.min.code 2 (some .int), Cond.methodLink RJ7 150 arraycopyName, Cond.native arraycopyName, Cond.static arraycopyName, Cond.initialized "java/lang/System", Cond.methodLink RX5 151 yX2_take, Cond.instanceMethod yX2_take, Cond.selects RX2 yX2_take yX2_take, Cond.initialized RX2]
def wsL_correct_r6 : List Cond := [Cond.code yX2_take cX2_take 2 none, Cond.fieldLink RX2 9 "ModelCopies$House" "held" "[Z", Cond.methodLink RX5 154 yX5_findFamiliesAnew, Cond.instanceMethod yX5_findFamiliesAnew, Cond.selects RX5 yX5_findFamiliesAnew yX5_findFamiliesAnew, Cond.code yX5_findFamiliesAnew cX5_findFamiliesAnew 2 none, Cond.methodLink RX5 114 yX5_enterFamily, Cond.instanceMethod yX5_enterFamily, Cond.selects RX5 yX5_enterFamily yX5_enterFamily, Cond.code yX5_enterFamily cX5_enterFamily 4 none, Cond.fieldLink RX5 118 "ModelCopies$Copy" "number" "I", Cond.fieldLink RX5 127 "ModelCopies$Copy" "family" "I", Cond.methodLink RX5 301 yX0_isKinOf, Cond.instanceMethod yX0_isKinOf, Cond.selects RX0 yX0_isKinOf yX0_isKinOf, Cond.initialized RX0, Cond.code yX0_isKinOf cX0_isKinOf 2 (some .boolean), Cond.methodLink RX0 43 yX0_modelIfTold, Cond.instanceMethod yX0_modelIfTold, Cond.selects RX0 yX0_modelIfTold yX0_modelIfTold, Cond.code yX0_modelIfTold cX0_modelIfTold 1 (some (.object "ModelCopies$Copy")), Cond.fieldLink RX0 15 "ModelCopies$Copy" "isTold" "Z", Cond.fieldLink RX0 23 "ModelCopies$Copy" "model" "LModelCopies$Copy;", Cond.methodLink RX0 47 yX0_countSharedWith]
def wsL_correct_r7 : List Cond := [Cond.instanceMethod yX0_countSharedWith, Cond.selects RX0 yX0_countSharedWith yX0_countSharedWith, Cond.code yX0_countSharedWith cX0_countSharedWith 4 (some .int), Cond.fieldLink RX0 9 "ModelCopies$Copy" "readings" "[I", Cond.methodLink RX5 130 yX5_joinFamilies, Cond.instanceMethod yX5_joinFamilies, Cond.selects RX5 yX5_joinFamilies yX5_joinFamilies, Cond.code yX5_joinFamilies cX5_joinFamilies 7 none, Cond.methodLink RX5 304 Lib.Math.min.name, Cond.methodLink RX5 310 Lib.Math.max.name]
def wsL_correct : List Cond := .codeWith yL_correct cL_correct 7 (some .int) [(0, 14, 17, 13), (0, 14, 21, 17)] :: ((wsL_correct_r1 ++ (wsL_correct_r2 ++ (wsL_correct_r3 ++ (wsL_correct_r4 ++ (wsL_correct_r5 ++ (wsL_correct_r6 ++ wsL_correct_r7)))))) ++ wsX00 ++ wsX50 ++ wsX30 ++ wsJx4a65c0 ++ wsX20 ++ (vx_atS RX5 72 "java/lang/IllegalStateException" ["java/lang/RuntimeException", "java/lang/Exception"]).filter goodWord ++ (vx_atS RX5 288 "java/lang/IndexOutOfBoundsException" ["java/lang/RuntimeException", "java/lang/Exception"]).filter goodWord)
def wsL_workIn_r1 : List Cond := [Cond.classLink RL 13 "java/lang/IndexOutOfBoundsException", Cond.methodLink RL 34 yX5_workIn, Cond.instanceMethod yX5_workIn, Cond.selects RX5 yX5_workIn yX5_workIn, Cond.initialized RX5, Cond.code yX5_workIn cX5_workIn 7 (some .int), Cond.classLink RX5 68 "java/lang/IllegalStateException", Cond.initialized "java/lang/IllegalStateException", Cond.fieldLink RX5 91 "ModelCopies$Copy" "house" "LModelCopies$House;", Cond.fieldLink RX5 19 "ModelCopies" "letters" "Ljava/util/ArrayList;", Cond.classLink RX5 146 "ModelCopies$Letter", Cond.methodLink RX5 87 yX5_findHouse, Cond.instanceMethod yX5_findHouse, Cond.selects RX5 yX5_findHouse yX5_findHouse, Cond.code yX5_findHouse cX5_findHouse 2 (some (.object "ModelCopies$House")), Cond.classLink RX5 284 "java/lang/IndexOutOfBoundsException", Cond.initialized "java/lang/IndexOutOfBoundsException", Cond.fieldLink RX5 10 "ModelCopies" "houses" "Ljava/util/ArrayList;", Cond.classLink RX5 40 "ModelCopies$House", Cond.methodLink RX5 97 yJx4a65c_size_8abf5, Cond.instanceMethod yJx4a65c_size_8abf5, Cond.selects RJx4a65c yJx4a65c_size_8abf5 yJx4a65c_size_8abf5, Cond.initialized RJx4a65c, Cond.code yJx4a65c_size_8abf5 cJx4a65c_size_8abf5 1 (some .int)]
def wsL_workIn_r2 : List Cond := [Cond.fieldLink RJx4a65c 48 "java/util/ArrayList" "size" "I", Cond.methodLink RX5 162 yJx4a65c_get_915e3, Cond.instanceMethod yJx4a65c_get_915e3, Cond.selects RJx4a65c yJx4a65c_get_915e3 yJx4a65c_get_915e3, Cond.code yJx4a65c_get_915e3 cJx4a65c_get_915e3 2 (some (.object "java/lang/Object")), Cond.methodLink RJx4a65c 118 yJ15_checkIndex_7cf53, Cond.static yJ15_checkIndex_7cf53, Cond.initialized RJ15, Cond.code yJ15_checkIndex_7cf53 cJ15_checkIndex_7cf53 2 (some .int), Cond.methodLink RJ15 105 yJ3_checkIndex_8e157, Cond.static yJ3_checkIndex_8e157, Cond.initialized RJ3, Cond.code yJ3_checkIndex_8e157 cJ3_checkIndex_8e157 3 (some .int), Cond.methodLink RJx4a65c 123 yJx4a65c_elementData_915e3, Cond.instanceMethod yJx4a65c_elementData_915e3, Cond.selects RJx4a65c yJx4a65c_elementData_915e3 yJx4a65c_elementData_915e3, Cond.code yJx4a65c_elementData_915e3 cJx4a65c_elementData_915e3 2 (some (.object "java/lang/Object")), Cond.fieldLink RJx4a65c 9 "java/util/ArrayList" "elementData" "[Ljava/lang/Object;", Cond.methodLink RX5 80 yX5_findCopy, Cond.instanceMethod yX5_findCopy, Cond.selects RX5 yX5_findCopy yX5_findCopy, Cond.code yX5_findCopy cX5_findCopy 2 (some (.object "ModelCopies$Copy")), Cond.fieldLink RX5 16 "ModelCopies" "copies" "Ljava/util/ArrayList;", Cond.classLink RX5 49 "ModelCopies$Copy"]
def wsL_workIn_r3 : List Cond := [Cond.methodLink RX5 159 yX2_holds, Cond.instanceMethod yX2_holds, Cond.selects RX2 yX2_holds yX2_holds, Cond.initialized RX2, Cond.code yX2_holds cX2_holds 2 (some .boolean), Cond.fieldLink RX2 9 "ModelCopies$House" "held" "[Z", Cond.methodLink RX5 166 yX3_changes, Cond.instanceMethod yX3_changes, Cond.selects RX3 yX3_changes yX3_changes, Cond.initialized RX3, Cond.code yX3_changes cX3_changes 2 (some .boolean), Cond.fieldLink RX3 9 "ModelCopies$Letter" "place" "I", Cond.fieldLink RX3 21 "ModelCopies$Copy" "readings" "[I", Cond.fieldLink RX3 15 "ModelCopies$Letter" "was" "I", Cond.fieldLink RX3 18 "ModelCopies$Letter" "now" "I", Cond.methodLink RX5 154 yX5_findFamiliesAnew, Cond.instanceMethod yX5_findFamiliesAnew, Cond.selects RX5 yX5_findFamiliesAnew yX5_findFamiliesAnew, Cond.code yX5_findFamiliesAnew cX5_findFamiliesAnew 2 none, Cond.methodLink RX5 114 yX5_enterFamily, Cond.instanceMethod yX5_enterFamily, Cond.selects RX5 yX5_enterFamily yX5_enterFamily, Cond.code yX5_enterFamily cX5_enterFamily 4 none, Cond.fieldLink RX5 118 "ModelCopies$Copy" "number" "I"]
def wsL_workIn_r4 : List Cond := [Cond.fieldLink RX5 127 "ModelCopies$Copy" "family" "I", Cond.methodLink RX5 301 yX0_isKinOf, Cond.instanceMethod yX0_isKinOf, Cond.selects RX0 yX0_isKinOf yX0_isKinOf, Cond.initialized RX0, Cond.code yX0_isKinOf cX0_isKinOf 2 (some .boolean), Cond.methodLink RX0 43 yX0_modelIfTold, Cond.instanceMethod yX0_modelIfTold, Cond.selects RX0 yX0_modelIfTold yX0_modelIfTold, Cond.code yX0_modelIfTold cX0_modelIfTold 1 (some (.object "ModelCopies$Copy")), Cond.fieldLink RX0 15 "ModelCopies$Copy" "isTold" "Z", Cond.fieldLink RX0 23 "ModelCopies$Copy" "model" "LModelCopies$Copy;", Cond.methodLink RX0 47 yX0_countSharedWith, Cond.instanceMethod yX0_countSharedWith, Cond.selects RX0 yX0_countSharedWith yX0_countSharedWith, Cond.code yX0_countSharedWith cX0_countSharedWith 4 (some .int), Cond.fieldLink RX0 9 "ModelCopies$Copy" "readings" "[I", Cond.methodLink RX5 130 yX5_joinFamilies, Cond.instanceMethod yX5_joinFamilies, Cond.selects RX5 yX5_joinFamilies yX5_joinFamilies, Cond.code yX5_joinFamilies cX5_joinFamilies 7 none, Cond.methodLink RX5 304 Lib.Math.min.name, Cond.static Lib.Math.min.name, Cond.initialized "java/lang/Math"]
def wsL_workIn_r5 : List Cond := [Cond.code Lib.Math.min.name Lib.Math.min.code 2 (some .int), Cond.methodLink RX5 310 Lib.Math.max.name, Cond.static Lib.Math.max.name, Cond.code Lib.Math.max.name Lib.Math.max.code 2 (some .int)]
def wsL_workIn : List Cond := .codeWith yL_workIn cL_workIn 5 (some .int) [(0, 10, 13, 13), (0, 10, 17, 17)] :: ((wsL_workIn_r1 ++ (wsL_workIn_r2 ++ (wsL_workIn_r3 ++ (wsL_workIn_r4 ++ wsL_workIn_r5)))) ++ wsX00 ++ wsX50 ++ wsJx4a65c0 ++ wsX20 ++ wsX30 ++ (vx_atS RX5 72 "java/lang/IllegalStateException" ["java/lang/RuntimeException", "java/lang/Exception"]).filter goodWord ++ (vx_atS RX5 288 "java/lang/IndexOutOfBoundsException" ["java/lang/RuntimeException", "java/lang/Exception"]).filter goodWord)
def wsL_lend_r1 : List Cond := [Cond.classLink RL 13 "java/lang/IndexOutOfBoundsException", Cond.methodLink RL 37 yX5_lend, Cond.instanceMethod yX5_lend, Cond.selects RX5 yX5_lend yX5_lend, Cond.initialized RX5, Cond.code yX5_lend cX5_lend 8 (some .int), Cond.classLink RX5 57 "java/lang/IllegalArgumentException", Cond.initialized "java/lang/IllegalArgumentException", Cond.classLink RX5 68 "java/lang/IllegalStateException", Cond.initialized "java/lang/IllegalStateException", Cond.fieldLink RX5 174 "ModelCopies$Copy" "owner" "LModelCopies$House;", Cond.fieldLink RX5 91 "ModelCopies$Copy" "house" "LModelCopies$House;", Cond.fieldLink RX5 179 "ModelCopies$House" "coins" "I", Cond.fieldLink RX5 22 "ModelCopies" "loans" "Ljava/util/ArrayList;", Cond.classLink RX5 186 RX4, Cond.instantiable RX4 6, Cond.initialized RX4, Cond.fieldLink RX5 36 "ModelCopies" "today" "I", Cond.fieldLink RX5 191 "ModelCopies$House" "laidDown" "I", Cond.methodLink RX5 80 yX5_findCopy, Cond.instanceMethod yX5_findCopy, Cond.selects RX5 yX5_findCopy yX5_findCopy, Cond.code yX5_findCopy cX5_findCopy 2 (some (.object "ModelCopies$Copy")), Cond.classLink RX5 284 "java/lang/IndexOutOfBoundsException"]
def wsL_lend_r2 : List Cond := [Cond.initialized "java/lang/IndexOutOfBoundsException", Cond.fieldLink RX5 16 "ModelCopies" "copies" "Ljava/util/ArrayList;", Cond.classLink RX5 49 "ModelCopies$Copy", Cond.methodLink RX5 97 yJx4a65c_size_8abf5, Cond.instanceMethod yJx4a65c_size_8abf5, Cond.selects RJx4a65c yJx4a65c_size_8abf5 yJx4a65c_size_8abf5, Cond.initialized RJx4a65c, Cond.code yJx4a65c_size_8abf5 cJx4a65c_size_8abf5 1 (some .int), Cond.fieldLink RJx4a65c 48 "java/util/ArrayList" "size" "I", Cond.methodLink RX5 162 yJx4a65c_get_915e3, Cond.instanceMethod yJx4a65c_get_915e3, Cond.selects RJx4a65c yJx4a65c_get_915e3 yJx4a65c_get_915e3, Cond.code yJx4a65c_get_915e3 cJx4a65c_get_915e3 2 (some (.object "java/lang/Object")), Cond.methodLink RJx4a65c 118 yJ15_checkIndex_7cf53, Cond.static yJ15_checkIndex_7cf53, Cond.initialized RJ15, Cond.code yJ15_checkIndex_7cf53 cJ15_checkIndex_7cf53 2 (some .int), Cond.methodLink RJ15 105 yJ3_checkIndex_8e157, Cond.static yJ3_checkIndex_8e157, Cond.initialized RJ3, Cond.code yJ3_checkIndex_8e157 cJ3_checkIndex_8e157 3 (some .int), Cond.methodLink RJx4a65c 123 yJx4a65c_elementData_915e3, Cond.instanceMethod yJx4a65c_elementData_915e3, Cond.selects RJx4a65c yJx4a65c_elementData_915e3 yJx4a65c_elementData_915e3]
def wsL_lend_r3 : List Cond := [Cond.code yJx4a65c_elementData_915e3 cJx4a65c_elementData_915e3 2 (some (.object "java/lang/Object")), Cond.fieldLink RJx4a65c 9 "java/util/ArrayList" "elementData" "[Ljava/lang/Object;", Cond.methodLink RX5 87 yX5_findHouse, Cond.instanceMethod yX5_findHouse, Cond.selects RX5 yX5_findHouse yX5_findHouse, Cond.code yX5_findHouse cX5_findHouse 2 (some (.object "ModelCopies$House")), Cond.fieldLink RX5 10 "ModelCopies" "houses" "Ljava/util/ArrayList;", Cond.classLink RX5 40 "ModelCopies$House", Cond.methodLink RX5 188 yX4_init, Cond.instanceMethod yX4_init, Cond.code yX4_init cX4_init 5 none, Cond.methodLink RX4 3 objectInit, Cond.instanceMethod objectInit, Cond.code objectInit ⟨#[0xb1]⟩ 1 none, Cond.fieldLink RX4 9 "ModelCopies$Loan" "isBack" "Z", Cond.fieldLink RX4 15 "ModelCopies$Loan" "daysLateAtEnd" "I", Cond.fieldLink RX4 19 "ModelCopies$Loan" "copy" "LModelCopies$Copy;", Cond.fieldLink RX4 23 "ModelCopies$Loan" "borrower" "LModelCopies$House;", Cond.fieldLink RX4 27 "ModelCopies$Loan" "lastDay" "I", Cond.fieldLink RX4 30 "ModelCopies$Loan" "pledge" "I", Cond.methodLink RX5 45 yJx4a65c_add_9ea2d, Cond.instanceMethod yJx4a65c_add_9ea2d, Cond.selects RJx4a65c yJx4a65c_add_9ea2d yJx4a65c_add_9ea2d, Cond.code yJx4a65c_add_9ea2d cJx4a65c_add_9ea2d 2 (some .boolean)]
def wsL_lend_r4 : List Cond := [Cond.fieldLink RJx4a65c 63 "java/util/ArrayList" "modCount" "I", Cond.sameField "java/util/ArrayList" "java/util/AbstractList" "modCount" "I", Cond.methodLink RJx4a65c 131 yJx4a65c_add_72be8, Cond.instanceMethod yJx4a65c_add_72be8, Cond.selects RJx4a65c yJx4a65c_add_72be8 yJx4a65c_add_72be8, Cond.code yJx4a65c_add_72be8 cJx4a65c_add_72be8 4 none, Cond.methodLink RJx4a65c 129 yJx4a65c_grow_d5877, Cond.instanceMethod yJx4a65c_grow_d5877, Cond.selects RJx4a65c yJx4a65c_grow_d5877 yJx4a65c_grow_d5877, Cond.code yJx4a65c_grow_d5877 cJx4a65c_grow_d5877 1 (some (.array (.object "java/lang/Object"))), Cond.methodLink RJx4a65c 69 yJx4a65c_grow_92f84, Cond.instanceMethod yJx4a65c_grow_92f84, Cond.selects RJx4a65c yJx4a65c_grow_92f84 yJx4a65c_grow_92f84, Cond.code yJx4a65c_grow_92f84 cJx4a65c_grow_92f84 4 (some (.array (.object "java/lang/Object"))), Cond.fieldLink RJx4a65c 39 "java/util/ArrayList" "DEFAULTCAPACITY_EMPTY_ELEMENTDATA" "[Ljava/lang/Object;", Cond.methodLink RJx4a65c 79 Lib.Math.max.name, Cond.static Lib.Math.max.name, Cond.initialized "java/lang/Math", Cond.code Lib.Math.max.name Lib.Math.max.code 2 (some .int), Cond.classLink RJx4a65c 7 "java/lang/Object", Cond.methodLink RJx4a65c 73 yJ8_newLength_cabcc, Cond.static yJ8_newLength_cabcc, Cond.initialized RJ8, Cond.code yJ8_newLength_cabcc cJ8_newLength_cabcc 4 (some .int)]
def wsL_lend_r5 : List Cond := [Cond.methodLink RJ8 194 Lib.Math.max.name, Cond.constant RJ8 200 (2147483639), Cond.methodLink RJ8 201 yJ8_hugeLength_7cf53, Cond.static yJ8_hugeLength_7cf53, Cond.code yJ8_hugeLength_7cf53 cJ8_hugeLength_7cf53 3 (some .int), Cond.methodLink RJx4a65c 66 yJ7_copyOf_1904c, Cond.static yJ7_copyOf_1904c, Cond.initialized RJ7, Cond.code yJ7_copyOf_1904c cJ7_copyOf_1904c 2 (some (.array (.object "java/lang/Object"))), Cond.methodLink RJ7 86 ⟨"java/lang/Object", "getClass", "()Ljava/lang/Class;"⟩, Cond.selects "[Ljava/lang/Object;" ⟨"java/lang/Object", "getClass", "()Ljava/lang/Class;"⟩ ⟨"java/lang/Object", "getClass", "()Ljava/lang/Class;"⟩, Cond.instanceMethod ⟨"java/lang/Object", "getClass", "()Ljava/lang/Class;"⟩, Cond.native ⟨"java/lang/Object", "getClass", "()Ljava/lang/Class;"⟩, Cond.methodLink RJ7 300 yJ7_copyOf_6403c, Cond.static yJ7_copyOf_6403c, Cond.code yJ7_copyOf_6403c cJ7_copyOf_6403c 4 (some (.array (.object "java/lang/Object"))), Cond.classLink RJ7 110 "[Ljava/lang/Object;", Cond.classLink RJ7 2 "java/lang/Object", Cond.methodLink RJ7 304 Lib.Math.min.name, Cond.static Lib.Math.min.name, Cond.code Lib.Math.min.name Lib.Math.min.code 2 (some .int), Cond.methodLink RJ7 150 arraycopyName, Cond.native arraycopyName, Cond.static arraycopyName]
def wsL_lend_r6 : List Cond := [Cond.initialized "java/lang/System", Cond.methodLink RX5 194 yX2_takeLettersOf, Cond.instanceMethod yX2_takeLettersOf, Cond.selects RX2 yX2_takeLettersOf yX2_takeLettersOf, Cond.initialized RX2, Cond.code yX2_takeLettersOf cX2_takeLettersOf 3 none, Cond.methodLink RX2 25 yX2_holds, Cond.instanceMethod yX2_holds, Cond.selects RX2 yX2_holds yX2_holds, Cond.code yX2_holds cX2_holds 2 (some .boolean), Cond.fieldLink RX2 9 "ModelCopies$House" "held" "[Z", Cond.methodLink RX2 29 yX2_take, Cond.instanceMethod yX2_take, Cond.selects RX2 yX2_take yX2_take, Cond.code yX2_take cX2_take 2 none]
def wsL_lend : List Cond := .codeWith yL_lend cL_lend 7 (some .int) [(0, 14, 17, 13), (0, 14, 21, 15), (0, 14, 25, 17)] :: ((wsL_lend_r1 ++ (wsL_lend_r2 ++ (wsL_lend_r3 ++ (wsL_lend_r4 ++ (wsL_lend_r5 ++ wsL_lend_r6))))) ++ wsX00 ++ wsX20 ++ wsX50 ++ wsX40 ++ wsJx4a65c0 ++ (vx_atS RX5 61 "java/lang/IllegalArgumentException" ["java/lang/RuntimeException", "java/lang/Exception"]).filter goodWord ++ (vx_atS RX5 72 "java/lang/IllegalStateException" ["java/lang/RuntimeException", "java/lang/Exception"]).filter goodWord ++ (vx_atS RX5 288 "java/lang/IndexOutOfBoundsException" ["java/lang/RuntimeException", "java/lang/Exception"]).filter goodWord)
def wsL_giveBack_r1 : List Cond := [Cond.classLink RL 13 "java/lang/IndexOutOfBoundsException", Cond.methodLink RL 40 yX5_giveBack, Cond.instanceMethod yX5_giveBack, Cond.selects RX5 yX5_giveBack yX5_giveBack, Cond.initialized RX5, Cond.code yX5_giveBack cX5_giveBack 6 (some .int), Cond.classLink RX5 68 "java/lang/IllegalStateException", Cond.initialized "java/lang/IllegalStateException", Cond.fieldLink RX5 202 "ModelCopies$Loan" "isBack" "Z", Cond.fieldLink RX5 207 "ModelCopies$Loan" "borrower" "LModelCopies$House;", Cond.fieldLink RX5 210 "ModelCopies$Loan" "copy" "LModelCopies$Copy;", Cond.fieldLink RX5 174 "ModelCopies$Copy" "owner" "LModelCopies$House;", Cond.fieldLink RX5 36 "ModelCopies" "today" "I", Cond.fieldLink RX5 220 "ModelCopies$Loan" "daysLateAtEnd" "I", Cond.fieldLink RX5 191 "ModelCopies$House" "laidDown" "I", Cond.fieldLink RX5 223 "ModelCopies$Loan" "pledge" "I", Cond.fieldLink RX5 179 "ModelCopies$House" "coins" "I", Cond.fieldLink RX5 91 "ModelCopies$Copy" "house" "LModelCopies$House;", Cond.methodLink RX5 198 yX5_findLoan, Cond.instanceMethod yX5_findLoan, Cond.selects RX5 yX5_findLoan yX5_findLoan, Cond.code yX5_findLoan cX5_findLoan 2 (some (.object "ModelCopies$Loan")), Cond.classLink RX5 284 "java/lang/IndexOutOfBoundsException", Cond.initialized "java/lang/IndexOutOfBoundsException"]
def wsL_giveBack_r2 : List Cond := [Cond.fieldLink RX5 22 "ModelCopies" "loans" "Ljava/util/ArrayList;", Cond.classLink RX5 186 "ModelCopies$Loan", Cond.methodLink RX5 97 yJx4a65c_size_8abf5, Cond.instanceMethod yJx4a65c_size_8abf5, Cond.selects RJx4a65c yJx4a65c_size_8abf5 yJx4a65c_size_8abf5, Cond.initialized RJx4a65c, Cond.code yJx4a65c_size_8abf5 cJx4a65c_size_8abf5 1 (some .int), Cond.fieldLink RJx4a65c 48 "java/util/ArrayList" "size" "I", Cond.methodLink RX5 162 yJx4a65c_get_915e3, Cond.instanceMethod yJx4a65c_get_915e3, Cond.selects RJx4a65c yJx4a65c_get_915e3 yJx4a65c_get_915e3, Cond.code yJx4a65c_get_915e3 cJx4a65c_get_915e3 2 (some (.object "java/lang/Object")), Cond.methodLink RJx4a65c 118 yJ15_checkIndex_7cf53, Cond.static yJ15_checkIndex_7cf53, Cond.initialized RJ15, Cond.code yJ15_checkIndex_7cf53 cJ15_checkIndex_7cf53 2 (some .int), Cond.methodLink RJ15 105 yJ3_checkIndex_8e157, Cond.static yJ3_checkIndex_8e157, Cond.initialized RJ3, Cond.code yJ3_checkIndex_8e157 cJ3_checkIndex_8e157 3 (some .int), Cond.methodLink RJx4a65c 123 yJx4a65c_elementData_915e3, Cond.instanceMethod yJx4a65c_elementData_915e3, Cond.selects RJx4a65c yJx4a65c_elementData_915e3 yJx4a65c_elementData_915e3, Cond.code yJx4a65c_elementData_915e3 cJx4a65c_elementData_915e3 2 (some (.object "java/lang/Object"))]
def wsL_giveBack_r3 : List Cond := [Cond.fieldLink RJx4a65c 9 "java/util/ArrayList" "elementData" "[Ljava/lang/Object;", Cond.methodLink RX5 213 yX4_lostOn, Cond.instanceMethod yX4_lostOn, Cond.selects RX4 yX4_lostOn yX4_lostOn, Cond.initialized RX4, Cond.code yX4_lostOn cX4_lostOn 3 (some .int), Cond.fieldLink RX4 30 "ModelCopies$Loan" "pledge" "I", Cond.methodLink RX4 39 yX4_daysLateOn, Cond.instanceMethod yX4_daysLateOn, Cond.selects RX4 yX4_daysLateOn yX4_daysLateOn, Cond.code yX4_daysLateOn cX4_daysLateOn 2 (some .int), Cond.fieldLink RX4 27 "ModelCopies$Loan" "lastDay" "I", Cond.methodLink RX4 33 Lib.Math.max.name, Cond.static Lib.Math.max.name, Cond.initialized "java/lang/Math", Cond.code Lib.Math.max.name Lib.Math.max.code 2 (some .int), Cond.methodLink RX5 217 yX4_daysLateOn, Cond.methodLink RX5 194 yX2_takeLettersOf, Cond.instanceMethod yX2_takeLettersOf, Cond.selects RX2 yX2_takeLettersOf yX2_takeLettersOf, Cond.initialized RX2, Cond.code yX2_takeLettersOf cX2_takeLettersOf 3 none, Cond.methodLink RX2 25 yX2_holds, Cond.instanceMethod yX2_holds]
def wsL_giveBack_r4 : List Cond := [Cond.selects RX2 yX2_holds yX2_holds, Cond.code yX2_holds cX2_holds 2 (some .boolean), Cond.fieldLink RX2 9 "ModelCopies$House" "held" "[Z", Cond.methodLink RX2 29 yX2_take, Cond.instanceMethod yX2_take, Cond.selects RX2 yX2_take yX2_take, Cond.code yX2_take cX2_take 2 none]
def wsL_giveBack : List Cond := .codeWith yL_giveBack cL_giveBack 4 (some .int) [(0, 9, 12, 13), (0, 9, 15, 17)] :: ((wsL_giveBack_r1 ++ (wsL_giveBack_r2 ++ (wsL_giveBack_r3 ++ wsL_giveBack_r4))) ++ wsX40 ++ wsX00 ++ wsX50 ++ wsX20 ++ wsJx4a65c0 ++ (vx_atS RX5 72 "java/lang/IllegalStateException" ["java/lang/RuntimeException", "java/lang/Exception"]).filter goodWord ++ (vx_atS RX5 288 "java/lang/IndexOutOfBoundsException" ["java/lang/RuntimeException", "java/lang/Exception"]).filter goodWord)
def wsL_reading_r1 : List Cond := [Cond.classLink RL 13 "java/lang/IndexOutOfBoundsException", Cond.methodLink RL 43 yX5_reading, Cond.instanceMethod yX5_reading, Cond.selects RX5 yX5_reading yX5_reading, Cond.initialized RX5, Cond.code yX5_reading cX5_reading 4 (some .int), Cond.fieldLink RX5 139 "ModelCopies$Copy" "readings" "[I", Cond.methodLink RX5 80 yX5_findCopy, Cond.instanceMethod yX5_findCopy, Cond.selects RX5 yX5_findCopy yX5_findCopy, Cond.code yX5_findCopy cX5_findCopy 2 (some (.object "ModelCopies$Copy")), Cond.classLink RX5 284 "java/lang/IndexOutOfBoundsException", Cond.initialized "java/lang/IndexOutOfBoundsException", Cond.fieldLink RX5 16 "ModelCopies" "copies" "Ljava/util/ArrayList;", Cond.classLink RX5 49 "ModelCopies$Copy", Cond.methodLink RX5 97 yJx4a65c_size_8abf5, Cond.instanceMethod yJx4a65c_size_8abf5, Cond.selects RJx4a65c yJx4a65c_size_8abf5 yJx4a65c_size_8abf5, Cond.initialized RJx4a65c, Cond.code yJx4a65c_size_8abf5 cJx4a65c_size_8abf5 1 (some .int), Cond.fieldLink RJx4a65c 48 "java/util/ArrayList" "size" "I", Cond.methodLink RX5 162 yJx4a65c_get_915e3, Cond.instanceMethod yJx4a65c_get_915e3, Cond.selects RJx4a65c yJx4a65c_get_915e3 yJx4a65c_get_915e3]
def wsL_reading_r2 : List Cond := [Cond.code yJx4a65c_get_915e3 cJx4a65c_get_915e3 2 (some (.object "java/lang/Object")), Cond.methodLink RJx4a65c 118 yJ15_checkIndex_7cf53, Cond.static yJ15_checkIndex_7cf53, Cond.initialized RJ15, Cond.code yJ15_checkIndex_7cf53 cJ15_checkIndex_7cf53 2 (some .int), Cond.methodLink RJ15 105 yJ3_checkIndex_8e157, Cond.static yJ3_checkIndex_8e157, Cond.initialized RJ3, Cond.code yJ3_checkIndex_8e157 cJ3_checkIndex_8e157 3 (some .int), Cond.methodLink RJx4a65c 123 yJx4a65c_elementData_915e3, Cond.instanceMethod yJx4a65c_elementData_915e3, Cond.selects RJx4a65c yJx4a65c_elementData_915e3 yJx4a65c_elementData_915e3, Cond.code yJx4a65c_elementData_915e3 cJx4a65c_elementData_915e3 2 (some (.object "java/lang/Object")), Cond.fieldLink RJx4a65c 9 "java/util/ArrayList" "elementData" "[Ljava/lang/Object;", Cond.methodLink RX5 54 yX5_requirePlace, Cond.static yX5_requirePlace, Cond.code yX5_requirePlace cX5_requirePlace 1 none]
def wsL_reading : List Cond := .codeWith yL_reading cL_reading 5 (some .int) [(0, 10, 13, 13)] :: ((wsL_reading_r1 ++ wsL_reading_r2) ++ wsX00 ++ wsX50 ++ wsJx4a65c0 ++ (vx_atS RX5 288 "java/lang/IndexOutOfBoundsException" ["java/lang/RuntimeException", "java/lang/Exception"]).filter goodWord)
def wsL_errors_r1 : List Cond := [Cond.classLink RL 13 "java/lang/IndexOutOfBoundsException", Cond.methodLink RL 46 yX5_errors, Cond.instanceMethod yX5_errors, Cond.selects RX5 yX5_errors yX5_errors, Cond.initialized RX5, Cond.code yX5_errors cX5_errors 2 (some .int), Cond.methodLink RX5 80 yX5_findCopy, Cond.instanceMethod yX5_findCopy, Cond.selects RX5 yX5_findCopy yX5_findCopy, Cond.code yX5_findCopy cX5_findCopy 2 (some (.object "ModelCopies$Copy")), Cond.classLink RX5 284 "java/lang/IndexOutOfBoundsException", Cond.initialized "java/lang/IndexOutOfBoundsException", Cond.fieldLink RX5 16 "ModelCopies" "copies" "Ljava/util/ArrayList;", Cond.classLink RX5 49 "ModelCopies$Copy", Cond.methodLink RX5 97 yJx4a65c_size_8abf5, Cond.instanceMethod yJx4a65c_size_8abf5, Cond.selects RJx4a65c yJx4a65c_size_8abf5 yJx4a65c_size_8abf5, Cond.initialized RJx4a65c, Cond.code yJx4a65c_size_8abf5 cJx4a65c_size_8abf5 1 (some .int), Cond.fieldLink RJx4a65c 48 "java/util/ArrayList" "size" "I", Cond.methodLink RX5 162 yJx4a65c_get_915e3, Cond.instanceMethod yJx4a65c_get_915e3, Cond.selects RJx4a65c yJx4a65c_get_915e3 yJx4a65c_get_915e3, Cond.code yJx4a65c_get_915e3 cJx4a65c_get_915e3 2 (some (.object "java/lang/Object"))]
def wsL_errors_r2 : List Cond := [Cond.methodLink RJx4a65c 118 yJ15_checkIndex_7cf53, Cond.static yJ15_checkIndex_7cf53, Cond.initialized RJ15, Cond.code yJ15_checkIndex_7cf53 cJ15_checkIndex_7cf53 2 (some .int), Cond.methodLink RJ15 105 yJ3_checkIndex_8e157, Cond.static yJ3_checkIndex_8e157, Cond.initialized RJ3, Cond.code yJ3_checkIndex_8e157 cJ3_checkIndex_8e157 3 (some .int), Cond.methodLink RJx4a65c 123 yJx4a65c_elementData_915e3, Cond.instanceMethod yJx4a65c_elementData_915e3, Cond.selects RJx4a65c yJx4a65c_elementData_915e3 yJx4a65c_elementData_915e3, Cond.code yJx4a65c_elementData_915e3 cJx4a65c_elementData_915e3 2 (some (.object "java/lang/Object")), Cond.fieldLink RJx4a65c 9 "java/util/ArrayList" "elementData" "[Ljava/lang/Object;", Cond.methodLink RX5 226 yX0_countErrors, Cond.instanceMethod yX0_countErrors, Cond.selects RX0 yX0_countErrors yX0_countErrors, Cond.initialized RX0, Cond.code yX0_countErrors cX0_countErrors 1 (some .int), Cond.methodLink RX0 47 yX0_countSharedWith, Cond.instanceMethod yX0_countSharedWith, Cond.selects RX0 yX0_countSharedWith yX0_countSharedWith, Cond.code yX0_countSharedWith cX0_countSharedWith 4 (some .int), Cond.fieldLink RX0 9 "ModelCopies$Copy" "readings" "[I"]
def wsL_errors : List Cond := .codeWith yL_errors cL_errors 4 (some .int) [(0, 9, 12, 13)] :: ((wsL_errors_r1 ++ wsL_errors_r2) ++ wsX50 ++ wsJx4a65c0 ++ wsX00 ++ (vx_atS RX5 288 "java/lang/IndexOutOfBoundsException" ["java/lang/RuntimeException", "java/lang/Exception"]).filter goodWord)
def wsL_shared_r1 : List Cond := [Cond.classLink RL 13 "java/lang/IndexOutOfBoundsException", Cond.methodLink RL 49 yX5_shared, Cond.instanceMethod yX5_shared, Cond.selects RX5 yX5_shared yX5_shared, Cond.initialized RX5, Cond.code yX5_shared cX5_shared 4 (some .int), Cond.methodLink RX5 80 yX5_findCopy, Cond.instanceMethod yX5_findCopy, Cond.selects RX5 yX5_findCopy yX5_findCopy, Cond.code yX5_findCopy cX5_findCopy 2 (some (.object "ModelCopies$Copy")), Cond.classLink RX5 284 "java/lang/IndexOutOfBoundsException", Cond.initialized "java/lang/IndexOutOfBoundsException", Cond.fieldLink RX5 16 "ModelCopies" "copies" "Ljava/util/ArrayList;", Cond.classLink RX5 49 "ModelCopies$Copy", Cond.methodLink RX5 97 yJx4a65c_size_8abf5, Cond.instanceMethod yJx4a65c_size_8abf5, Cond.selects RJx4a65c yJx4a65c_size_8abf5 yJx4a65c_size_8abf5, Cond.initialized RJx4a65c, Cond.code yJx4a65c_size_8abf5 cJx4a65c_size_8abf5 1 (some .int), Cond.fieldLink RJx4a65c 48 "java/util/ArrayList" "size" "I", Cond.methodLink RX5 162 yJx4a65c_get_915e3, Cond.instanceMethod yJx4a65c_get_915e3, Cond.selects RJx4a65c yJx4a65c_get_915e3 yJx4a65c_get_915e3, Cond.code yJx4a65c_get_915e3 cJx4a65c_get_915e3 2 (some (.object "java/lang/Object"))]
def wsL_shared_r2 : List Cond := [Cond.methodLink RJx4a65c 118 yJ15_checkIndex_7cf53, Cond.static yJ15_checkIndex_7cf53, Cond.initialized RJ15, Cond.code yJ15_checkIndex_7cf53 cJ15_checkIndex_7cf53 2 (some .int), Cond.methodLink RJ15 105 yJ3_checkIndex_8e157, Cond.static yJ3_checkIndex_8e157, Cond.initialized RJ3, Cond.code yJ3_checkIndex_8e157 cJ3_checkIndex_8e157 3 (some .int), Cond.methodLink RJx4a65c 123 yJx4a65c_elementData_915e3, Cond.instanceMethod yJx4a65c_elementData_915e3, Cond.selects RJx4a65c yJx4a65c_elementData_915e3 yJx4a65c_elementData_915e3, Cond.code yJx4a65c_elementData_915e3 cJx4a65c_elementData_915e3 2 (some (.object "java/lang/Object")), Cond.fieldLink RJx4a65c 9 "java/util/ArrayList" "elementData" "[Ljava/lang/Object;", Cond.methodLink RX5 229 yX0_countSharedWith, Cond.instanceMethod yX0_countSharedWith, Cond.selects RX0 yX0_countSharedWith yX0_countSharedWith, Cond.initialized RX0, Cond.code yX0_countSharedWith cX0_countSharedWith 4 (some .int), Cond.fieldLink RX0 9 "ModelCopies$Copy" "readings" "[I"]
def wsL_shared : List Cond := .codeWith yL_shared cL_shared 5 (some .int) [(0, 10, 13, 13)] :: ((wsL_shared_r1 ++ wsL_shared_r2) ++ wsX50 ++ wsJx4a65c0 ++ wsX00 ++ (vx_atS RX5 288 "java/lang/IndexOutOfBoundsException" ["java/lang/RuntimeException", "java/lang/Exception"]).filter goodWord)
def wsL_houseOf_r1 : List Cond := [Cond.classLink RL 13 "java/lang/IndexOutOfBoundsException", Cond.methodLink RL 52 yX5_houseOf, Cond.instanceMethod yX5_houseOf, Cond.selects RX5 yX5_houseOf yX5_houseOf, Cond.initialized RX5, Cond.code yX5_houseOf cX5_houseOf 2 (some .int), Cond.fieldLink RX5 91 "ModelCopies$Copy" "house" "LModelCopies$House;", Cond.fieldLink RX5 232 "ModelCopies$House" "number" "I", Cond.methodLink RX5 80 yX5_findCopy, Cond.instanceMethod yX5_findCopy, Cond.selects RX5 yX5_findCopy yX5_findCopy, Cond.code yX5_findCopy cX5_findCopy 2 (some (.object "ModelCopies$Copy")), Cond.classLink RX5 284 "java/lang/IndexOutOfBoundsException", Cond.initialized "java/lang/IndexOutOfBoundsException", Cond.fieldLink RX5 16 "ModelCopies" "copies" "Ljava/util/ArrayList;", Cond.classLink RX5 49 "ModelCopies$Copy", Cond.methodLink RX5 97 yJx4a65c_size_8abf5, Cond.instanceMethod yJx4a65c_size_8abf5, Cond.selects RJx4a65c yJx4a65c_size_8abf5 yJx4a65c_size_8abf5, Cond.initialized RJx4a65c, Cond.code yJx4a65c_size_8abf5 cJx4a65c_size_8abf5 1 (some .int), Cond.fieldLink RJx4a65c 48 "java/util/ArrayList" "size" "I", Cond.methodLink RX5 162 yJx4a65c_get_915e3, Cond.instanceMethod yJx4a65c_get_915e3]
def wsL_houseOf_r2 : List Cond := [Cond.selects RJx4a65c yJx4a65c_get_915e3 yJx4a65c_get_915e3, Cond.code yJx4a65c_get_915e3 cJx4a65c_get_915e3 2 (some (.object "java/lang/Object")), Cond.methodLink RJx4a65c 118 yJ15_checkIndex_7cf53, Cond.static yJ15_checkIndex_7cf53, Cond.initialized RJ15, Cond.code yJ15_checkIndex_7cf53 cJ15_checkIndex_7cf53 2 (some .int), Cond.methodLink RJ15 105 yJ3_checkIndex_8e157, Cond.static yJ3_checkIndex_8e157, Cond.initialized RJ3, Cond.code yJ3_checkIndex_8e157 cJ3_checkIndex_8e157 3 (some .int), Cond.methodLink RJx4a65c 123 yJx4a65c_elementData_915e3, Cond.instanceMethod yJx4a65c_elementData_915e3, Cond.selects RJx4a65c yJx4a65c_elementData_915e3 yJx4a65c_elementData_915e3, Cond.code yJx4a65c_elementData_915e3 cJx4a65c_elementData_915e3 2 (some (.object "java/lang/Object")), Cond.fieldLink RJx4a65c 9 "java/util/ArrayList" "elementData" "[Ljava/lang/Object;"]
def wsL_houseOf : List Cond := .codeWith yL_houseOf cL_houseOf 4 (some .int) [(0, 9, 12, 13)] :: ((wsL_houseOf_r1 ++ wsL_houseOf_r2) ++ wsX00 ++ wsX20 ++ wsX50 ++ wsJx4a65c0 ++ (vx_atS RX5 288 "java/lang/IndexOutOfBoundsException" ["java/lang/RuntimeException", "java/lang/Exception"]).filter goodWord)
def wsL_ownerOf_r1 : List Cond := [Cond.classLink RL 13 "java/lang/IndexOutOfBoundsException", Cond.methodLink RL 55 yX5_ownerOf, Cond.instanceMethod yX5_ownerOf, Cond.selects RX5 yX5_ownerOf yX5_ownerOf, Cond.initialized RX5, Cond.code yX5_ownerOf cX5_ownerOf 2 (some .int), Cond.fieldLink RX5 174 "ModelCopies$Copy" "owner" "LModelCopies$House;", Cond.fieldLink RX5 232 "ModelCopies$House" "number" "I", Cond.methodLink RX5 80 yX5_findCopy, Cond.instanceMethod yX5_findCopy, Cond.selects RX5 yX5_findCopy yX5_findCopy, Cond.code yX5_findCopy cX5_findCopy 2 (some (.object "ModelCopies$Copy")), Cond.classLink RX5 284 "java/lang/IndexOutOfBoundsException", Cond.initialized "java/lang/IndexOutOfBoundsException", Cond.fieldLink RX5 16 "ModelCopies" "copies" "Ljava/util/ArrayList;", Cond.classLink RX5 49 "ModelCopies$Copy", Cond.methodLink RX5 97 yJx4a65c_size_8abf5, Cond.instanceMethod yJx4a65c_size_8abf5, Cond.selects RJx4a65c yJx4a65c_size_8abf5 yJx4a65c_size_8abf5, Cond.initialized RJx4a65c, Cond.code yJx4a65c_size_8abf5 cJx4a65c_size_8abf5 1 (some .int), Cond.fieldLink RJx4a65c 48 "java/util/ArrayList" "size" "I", Cond.methodLink RX5 162 yJx4a65c_get_915e3, Cond.instanceMethod yJx4a65c_get_915e3]
def wsL_ownerOf_r2 : List Cond := [Cond.selects RJx4a65c yJx4a65c_get_915e3 yJx4a65c_get_915e3, Cond.code yJx4a65c_get_915e3 cJx4a65c_get_915e3 2 (some (.object "java/lang/Object")), Cond.methodLink RJx4a65c 118 yJ15_checkIndex_7cf53, Cond.static yJ15_checkIndex_7cf53, Cond.initialized RJ15, Cond.code yJ15_checkIndex_7cf53 cJ15_checkIndex_7cf53 2 (some .int), Cond.methodLink RJ15 105 yJ3_checkIndex_8e157, Cond.static yJ3_checkIndex_8e157, Cond.initialized RJ3, Cond.code yJ3_checkIndex_8e157 cJ3_checkIndex_8e157 3 (some .int), Cond.methodLink RJx4a65c 123 yJx4a65c_elementData_915e3, Cond.instanceMethod yJx4a65c_elementData_915e3, Cond.selects RJx4a65c yJx4a65c_elementData_915e3 yJx4a65c_elementData_915e3, Cond.code yJx4a65c_elementData_915e3 cJx4a65c_elementData_915e3 2 (some (.object "java/lang/Object")), Cond.fieldLink RJx4a65c 9 "java/util/ArrayList" "elementData" "[Ljava/lang/Object;"]
def wsL_ownerOf : List Cond := .codeWith yL_ownerOf cL_ownerOf 4 (some .int) [(0, 9, 12, 13)] :: ((wsL_ownerOf_r1 ++ wsL_ownerOf_r2) ++ wsX00 ++ wsX20 ++ wsX50 ++ wsJx4a65c0 ++ (vx_atS RX5 288 "java/lang/IndexOutOfBoundsException" ["java/lang/RuntimeException", "java/lang/Exception"]).filter goodWord)
def wsL_toldModel_r1 : List Cond := [Cond.classLink RL 13 "java/lang/IndexOutOfBoundsException", Cond.methodLink RL 58 yX5_toldModel, Cond.instanceMethod yX5_toldModel, Cond.selects RX5 yX5_toldModel yX5_toldModel, Cond.initialized RX5, Cond.code yX5_toldModel cX5_toldModel 2 (some .int), Cond.methodLink RX5 80 yX5_findCopy, Cond.instanceMethod yX5_findCopy, Cond.selects RX5 yX5_findCopy yX5_findCopy, Cond.code yX5_findCopy cX5_findCopy 2 (some (.object "ModelCopies$Copy")), Cond.classLink RX5 284 "java/lang/IndexOutOfBoundsException", Cond.initialized "java/lang/IndexOutOfBoundsException", Cond.fieldLink RX5 16 "ModelCopies" "copies" "Ljava/util/ArrayList;", Cond.classLink RX5 49 "ModelCopies$Copy", Cond.methodLink RX5 97 yJx4a65c_size_8abf5, Cond.instanceMethod yJx4a65c_size_8abf5, Cond.selects RJx4a65c yJx4a65c_size_8abf5 yJx4a65c_size_8abf5, Cond.initialized RJx4a65c, Cond.code yJx4a65c_size_8abf5 cJx4a65c_size_8abf5 1 (some .int), Cond.fieldLink RJx4a65c 48 "java/util/ArrayList" "size" "I", Cond.methodLink RX5 162 yJx4a65c_get_915e3, Cond.instanceMethod yJx4a65c_get_915e3, Cond.selects RJx4a65c yJx4a65c_get_915e3 yJx4a65c_get_915e3, Cond.code yJx4a65c_get_915e3 cJx4a65c_get_915e3 2 (some (.object "java/lang/Object"))]
def wsL_toldModel_r2 : List Cond := [Cond.methodLink RJx4a65c 118 yJ15_checkIndex_7cf53, Cond.static yJ15_checkIndex_7cf53, Cond.initialized RJ15, Cond.code yJ15_checkIndex_7cf53 cJ15_checkIndex_7cf53 2 (some .int), Cond.methodLink RJ15 105 yJ3_checkIndex_8e157, Cond.static yJ3_checkIndex_8e157, Cond.initialized RJ3, Cond.code yJ3_checkIndex_8e157 cJ3_checkIndex_8e157 3 (some .int), Cond.methodLink RJx4a65c 123 yJx4a65c_elementData_915e3, Cond.instanceMethod yJx4a65c_elementData_915e3, Cond.selects RJx4a65c yJx4a65c_elementData_915e3 yJx4a65c_elementData_915e3, Cond.code yJx4a65c_elementData_915e3 cJx4a65c_elementData_915e3 2 (some (.object "java/lang/Object")), Cond.fieldLink RJx4a65c 9 "java/util/ArrayList" "elementData" "[Ljava/lang/Object;", Cond.methodLink RX5 233 yX0_modelIfTold, Cond.instanceMethod yX0_modelIfTold, Cond.selects RX0 yX0_modelIfTold yX0_modelIfTold, Cond.initialized RX0, Cond.code yX0_modelIfTold cX0_modelIfTold 1 (some (.object "ModelCopies$Copy")), Cond.fieldLink RX0 15 "ModelCopies$Copy" "isTold" "Z", Cond.fieldLink RX0 23 "ModelCopies$Copy" "model" "LModelCopies$Copy;", Cond.methodLink RX5 237 yX5_numberOf, Cond.static yX5_numberOf, Cond.code yX5_numberOf cX5_numberOf 1 (some .int), Cond.fieldLink RX5 118 "ModelCopies$Copy" "number" "I"]
def wsL_toldModel : List Cond := .codeWith yL_toldModel cL_toldModel 4 (some .int) [(0, 9, 12, 13)] :: ((wsL_toldModel_r1 ++ wsL_toldModel_r2) ++ wsX50 ++ wsJx4a65c0 ++ wsX00 ++ (vx_atS RX5 288 "java/lang/IndexOutOfBoundsException" ["java/lang/RuntimeException", "java/lang/Exception"]).filter goodWord)
def wsL_slips : List Cond := .codeWith yL_slips cL_slips 4 (some .int) [(0, 9, 12, 13)] :: ([.classLink RL 13 "java/lang/IndexOutOfBoundsException", .methodLink RL 61 yX5_slips, .instanceMethod yX5_slips, .selects RX5 yX5_slips yX5_slips, .initialized RX5, .code yX5_slips cX5_slips 2 (some .int), .fieldLink RX5 25 "ModelCopies" "slipsByScribe" "[I", .methodLink RX5 84 yX5_requireScribe, .static yX5_requireScribe, .code yX5_requireScribe cX5_requireScribe 1 none, .classLink RX5 284 "java/lang/IndexOutOfBoundsException", .initialized "java/lang/IndexOutOfBoundsException"] ++ wsX50 ++ (vx_atS RX5 288 "java/lang/IndexOutOfBoundsException" ["java/lang/RuntimeException", "java/lang/Exception"]).filter goodWord)
def wsL_family_r1 : List Cond := [Cond.classLink RL 13 "java/lang/IndexOutOfBoundsException", Cond.methodLink RL 64 yX5_family, Cond.instanceMethod yX5_family, Cond.selects RX5 yX5_family yX5_family, Cond.initialized RX5, Cond.code yX5_family cX5_family 2 (some .int), Cond.fieldLink RX5 127 "ModelCopies$Copy" "family" "I", Cond.methodLink RX5 80 yX5_findCopy, Cond.instanceMethod yX5_findCopy, Cond.selects RX5 yX5_findCopy yX5_findCopy, Cond.code yX5_findCopy cX5_findCopy 2 (some (.object "ModelCopies$Copy")), Cond.classLink RX5 284 "java/lang/IndexOutOfBoundsException", Cond.initialized "java/lang/IndexOutOfBoundsException", Cond.fieldLink RX5 16 "ModelCopies" "copies" "Ljava/util/ArrayList;", Cond.classLink RX5 49 "ModelCopies$Copy", Cond.methodLink RX5 97 yJx4a65c_size_8abf5, Cond.instanceMethod yJx4a65c_size_8abf5, Cond.selects RJx4a65c yJx4a65c_size_8abf5 yJx4a65c_size_8abf5, Cond.initialized RJx4a65c, Cond.code yJx4a65c_size_8abf5 cJx4a65c_size_8abf5 1 (some .int), Cond.fieldLink RJx4a65c 48 "java/util/ArrayList" "size" "I", Cond.methodLink RX5 162 yJx4a65c_get_915e3, Cond.instanceMethod yJx4a65c_get_915e3, Cond.selects RJx4a65c yJx4a65c_get_915e3 yJx4a65c_get_915e3]
def wsL_family_r2 : List Cond := [Cond.code yJx4a65c_get_915e3 cJx4a65c_get_915e3 2 (some (.object "java/lang/Object")), Cond.methodLink RJx4a65c 118 yJ15_checkIndex_7cf53, Cond.static yJ15_checkIndex_7cf53, Cond.initialized RJ15, Cond.code yJ15_checkIndex_7cf53 cJ15_checkIndex_7cf53 2 (some .int), Cond.methodLink RJ15 105 yJ3_checkIndex_8e157, Cond.static yJ3_checkIndex_8e157, Cond.initialized RJ3, Cond.code yJ3_checkIndex_8e157 cJ3_checkIndex_8e157 3 (some .int), Cond.methodLink RJx4a65c 123 yJx4a65c_elementData_915e3, Cond.instanceMethod yJx4a65c_elementData_915e3, Cond.selects RJx4a65c yJx4a65c_elementData_915e3 yJx4a65c_elementData_915e3, Cond.code yJx4a65c_elementData_915e3 cJx4a65c_elementData_915e3 2 (some (.object "java/lang/Object")), Cond.fieldLink RJx4a65c 9 "java/util/ArrayList" "elementData" "[Ljava/lang/Object;"]
def wsL_family : List Cond := .codeWith yL_family cL_family 4 (some .int) [(0, 9, 12, 13)] :: ((wsL_family_r1 ++ wsL_family_r2) ++ wsX00 ++ wsX50 ++ wsJx4a65c0 ++ (vx_atS RX5 288 "java/lang/IndexOutOfBoundsException" ["java/lang/RuntimeException", "java/lang/Exception"]).filter goodWord)
def wsL_familyByErrors_r1 : List Cond := [Cond.classLink RL 13 "java/lang/IndexOutOfBoundsException", Cond.methodLink RL 67 yX5_familyByErrors, Cond.instanceMethod yX5_familyByErrors, Cond.selects RX5 yX5_familyByErrors yX5_familyByErrors, Cond.initialized RX5, Cond.code yX5_familyByErrors cX5_familyByErrors 9 (some .int), Cond.fieldLink RX5 16 "ModelCopies" "copies" "Ljava/util/ArrayList;", Cond.constantLong RX5 244 (-1), Cond.classLink RX5 49 "ModelCopies$Copy", Cond.methodLink RX5 80 yX5_findCopy, Cond.instanceMethod yX5_findCopy, Cond.selects RX5 yX5_findCopy yX5_findCopy, Cond.code yX5_findCopy cX5_findCopy 2 (some (.object "ModelCopies$Copy")), Cond.classLink RX5 284 "java/lang/IndexOutOfBoundsException", Cond.initialized "java/lang/IndexOutOfBoundsException", Cond.methodLink RX5 97 yJx4a65c_size_8abf5, Cond.instanceMethod yJx4a65c_size_8abf5, Cond.selects RJx4a65c yJx4a65c_size_8abf5 yJx4a65c_size_8abf5, Cond.initialized RJx4a65c, Cond.code yJx4a65c_size_8abf5 cJx4a65c_size_8abf5 1 (some .int), Cond.fieldLink RJx4a65c 48 "java/util/ArrayList" "size" "I", Cond.methodLink RX5 162 yJx4a65c_get_915e3, Cond.instanceMethod yJx4a65c_get_915e3, Cond.selects RJx4a65c yJx4a65c_get_915e3 yJx4a65c_get_915e3]
def wsL_familyByErrors_r2 : List Cond := [Cond.code yJx4a65c_get_915e3 cJx4a65c_get_915e3 2 (some (.object "java/lang/Object")), Cond.methodLink RJx4a65c 118 yJ15_checkIndex_7cf53, Cond.static yJ15_checkIndex_7cf53, Cond.initialized RJ15, Cond.code yJ15_checkIndex_7cf53 cJ15_checkIndex_7cf53 2 (some .int), Cond.methodLink RJ15 105 yJ3_checkIndex_8e157, Cond.static yJ3_checkIndex_8e157, Cond.initialized RJ3, Cond.code yJ3_checkIndex_8e157 cJ3_checkIndex_8e157 3 (some .int), Cond.methodLink RJx4a65c 123 yJx4a65c_elementData_915e3, Cond.instanceMethod yJx4a65c_elementData_915e3, Cond.selects RJx4a65c yJx4a65c_elementData_915e3 yJx4a65c_elementData_915e3, Cond.code yJx4a65c_elementData_915e3 cJx4a65c_elementData_915e3 2 (some (.object "java/lang/Object")), Cond.fieldLink RJx4a65c 9 "java/util/ArrayList" "elementData" "[Ljava/lang/Object;", Cond.methodLink RX5 240 yX5_setOf, Cond.static yX5_setOf, Cond.code yX5_setOf cX5_setOf 1 (some .long), Cond.fieldLink RX5 118 "ModelCopies$Copy" "number" "I", Cond.methodLink RX5 246 yX5_lowestIn, Cond.instanceMethod yX5_lowestIn, Cond.selects RX5 yX5_lowestIn yX5_lowestIn, Cond.code yX5_lowestIn cX5_lowestIn 4 (some .int), Cond.methodLink RX5 250 yX5_kinByErrors, Cond.instanceMethod yX5_kinByErrors]
def wsL_familyByErrors_r3 : List Cond := [Cond.selects RX5 yX5_kinByErrors yX5_kinByErrors, Cond.code yX5_kinByErrors cX5_kinByErrors 6 (some .long), Cond.fieldLink RX5 139 "ModelCopies$Copy" "readings" "[I", Cond.methodLink RX5 263 yX5_copiesThatRead, Cond.instanceMethod yX5_copiesThatRead, Cond.selects RX5 yX5_copiesThatRead yX5_copiesThatRead, Cond.code yX5_copiesThatRead cX5_copiesThatRead 7 (some .long), Cond.methodLink RX5 253 yX5_kinByModels, Cond.instanceMethod yX5_kinByModels, Cond.selects RX5 yX5_kinByModels yX5_kinByModels, Cond.code yX5_kinByModels cX5_kinByModels 7 (some .long), Cond.methodLink RX5 233 yX0_modelIfTold, Cond.instanceMethod yX0_modelIfTold, Cond.selects RX0 yX0_modelIfTold yX0_modelIfTold, Cond.initialized RX0, Cond.code yX0_modelIfTold cX0_modelIfTold 1 (some (.object "ModelCopies$Copy")), Cond.fieldLink RX0 15 "ModelCopies$Copy" "isTold" "Z", Cond.fieldLink RX0 23 "ModelCopies$Copy" "model" "LModelCopies$Copy;"]
def wsL_familyByErrors : List Cond := .codeWith yL_familyByErrors cL_familyByErrors 4 (some .int) [(0, 9, 12, 13)] :: ((wsL_familyByErrors_r1 ++ (wsL_familyByErrors_r2 ++ wsL_familyByErrors_r3)) ++ wsX50 ++ wsJx4a65c0 ++ wsX00 ++ (vx_atS RX5 288 "java/lang/IndexOutOfBoundsException" ["java/lang/RuntimeException", "java/lang/Exception"]).filter goodWord)
def wsL_guess_r1 : List Cond := [Cond.classLink RL 13 "java/lang/IndexOutOfBoundsException", Cond.methodLink RL 70 yX5_guess, Cond.instanceMethod yX5_guess, Cond.selects RX5 yX5_guess yX5_guess, Cond.initialized RX5, Cond.code yX5_guess cX5_guess 2 (some .int), Cond.methodLink RX5 80 yX5_findCopy, Cond.instanceMethod yX5_findCopy, Cond.selects RX5 yX5_findCopy yX5_findCopy, Cond.code yX5_findCopy cX5_findCopy 2 (some (.object "ModelCopies$Copy")), Cond.classLink RX5 284 "java/lang/IndexOutOfBoundsException", Cond.initialized "java/lang/IndexOutOfBoundsException", Cond.fieldLink RX5 16 "ModelCopies" "copies" "Ljava/util/ArrayList;", Cond.classLink RX5 49 "ModelCopies$Copy", Cond.methodLink RX5 97 yJx4a65c_size_8abf5, Cond.instanceMethod yJx4a65c_size_8abf5, Cond.selects RJx4a65c yJx4a65c_size_8abf5 yJx4a65c_size_8abf5, Cond.initialized RJx4a65c, Cond.code yJx4a65c_size_8abf5 cJx4a65c_size_8abf5 1 (some .int), Cond.fieldLink RJx4a65c 48 "java/util/ArrayList" "size" "I", Cond.methodLink RX5 162 yJx4a65c_get_915e3, Cond.instanceMethod yJx4a65c_get_915e3, Cond.selects RJx4a65c yJx4a65c_get_915e3 yJx4a65c_get_915e3, Cond.code yJx4a65c_get_915e3 cJx4a65c_get_915e3 2 (some (.object "java/lang/Object"))]
def wsL_guess_r2 : List Cond := [Cond.methodLink RJx4a65c 118 yJ15_checkIndex_7cf53, Cond.static yJ15_checkIndex_7cf53, Cond.initialized RJ15, Cond.code yJ15_checkIndex_7cf53 cJ15_checkIndex_7cf53 2 (some .int), Cond.methodLink RJ15 105 yJ3_checkIndex_8e157, Cond.static yJ3_checkIndex_8e157, Cond.initialized RJ3, Cond.code yJ3_checkIndex_8e157 cJ3_checkIndex_8e157 3 (some .int), Cond.methodLink RJx4a65c 123 yJx4a65c_elementData_915e3, Cond.instanceMethod yJx4a65c_elementData_915e3, Cond.selects RJx4a65c yJx4a65c_elementData_915e3 yJx4a65c_elementData_915e3, Cond.code yJx4a65c_elementData_915e3 cJx4a65c_elementData_915e3 2 (some (.object "java/lang/Object")), Cond.fieldLink RJx4a65c 9 "java/util/ArrayList" "elementData" "[Ljava/lang/Object;", Cond.methodLink RX5 256 yX5_guessFor, Cond.instanceMethod yX5_guessFor, Cond.selects RX5 yX5_guessFor yX5_guessFor, Cond.code yX5_guessFor cX5_guessFor 8 (some (.object "ModelCopies$Copy")), Cond.fieldLink RX5 118 "ModelCopies$Copy" "number" "I", Cond.methodLink RX5 233 yX0_modelIfTold, Cond.instanceMethod yX0_modelIfTold, Cond.selects RX0 yX0_modelIfTold yX0_modelIfTold, Cond.initialized RX0, Cond.code yX0_modelIfTold cX0_modelIfTold 1 (some (.object "ModelCopies$Copy")), Cond.fieldLink RX0 15 "ModelCopies$Copy" "isTold" "Z"]
def wsL_guess_r3 : List Cond := [Cond.fieldLink RX0 23 "ModelCopies$Copy" "model" "LModelCopies$Copy;", Cond.methodLink RX5 313 yX5_worthAsModel, Cond.static yX5_worthAsModel, Cond.code yX5_worthAsModel cX5_worthAsModel 4 (some .int), Cond.methodLink RX5 229 yX0_countSharedWith, Cond.instanceMethod yX0_countSharedWith, Cond.selects RX0 yX0_countSharedWith yX0_countSharedWith, Cond.code yX0_countSharedWith cX0_countSharedWith 4 (some .int), Cond.fieldLink RX0 9 "ModelCopies$Copy" "readings" "[I", Cond.methodLink RX5 226 yX0_countErrors, Cond.instanceMethod yX0_countErrors, Cond.selects RX0 yX0_countErrors yX0_countErrors, Cond.code yX0_countErrors cX0_countErrors 1 (some .int), Cond.methodLink RX0 47 yX0_countSharedWith, Cond.methodLink RX5 237 yX5_numberOf, Cond.static yX5_numberOf, Cond.code yX5_numberOf cX5_numberOf 1 (some .int)]
def wsL_guess : List Cond := .codeWith yL_guess cL_guess 4 (some .int) [(0, 9, 12, 13)] :: ((wsL_guess_r1 ++ (wsL_guess_r2 ++ wsL_guess_r3)) ++ wsX50 ++ wsJx4a65c0 ++ wsX00 ++ (vx_atS RX5 288 "java/lang/IndexOutOfBoundsException" ["java/lang/RuntimeException", "java/lang/Exception"]).filter goodWord)
def wsL_spread_r1 : List Cond := [Cond.classLink RL 13 "java/lang/IndexOutOfBoundsException", Cond.methodLink RL 73 yX5_spread, Cond.instanceMethod yX5_spread, Cond.selects RX5 yX5_spread yX5_spread, Cond.initialized RX5, Cond.code yX5_spread cX5_spread 3 (some .int), Cond.methodLink RX5 260 yX5_requireError, Cond.static yX5_requireError, Cond.code yX5_requireError cX5_requireError 2 none, Cond.classLink RX5 57 "java/lang/IllegalArgumentException", Cond.initialized "java/lang/IllegalArgumentException", Cond.methodLink RX5 54 yX5_requirePlace, Cond.static yX5_requirePlace, Cond.code yX5_requirePlace cX5_requirePlace 1 none, Cond.classLink RX5 284 "java/lang/IndexOutOfBoundsException", Cond.initialized "java/lang/IndexOutOfBoundsException", Cond.methodLink RX5 263 yX5_copiesThatRead, Cond.instanceMethod yX5_copiesThatRead, Cond.selects RX5 yX5_copiesThatRead yX5_copiesThatRead, Cond.code yX5_copiesThatRead cX5_copiesThatRead 7 (some .long), Cond.fieldLink RX5 16 "ModelCopies" "copies" "Ljava/util/ArrayList;", Cond.classLink RX5 49 "ModelCopies$Copy", Cond.fieldLink RX5 139 "ModelCopies$Copy" "readings" "[I", Cond.methodLink RX5 97 yJx4a65c_size_8abf5]
def wsL_spread_r2 : List Cond := [Cond.instanceMethod yJx4a65c_size_8abf5, Cond.selects RJx4a65c yJx4a65c_size_8abf5 yJx4a65c_size_8abf5, Cond.initialized RJx4a65c, Cond.code yJx4a65c_size_8abf5 cJx4a65c_size_8abf5 1 (some .int), Cond.fieldLink RJx4a65c 48 "java/util/ArrayList" "size" "I", Cond.methodLink RX5 162 yJx4a65c_get_915e3, Cond.instanceMethod yJx4a65c_get_915e3, Cond.selects RJx4a65c yJx4a65c_get_915e3 yJx4a65c_get_915e3, Cond.code yJx4a65c_get_915e3 cJx4a65c_get_915e3 2 (some (.object "java/lang/Object")), Cond.methodLink RJx4a65c 118 yJ15_checkIndex_7cf53, Cond.static yJ15_checkIndex_7cf53, Cond.initialized RJ15, Cond.code yJ15_checkIndex_7cf53 cJ15_checkIndex_7cf53 2 (some .int), Cond.methodLink RJ15 105 yJ3_checkIndex_8e157, Cond.static yJ3_checkIndex_8e157, Cond.initialized RJ3, Cond.code yJ3_checkIndex_8e157 cJ3_checkIndex_8e157 3 (some .int), Cond.methodLink RJx4a65c 123 yJx4a65c_elementData_915e3, Cond.instanceMethod yJx4a65c_elementData_915e3, Cond.selects RJx4a65c yJx4a65c_elementData_915e3 yJx4a65c_elementData_915e3, Cond.code yJx4a65c_elementData_915e3 cJx4a65c_elementData_915e3 2 (some (.object "java/lang/Object")), Cond.fieldLink RJx4a65c 9 "java/util/ArrayList" "elementData" "[Ljava/lang/Object;", Cond.methodLink RX5 240 yX5_setOf, Cond.static yX5_setOf]
def wsL_spread_r3 : List Cond := [Cond.code yX5_setOf cX5_setOf 1 (some .long), Cond.fieldLink RX5 118 "ModelCopies$Copy" "number" "I", Cond.methodLink RX5 267 yJ13_bitCount_95d88, Cond.static yJ13_bitCount_95d88, Cond.initialized RJ13, Cond.code yJ13_bitCount_95d88 cJ13_bitCount_95d88 2 (some .int), Cond.constantLong RJ13 314 (6148914691236517205), Cond.constantLong RJ13 316 (3689348814741910323), Cond.constantLong RJ13 318 (1085102592571150095)]
def wsL_spread : List Cond := .codeWith yL_spread cL_spread 5 (some .int) [(0, 10, 13, 13), (0, 10, 17, 15)] :: ((wsL_spread_r1 ++ (wsL_spread_r2 ++ wsL_spread_r3)) ++ wsX50 ++ wsX00 ++ wsJx4a65c0 ++ (vx_atS RX5 61 "java/lang/IllegalArgumentException" ["java/lang/RuntimeException", "java/lang/Exception"]).filter goodWord ++ (vx_atS RX5 288 "java/lang/IndexOutOfBoundsException" ["java/lang/RuntimeException", "java/lang/Exception"]).filter goodWord)
def wsL_sources_r1 : List Cond := [Cond.classLink RL 13 "java/lang/IndexOutOfBoundsException", Cond.methodLink RL 76 yX5_sources, Cond.instanceMethod yX5_sources, Cond.selects RX5 yX5_sources yX5_sources, Cond.initialized RX5, Cond.code yX5_sources cX5_sources 7 (some .int), Cond.fieldLink RX5 16 "ModelCopies" "copies" "Ljava/util/ArrayList;", Cond.classLink RX5 49 "ModelCopies$Copy", Cond.fieldLink RX5 139 "ModelCopies$Copy" "readings" "[I", Cond.methodLink RX5 260 yX5_requireError, Cond.static yX5_requireError, Cond.code yX5_requireError cX5_requireError 2 none, Cond.classLink RX5 57 "java/lang/IllegalArgumentException", Cond.initialized "java/lang/IllegalArgumentException", Cond.methodLink RX5 54 yX5_requirePlace, Cond.static yX5_requirePlace, Cond.code yX5_requirePlace cX5_requirePlace 1 none, Cond.classLink RX5 284 "java/lang/IndexOutOfBoundsException", Cond.initialized "java/lang/IndexOutOfBoundsException", Cond.methodLink RX5 97 yJx4a65c_size_8abf5, Cond.instanceMethod yJx4a65c_size_8abf5, Cond.selects RJx4a65c yJx4a65c_size_8abf5 yJx4a65c_size_8abf5, Cond.initialized RJx4a65c, Cond.code yJx4a65c_size_8abf5 cJx4a65c_size_8abf5 1 (some .int)]
def wsL_sources_r2 : List Cond := [Cond.fieldLink RJx4a65c 48 "java/util/ArrayList" "size" "I", Cond.methodLink RX5 162 yJx4a65c_get_915e3, Cond.instanceMethod yJx4a65c_get_915e3, Cond.selects RJx4a65c yJx4a65c_get_915e3 yJx4a65c_get_915e3, Cond.code yJx4a65c_get_915e3 cJx4a65c_get_915e3 2 (some (.object "java/lang/Object")), Cond.methodLink RJx4a65c 118 yJ15_checkIndex_7cf53, Cond.static yJ15_checkIndex_7cf53, Cond.initialized RJ15, Cond.code yJ15_checkIndex_7cf53 cJ15_checkIndex_7cf53 2 (some .int), Cond.methodLink RJ15 105 yJ3_checkIndex_8e157, Cond.static yJ3_checkIndex_8e157, Cond.initialized RJ3, Cond.code yJ3_checkIndex_8e157 cJ3_checkIndex_8e157 3 (some .int), Cond.methodLink RJx4a65c 123 yJx4a65c_elementData_915e3, Cond.instanceMethod yJx4a65c_elementData_915e3, Cond.selects RJx4a65c yJx4a65c_elementData_915e3 yJx4a65c_elementData_915e3, Cond.code yJx4a65c_elementData_915e3 cJx4a65c_elementData_915e3 2 (some (.object "java/lang/Object")), Cond.fieldLink RJx4a65c 9 "java/util/ArrayList" "elementData" "[Ljava/lang/Object;", Cond.methodLink RX5 256 yX5_guessFor, Cond.instanceMethod yX5_guessFor, Cond.selects RX5 yX5_guessFor yX5_guessFor, Cond.code yX5_guessFor cX5_guessFor 8 (some (.object "ModelCopies$Copy")), Cond.fieldLink RX5 118 "ModelCopies$Copy" "number" "I", Cond.methodLink RX5 233 yX0_modelIfTold]
def wsL_sources_r3 : List Cond := [Cond.instanceMethod yX0_modelIfTold, Cond.selects RX0 yX0_modelIfTold yX0_modelIfTold, Cond.initialized RX0, Cond.code yX0_modelIfTold cX0_modelIfTold 1 (some (.object "ModelCopies$Copy")), Cond.fieldLink RX0 15 "ModelCopies$Copy" "isTold" "Z", Cond.fieldLink RX0 23 "ModelCopies$Copy" "model" "LModelCopies$Copy;", Cond.methodLink RX5 313 yX5_worthAsModel, Cond.static yX5_worthAsModel, Cond.code yX5_worthAsModel cX5_worthAsModel 4 (some .int), Cond.methodLink RX5 229 yX0_countSharedWith, Cond.instanceMethod yX0_countSharedWith, Cond.selects RX0 yX0_countSharedWith yX0_countSharedWith, Cond.code yX0_countSharedWith cX0_countSharedWith 4 (some .int), Cond.fieldLink RX0 9 "ModelCopies$Copy" "readings" "[I", Cond.methodLink RX5 226 yX0_countErrors, Cond.instanceMethod yX0_countErrors, Cond.selects RX0 yX0_countErrors yX0_countErrors, Cond.code yX0_countErrors cX0_countErrors 1 (some .int), Cond.methodLink RX0 47 yX0_countSharedWith]
def wsL_sources : List Cond := .codeWith yL_sources cL_sources 5 (some .int) [(0, 10, 13, 13), (0, 10, 17, 15)] :: ((wsL_sources_r1 ++ (wsL_sources_r2 ++ wsL_sources_r3)) ++ wsX50 ++ wsX00 ++ wsJx4a65c0 ++ (vx_atS RX5 61 "java/lang/IllegalArgumentException" ["java/lang/RuntimeException", "java/lang/Exception"]).filter goodWord ++ (vx_atS RX5 288 "java/lang/IndexOutOfBoundsException" ["java/lang/RuntimeException", "java/lang/Exception"]).filter goodWord)
def wsL_hasLetter_r1 : List Cond := [Cond.classLink RL 13 "java/lang/IndexOutOfBoundsException", Cond.methodLink RL 79 yX5_hasLetter, Cond.instanceMethod yX5_hasLetter, Cond.selects RX5 yX5_hasLetter yX5_hasLetter, Cond.initialized RX5, Cond.code yX5_hasLetter cX5_hasLetter 4 (some .boolean), Cond.methodLink RX5 87 yX5_findHouse, Cond.instanceMethod yX5_findHouse, Cond.selects RX5 yX5_findHouse yX5_findHouse, Cond.code yX5_findHouse cX5_findHouse 2 (some (.object "ModelCopies$House")), Cond.classLink RX5 284 "java/lang/IndexOutOfBoundsException", Cond.initialized "java/lang/IndexOutOfBoundsException", Cond.fieldLink RX5 10 "ModelCopies" "houses" "Ljava/util/ArrayList;", Cond.classLink RX5 40 "ModelCopies$House", Cond.methodLink RX5 97 yJx4a65c_size_8abf5, Cond.instanceMethod yJx4a65c_size_8abf5, Cond.selects RJx4a65c yJx4a65c_size_8abf5 yJx4a65c_size_8abf5, Cond.initialized RJx4a65c, Cond.code yJx4a65c_size_8abf5 cJx4a65c_size_8abf5 1 (some .int), Cond.fieldLink RJx4a65c 48 "java/util/ArrayList" "size" "I", Cond.methodLink RX5 162 yJx4a65c_get_915e3, Cond.instanceMethod yJx4a65c_get_915e3, Cond.selects RJx4a65c yJx4a65c_get_915e3 yJx4a65c_get_915e3, Cond.code yJx4a65c_get_915e3 cJx4a65c_get_915e3 2 (some (.object "java/lang/Object"))]
def wsL_hasLetter_r2 : List Cond := [Cond.methodLink RJx4a65c 118 yJ15_checkIndex_7cf53, Cond.static yJ15_checkIndex_7cf53, Cond.initialized RJ15, Cond.code yJ15_checkIndex_7cf53 cJ15_checkIndex_7cf53 2 (some .int), Cond.methodLink RJ15 105 yJ3_checkIndex_8e157, Cond.static yJ3_checkIndex_8e157, Cond.initialized RJ3, Cond.code yJ3_checkIndex_8e157 cJ3_checkIndex_8e157 3 (some .int), Cond.methodLink RJx4a65c 123 yJx4a65c_elementData_915e3, Cond.instanceMethod yJx4a65c_elementData_915e3, Cond.selects RJx4a65c yJx4a65c_elementData_915e3 yJx4a65c_elementData_915e3, Cond.code yJx4a65c_elementData_915e3 cJx4a65c_elementData_915e3 2 (some (.object "java/lang/Object")), Cond.fieldLink RJx4a65c 9 "java/util/ArrayList" "elementData" "[Ljava/lang/Object;", Cond.methodLink RX5 272 yX5_requireLetter, Cond.instanceMethod yX5_requireLetter, Cond.selects RX5 yX5_requireLetter yX5_requireLetter, Cond.code yX5_requireLetter cX5_requireLetter 2 none, Cond.fieldLink RX5 19 "ModelCopies" "letters" "Ljava/util/ArrayList;", Cond.methodLink RX5 159 yX2_holds, Cond.instanceMethod yX2_holds, Cond.selects RX2 yX2_holds yX2_holds, Cond.initialized RX2, Cond.code yX2_holds cX2_holds 2 (some .boolean), Cond.fieldLink RX2 9 "ModelCopies$House" "held" "[Z"]
def wsL_hasLetter : List Cond := .codeWith yL_hasLetter cL_hasLetter 5 (some .int) [(0, 17, 20, 13)] :: ((wsL_hasLetter_r1 ++ wsL_hasLetter_r2) ++ wsX50 ++ wsJx4a65c0 ++ wsX20 ++ (vx_atS RX5 288 "java/lang/IndexOutOfBoundsException" ["java/lang/RuntimeException", "java/lang/Exception"]).filter goodWord)
def wsL_letter_r1 : List Cond := [Cond.classLink RL 13 "java/lang/IndexOutOfBoundsException", Cond.methodLink RL 83 yX5_letter, Cond.instanceMethod yX5_letter, Cond.selects RX5 yX5_letter yX5_letter, Cond.initialized RX5, Cond.code yX5_letter cX5_letter 3 (some .int), Cond.fieldLink RX5 19 "ModelCopies" "letters" "Ljava/util/ArrayList;", Cond.classLink RX5 146 "ModelCopies$Letter", Cond.fieldLink RX5 275 "ModelCopies$Letter" "place" "I", Cond.fieldLink RX5 278 "ModelCopies$Letter" "was" "I", Cond.fieldLink RX5 281 "ModelCopies$Letter" "now" "I", Cond.methodLink RX5 272 yX5_requireLetter, Cond.instanceMethod yX5_requireLetter, Cond.selects RX5 yX5_requireLetter yX5_requireLetter, Cond.code yX5_requireLetter cX5_requireLetter 2 none, Cond.classLink RX5 284 "java/lang/IndexOutOfBoundsException", Cond.initialized "java/lang/IndexOutOfBoundsException", Cond.methodLink RX5 97 yJx4a65c_size_8abf5, Cond.instanceMethod yJx4a65c_size_8abf5, Cond.selects RJx4a65c yJx4a65c_size_8abf5 yJx4a65c_size_8abf5, Cond.initialized RJx4a65c, Cond.code yJx4a65c_size_8abf5 cJx4a65c_size_8abf5 1 (some .int), Cond.fieldLink RJx4a65c 48 "java/util/ArrayList" "size" "I", Cond.methodLink RX5 162 yJx4a65c_get_915e3]
def wsL_letter_r2 : List Cond := [Cond.instanceMethod yJx4a65c_get_915e3, Cond.selects RJx4a65c yJx4a65c_get_915e3 yJx4a65c_get_915e3, Cond.code yJx4a65c_get_915e3 cJx4a65c_get_915e3 2 (some (.object "java/lang/Object")), Cond.methodLink RJx4a65c 118 yJ15_checkIndex_7cf53, Cond.static yJ15_checkIndex_7cf53, Cond.initialized RJ15, Cond.code yJ15_checkIndex_7cf53 cJ15_checkIndex_7cf53 2 (some .int), Cond.methodLink RJ15 105 yJ3_checkIndex_8e157, Cond.static yJ3_checkIndex_8e157, Cond.initialized RJ3, Cond.code yJ3_checkIndex_8e157 cJ3_checkIndex_8e157 3 (some .int), Cond.methodLink RJx4a65c 123 yJx4a65c_elementData_915e3, Cond.instanceMethod yJx4a65c_elementData_915e3, Cond.selects RJx4a65c yJx4a65c_elementData_915e3 yJx4a65c_elementData_915e3, Cond.code yJx4a65c_elementData_915e3 cJx4a65c_elementData_915e3 2 (some (.object "java/lang/Object")), Cond.fieldLink RJx4a65c 9 "java/util/ArrayList" "elementData" "[Ljava/lang/Object;"]
def wsL_letter : List Cond := .codeWith yL_letter cL_letter 4 (some .int) [(0, 9, 12, 13)] :: ((wsL_letter_r1 ++ wsL_letter_r2) ++ wsX50 ++ wsX30 ++ wsJx4a65c0 ++ (vx_atS RX5 288 "java/lang/IndexOutOfBoundsException" ["java/lang/RuntimeException", "java/lang/Exception"]).filter goodWord)
def wsL_isBack_r1 : List Cond := [Cond.classLink RL 13 "java/lang/IndexOutOfBoundsException", Cond.methodLink RL 86 yX5_isBack, Cond.instanceMethod yX5_isBack, Cond.selects RX5 yX5_isBack yX5_isBack, Cond.initialized RX5, Cond.code yX5_isBack cX5_isBack 2 (some .boolean), Cond.fieldLink RX5 202 "ModelCopies$Loan" "isBack" "Z", Cond.methodLink RX5 198 yX5_findLoan, Cond.instanceMethod yX5_findLoan, Cond.selects RX5 yX5_findLoan yX5_findLoan, Cond.code yX5_findLoan cX5_findLoan 2 (some (.object "ModelCopies$Loan")), Cond.classLink RX5 284 "java/lang/IndexOutOfBoundsException", Cond.initialized "java/lang/IndexOutOfBoundsException", Cond.fieldLink RX5 22 "ModelCopies" "loans" "Ljava/util/ArrayList;", Cond.classLink RX5 186 "ModelCopies$Loan", Cond.methodLink RX5 97 yJx4a65c_size_8abf5, Cond.instanceMethod yJx4a65c_size_8abf5, Cond.selects RJx4a65c yJx4a65c_size_8abf5 yJx4a65c_size_8abf5, Cond.initialized RJx4a65c, Cond.code yJx4a65c_size_8abf5 cJx4a65c_size_8abf5 1 (some .int), Cond.fieldLink RJx4a65c 48 "java/util/ArrayList" "size" "I", Cond.methodLink RX5 162 yJx4a65c_get_915e3, Cond.instanceMethod yJx4a65c_get_915e3, Cond.selects RJx4a65c yJx4a65c_get_915e3 yJx4a65c_get_915e3]
def wsL_isBack_r2 : List Cond := [Cond.code yJx4a65c_get_915e3 cJx4a65c_get_915e3 2 (some (.object "java/lang/Object")), Cond.methodLink RJx4a65c 118 yJ15_checkIndex_7cf53, Cond.static yJ15_checkIndex_7cf53, Cond.initialized RJ15, Cond.code yJ15_checkIndex_7cf53 cJ15_checkIndex_7cf53 2 (some .int), Cond.methodLink RJ15 105 yJ3_checkIndex_8e157, Cond.static yJ3_checkIndex_8e157, Cond.initialized RJ3, Cond.code yJ3_checkIndex_8e157 cJ3_checkIndex_8e157 3 (some .int), Cond.methodLink RJx4a65c 123 yJx4a65c_elementData_915e3, Cond.instanceMethod yJx4a65c_elementData_915e3, Cond.selects RJx4a65c yJx4a65c_elementData_915e3 yJx4a65c_elementData_915e3, Cond.code yJx4a65c_elementData_915e3 cJx4a65c_elementData_915e3 2 (some (.object "java/lang/Object")), Cond.fieldLink RJx4a65c 9 "java/util/ArrayList" "elementData" "[Ljava/lang/Object;"]
def wsL_isBack : List Cond := .codeWith yL_isBack cL_isBack 4 (some .int) [(0, 16, 19, 13)] :: ((wsL_isBack_r1 ++ wsL_isBack_r2) ++ wsX40 ++ wsX50 ++ wsJx4a65c0 ++ (vx_atS RX5 288 "java/lang/IndexOutOfBoundsException" ["java/lang/RuntimeException", "java/lang/Exception"]).filter goodWord)
def wsL_late_r1 : List Cond := [Cond.classLink RL 13 "java/lang/IndexOutOfBoundsException", Cond.methodLink RL 90 yX5_late, Cond.instanceMethod yX5_late, Cond.selects RX5 yX5_late yX5_late, Cond.initialized RX5, Cond.code yX5_late cX5_late 3 (some .int), Cond.fieldLink RX5 202 "ModelCopies$Loan" "isBack" "Z", Cond.fieldLink RX5 220 "ModelCopies$Loan" "daysLateAtEnd" "I", Cond.fieldLink RX5 36 "ModelCopies" "today" "I", Cond.methodLink RX5 198 yX5_findLoan, Cond.instanceMethod yX5_findLoan, Cond.selects RX5 yX5_findLoan yX5_findLoan, Cond.code yX5_findLoan cX5_findLoan 2 (some (.object "ModelCopies$Loan")), Cond.classLink RX5 284 "java/lang/IndexOutOfBoundsException", Cond.initialized "java/lang/IndexOutOfBoundsException", Cond.fieldLink RX5 22 "ModelCopies" "loans" "Ljava/util/ArrayList;", Cond.classLink RX5 186 "ModelCopies$Loan", Cond.methodLink RX5 97 yJx4a65c_size_8abf5, Cond.instanceMethod yJx4a65c_size_8abf5, Cond.selects RJx4a65c yJx4a65c_size_8abf5 yJx4a65c_size_8abf5, Cond.initialized RJx4a65c, Cond.code yJx4a65c_size_8abf5 cJx4a65c_size_8abf5 1 (some .int), Cond.fieldLink RJx4a65c 48 "java/util/ArrayList" "size" "I", Cond.methodLink RX5 162 yJx4a65c_get_915e3]
def wsL_late_r2 : List Cond := [Cond.instanceMethod yJx4a65c_get_915e3, Cond.selects RJx4a65c yJx4a65c_get_915e3 yJx4a65c_get_915e3, Cond.code yJx4a65c_get_915e3 cJx4a65c_get_915e3 2 (some (.object "java/lang/Object")), Cond.methodLink RJx4a65c 118 yJ15_checkIndex_7cf53, Cond.static yJ15_checkIndex_7cf53, Cond.initialized RJ15, Cond.code yJ15_checkIndex_7cf53 cJ15_checkIndex_7cf53 2 (some .int), Cond.methodLink RJ15 105 yJ3_checkIndex_8e157, Cond.static yJ3_checkIndex_8e157, Cond.initialized RJ3, Cond.code yJ3_checkIndex_8e157 cJ3_checkIndex_8e157 3 (some .int), Cond.methodLink RJx4a65c 123 yJx4a65c_elementData_915e3, Cond.instanceMethod yJx4a65c_elementData_915e3, Cond.selects RJx4a65c yJx4a65c_elementData_915e3 yJx4a65c_elementData_915e3, Cond.code yJx4a65c_elementData_915e3 cJx4a65c_elementData_915e3 2 (some (.object "java/lang/Object")), Cond.fieldLink RJx4a65c 9 "java/util/ArrayList" "elementData" "[Ljava/lang/Object;", Cond.methodLink RX5 217 yX4_daysLateOn, Cond.instanceMethod yX4_daysLateOn, Cond.selects RX4 yX4_daysLateOn yX4_daysLateOn, Cond.initialized RX4, Cond.code yX4_daysLateOn cX4_daysLateOn 2 (some .int), Cond.fieldLink RX4 27 "ModelCopies$Loan" "lastDay" "I", Cond.methodLink RX4 33 Lib.Math.max.name, Cond.static Lib.Math.max.name]
def wsL_late_r3 : List Cond := [Cond.initialized "java/lang/Math", Cond.code Lib.Math.max.name Lib.Math.max.code 2 (some .int)]
def wsL_late : List Cond := .codeWith yL_late cL_late 4 (some .int) [(0, 9, 12, 13)] :: ((wsL_late_r1 ++ (wsL_late_r2 ++ wsL_late_r3)) ++ wsX40 ++ wsX50 ++ wsJx4a65c0 ++ (vx_atS RX5 288 "java/lang/IndexOutOfBoundsException" ["java/lang/RuntimeException", "java/lang/Exception"]).filter goodWord)
def wsL_coins_r1 : List Cond := [Cond.classLink RL 13 "java/lang/IndexOutOfBoundsException", Cond.methodLink RL 93 yX5_coins, Cond.instanceMethod yX5_coins, Cond.selects RX5 yX5_coins yX5_coins, Cond.initialized RX5, Cond.code yX5_coins cX5_coins 2 (some .int), Cond.fieldLink RX5 179 "ModelCopies$House" "coins" "I", Cond.methodLink RX5 87 yX5_findHouse, Cond.instanceMethod yX5_findHouse, Cond.selects RX5 yX5_findHouse yX5_findHouse, Cond.code yX5_findHouse cX5_findHouse 2 (some (.object "ModelCopies$House")), Cond.classLink RX5 284 "java/lang/IndexOutOfBoundsException", Cond.initialized "java/lang/IndexOutOfBoundsException", Cond.fieldLink RX5 10 "ModelCopies" "houses" "Ljava/util/ArrayList;", Cond.classLink RX5 40 "ModelCopies$House", Cond.methodLink RX5 97 yJx4a65c_size_8abf5, Cond.instanceMethod yJx4a65c_size_8abf5, Cond.selects RJx4a65c yJx4a65c_size_8abf5 yJx4a65c_size_8abf5, Cond.initialized RJx4a65c, Cond.code yJx4a65c_size_8abf5 cJx4a65c_size_8abf5 1 (some .int), Cond.fieldLink RJx4a65c 48 "java/util/ArrayList" "size" "I", Cond.methodLink RX5 162 yJx4a65c_get_915e3, Cond.instanceMethod yJx4a65c_get_915e3, Cond.selects RJx4a65c yJx4a65c_get_915e3 yJx4a65c_get_915e3]
def wsL_coins_r2 : List Cond := [Cond.code yJx4a65c_get_915e3 cJx4a65c_get_915e3 2 (some (.object "java/lang/Object")), Cond.methodLink RJx4a65c 118 yJ15_checkIndex_7cf53, Cond.static yJ15_checkIndex_7cf53, Cond.initialized RJ15, Cond.code yJ15_checkIndex_7cf53 cJ15_checkIndex_7cf53 2 (some .int), Cond.methodLink RJ15 105 yJ3_checkIndex_8e157, Cond.static yJ3_checkIndex_8e157, Cond.initialized RJ3, Cond.code yJ3_checkIndex_8e157 cJ3_checkIndex_8e157 3 (some .int), Cond.methodLink RJx4a65c 123 yJx4a65c_elementData_915e3, Cond.instanceMethod yJx4a65c_elementData_915e3, Cond.selects RJx4a65c yJx4a65c_elementData_915e3 yJx4a65c_elementData_915e3, Cond.code yJx4a65c_elementData_915e3 cJx4a65c_elementData_915e3 2 (some (.object "java/lang/Object")), Cond.fieldLink RJx4a65c 9 "java/util/ArrayList" "elementData" "[Ljava/lang/Object;"]
def wsL_coins : List Cond := .codeWith yL_coins cL_coins 4 (some .int) [(0, 9, 12, 13)] :: ((wsL_coins_r1 ++ wsL_coins_r2) ++ wsX20 ++ wsX50 ++ wsJx4a65c0 ++ (vx_atS RX5 288 "java/lang/IndexOutOfBoundsException" ["java/lang/RuntimeException", "java/lang/Exception"]).filter goodWord)
def wsL_laidDown_r1 : List Cond := [Cond.classLink RL 13 "java/lang/IndexOutOfBoundsException", Cond.methodLink RL 96 yX5_laidDown, Cond.instanceMethod yX5_laidDown, Cond.selects RX5 yX5_laidDown yX5_laidDown, Cond.initialized RX5, Cond.code yX5_laidDown cX5_laidDown 2 (some .int), Cond.fieldLink RX5 191 "ModelCopies$House" "laidDown" "I", Cond.methodLink RX5 87 yX5_findHouse, Cond.instanceMethod yX5_findHouse, Cond.selects RX5 yX5_findHouse yX5_findHouse, Cond.code yX5_findHouse cX5_findHouse 2 (some (.object "ModelCopies$House")), Cond.classLink RX5 284 "java/lang/IndexOutOfBoundsException", Cond.initialized "java/lang/IndexOutOfBoundsException", Cond.fieldLink RX5 10 "ModelCopies" "houses" "Ljava/util/ArrayList;", Cond.classLink RX5 40 "ModelCopies$House", Cond.methodLink RX5 97 yJx4a65c_size_8abf5, Cond.instanceMethod yJx4a65c_size_8abf5, Cond.selects RJx4a65c yJx4a65c_size_8abf5 yJx4a65c_size_8abf5, Cond.initialized RJx4a65c, Cond.code yJx4a65c_size_8abf5 cJx4a65c_size_8abf5 1 (some .int), Cond.fieldLink RJx4a65c 48 "java/util/ArrayList" "size" "I", Cond.methodLink RX5 162 yJx4a65c_get_915e3, Cond.instanceMethod yJx4a65c_get_915e3, Cond.selects RJx4a65c yJx4a65c_get_915e3 yJx4a65c_get_915e3]
def wsL_laidDown_r2 : List Cond := [Cond.code yJx4a65c_get_915e3 cJx4a65c_get_915e3 2 (some (.object "java/lang/Object")), Cond.methodLink RJx4a65c 118 yJ15_checkIndex_7cf53, Cond.static yJ15_checkIndex_7cf53, Cond.initialized RJ15, Cond.code yJ15_checkIndex_7cf53 cJ15_checkIndex_7cf53 2 (some .int), Cond.methodLink RJ15 105 yJ3_checkIndex_8e157, Cond.static yJ3_checkIndex_8e157, Cond.initialized RJ3, Cond.code yJ3_checkIndex_8e157 cJ3_checkIndex_8e157 3 (some .int), Cond.methodLink RJx4a65c 123 yJx4a65c_elementData_915e3, Cond.instanceMethod yJx4a65c_elementData_915e3, Cond.selects RJx4a65c yJx4a65c_elementData_915e3 yJx4a65c_elementData_915e3, Cond.code yJx4a65c_elementData_915e3 cJx4a65c_elementData_915e3 2 (some (.object "java/lang/Object")), Cond.fieldLink RJx4a65c 9 "java/util/ArrayList" "elementData" "[Ljava/lang/Object;"]
def wsL_laidDown : List Cond := .codeWith yL_laidDown cL_laidDown 4 (some .int) [(0, 9, 12, 13)] :: ((wsL_laidDown_r1 ++ wsL_laidDown_r2) ++ wsX20 ++ wsX50 ++ wsJx4a65c0 ++ (vx_atS RX5 288 "java/lang/IndexOutOfBoundsException" ["java/lang/RuntimeException", "java/lang/Exception"]).filter goodWord)
def wsL_law0_r1 : List Cond := [Cond.classLink RL 8 RX5, Cond.instantiable RX5 7, Cond.initialized RX5, Cond.classLink RL 100 RX6, Cond.instantiable RX6 26, Cond.initialized RX6, Cond.arrayClass .long, Cond.methodLink RL 99 yX5_init, Cond.instanceMethod yX5_init, Cond.code yX5_init cX5_init 3 none, Cond.methodLink RX5 1 objectInit, Cond.instanceMethod objectInit, Cond.code objectInit ⟨#[0xb1]⟩ 1 none, Cond.classLink RX5 7 RJx4a65c, Cond.instantiable RJx4a65c 3, Cond.initialized RJx4a65c, Cond.fieldLink RX5 10 "ModelCopies" "houses" "Ljava/util/ArrayList;", Cond.fieldLink RX5 16 "ModelCopies" "copies" "Ljava/util/ArrayList;", Cond.fieldLink RX5 19 "ModelCopies" "letters" "Ljava/util/ArrayList;", Cond.fieldLink RX5 22 "ModelCopies" "loans" "Ljava/util/ArrayList;", Cond.arrayClass .int, Cond.fieldLink RX5 25 "ModelCopies" "slipsByScribe" "[I", Cond.classLink RX5 29 RX1, Cond.instantiable RX1 2]
def wsL_law0_r2 : List Cond := [Cond.initialized RX1, Cond.fieldLink RX5 32 "ModelCopies" "draft" "LModelCopies$Draft;", Cond.fieldLink RX5 36 "ModelCopies" "today" "I", Cond.classLink RX5 40 RX2, Cond.instantiable RX2 4, Cond.initialized RX2, Cond.classLink RX5 49 RX0, Cond.instantiable RX0 7, Cond.initialized RX0, Cond.methodLink RX5 9 yJx4a65c_init_da8c8, Cond.instanceMethod yJx4a65c_init_da8c8, Cond.code yJx4a65c_init_da8c8 cJx4a65c_init_da8c8 1 none, Cond.fieldLink RJx4a65c 39 "java/util/ArrayList" "DEFAULTCAPACITY_EMPTY_ELEMENTDATA" "[Ljava/lang/Object;", Cond.fieldLink RJx4a65c 9 "java/util/ArrayList" "elementData" "[Ljava/lang/Object;", Cond.methodLink RJx4a65c 1 yJxc12de_init_da8c8, Cond.instanceMethod yJxc12de_init_da8c8, Cond.initialized RJxc12de, Cond.code yJxc12de_init_da8c8 cJxc12de_init_da8c8 1 none, Cond.fieldLink RJxc12de 7 "java/util/AbstractList" "modCount" "I", Cond.methodLink RJxc12de 1 yJxa1e45_init_da8c8, Cond.instanceMethod yJxa1e45_init_da8c8, Cond.initialized RJxa1e45, Cond.code yJxa1e45_init_da8c8 cJxa1e45_init_da8c8 1 none, Cond.methodLink RJxa1e45 1 objectInit]
def wsL_law0_r3 : List Cond := [Cond.methodLink RX5 31 yX1_init, Cond.instanceMethod yX1_init, Cond.code yX1_init cX1_init 1 none, Cond.methodLink RX1 3 objectInit, Cond.fieldLink RX1 9 "ModelCopies$Draft" "readings" "[I", Cond.fieldLink RX1 15 "ModelCopies$Draft" "filled" "I", Cond.methodLink RX1 19 yJ7_fill_53178, Cond.static yJ7_fill_53178, Cond.initialized RJ7, Cond.code yJ7_fill_53178 cJ7_fill_53178 4 none, Cond.methodLink RX5 42 yX2_init, Cond.instanceMethod yX2_init, Cond.code yX2_init cX2_init 2 none, Cond.methodLink RX2 3 objectInit, Cond.arrayClass .boolean, Cond.fieldLink RX2 9 "ModelCopies$House" "held" "[Z", Cond.fieldLink RX2 15 "ModelCopies$House" "coins" "I", Cond.fieldLink RX2 19 "ModelCopies$House" "laidDown" "I", Cond.fieldLink RX2 22 "ModelCopies$House" "number" "I", Cond.methodLink RX5 45 yJx4a65c_add_9ea2d, Cond.instanceMethod yJx4a65c_add_9ea2d, Cond.selects RJx4a65c yJx4a65c_add_9ea2d yJx4a65c_add_9ea2d, Cond.code yJx4a65c_add_9ea2d cJx4a65c_add_9ea2d 2 (some .boolean), Cond.fieldLink RJx4a65c 63 "java/util/ArrayList" "modCount" "I"]
def wsL_law0_r4 : List Cond := [Cond.sameField "java/util/ArrayList" "java/util/AbstractList" "modCount" "I", Cond.fieldLink RJx4a65c 48 "java/util/ArrayList" "size" "I", Cond.methodLink RJx4a65c 131 yJx4a65c_add_72be8, Cond.instanceMethod yJx4a65c_add_72be8, Cond.selects RJx4a65c yJx4a65c_add_72be8 yJx4a65c_add_72be8, Cond.code yJx4a65c_add_72be8 cJx4a65c_add_72be8 4 none, Cond.methodLink RJx4a65c 129 yJx4a65c_grow_d5877, Cond.instanceMethod yJx4a65c_grow_d5877, Cond.selects RJx4a65c yJx4a65c_grow_d5877 yJx4a65c_grow_d5877, Cond.code yJx4a65c_grow_d5877 cJx4a65c_grow_d5877 1 (some (.array (.object "java/lang/Object"))), Cond.methodLink RJx4a65c 69 yJx4a65c_grow_92f84, Cond.instanceMethod yJx4a65c_grow_92f84, Cond.selects RJx4a65c yJx4a65c_grow_92f84 yJx4a65c_grow_92f84, Cond.code yJx4a65c_grow_92f84 cJx4a65c_grow_92f84 4 (some (.array (.object "java/lang/Object"))), Cond.methodLink RJx4a65c 79 Lib.Math.max.name, Cond.static Lib.Math.max.name, Cond.initialized "java/lang/Math", Cond.code Lib.Math.max.name Lib.Math.max.code 2 (some .int), Cond.classLink RJx4a65c 7 "java/lang/Object", Cond.methodLink RJx4a65c 73 yJ8_newLength_cabcc, Cond.static yJ8_newLength_cabcc, Cond.initialized RJ8, Cond.code yJ8_newLength_cabcc cJ8_newLength_cabcc 4 (some .int), Cond.methodLink RJ8 194 Lib.Math.max.name]
def wsL_law0_r5 : List Cond := [Cond.constant RJ8 200 (2147483639), Cond.methodLink RJ8 201 yJ8_hugeLength_7cf53, Cond.static yJ8_hugeLength_7cf53, Cond.code yJ8_hugeLength_7cf53 cJ8_hugeLength_7cf53 3 (some .int), Cond.methodLink RJx4a65c 66 yJ7_copyOf_1904c, Cond.static yJ7_copyOf_1904c, Cond.code yJ7_copyOf_1904c cJ7_copyOf_1904c 2 (some (.array (.object "java/lang/Object"))), Cond.methodLink RJ7 86 ⟨"java/lang/Object", "getClass", "()Ljava/lang/Class;"⟩, Cond.selects "[Ljava/lang/Object;" ⟨"java/lang/Object", "getClass", "()Ljava/lang/Class;"⟩ ⟨"java/lang/Object", "getClass", "()Ljava/lang/Class;"⟩, Cond.instanceMethod ⟨"java/lang/Object", "getClass", "()Ljava/lang/Class;"⟩, Cond.native ⟨"java/lang/Object", "getClass", "()Ljava/lang/Class;"⟩, Cond.methodLink RJ7 300 yJ7_copyOf_6403c, Cond.static yJ7_copyOf_6403c, Cond.code yJ7_copyOf_6403c cJ7_copyOf_6403c 4 (some (.array (.object "java/lang/Object"))), Cond.classLink RJ7 110 "[Ljava/lang/Object;", Cond.classLink RJ7 2 "java/lang/Object", Cond.methodLink RJ7 304 Lib.Math.min.name, Cond.static Lib.Math.min.name, Cond.code Lib.Math.min.name Lib.Math.min.code 2 (some .int), Cond.methodLink RJ7 150 arraycopyName, Cond.native arraycopyName, Cond.static arraycopyName, Cond.initialized "java/lang/System", Cond.methodLink RX5 51 yX0_init]
def wsL_law0_r6 : List Cond := [Cond.instanceMethod yX0_init, Cond.code yX0_init cX0_init 4 none, Cond.methodLink RX0 3 objectInit, Cond.fieldLink RX0 9 "ModelCopies$Copy" "readings" "[I", Cond.fieldLink RX0 15 "ModelCopies$Copy" "isTold" "Z", Cond.fieldLink RX0 19 "ModelCopies$Copy" "number" "I", Cond.fieldLink RX0 23 "ModelCopies$Copy" "model" "LModelCopies$Copy;", Cond.fieldLink RX0 27 "ModelCopies$Copy" "owner" "LModelCopies$House;", Cond.fieldLink RX0 31 "ModelCopies$Copy" "house" "LModelCopies$House;", Cond.fieldLink RX0 34 "ModelCopies$Copy" "family" "I", Cond.methodLink RX0 37 arraycopyName, Cond.methodLink RL 102 yX6_init, Cond.instanceMethod yX6_init, Cond.code yX6_init cX6_init 2 none, Cond.methodLink RX6 1 objectInit, Cond.fieldLink RX6 7 "ModelCopiesModel" "readings" "[I", Cond.fieldLink RX6 13 "ModelCopiesModel" "models" "[I", Cond.fieldLink RX6 16 "ModelCopiesModel" "told" "[Z", Cond.fieldLink RX6 20 "ModelCopiesModel" "owners" "[I", Cond.fieldLink RX6 23 "ModelCopiesModel" "houses" "[I", Cond.fieldLink RX6 26 "ModelCopiesModel" "copies" "I", Cond.fieldLink RX6 30 "ModelCopiesModel" "draft" "[I", Cond.fieldLink RX6 33 "ModelCopiesModel" "slips" "[I", Cond.fieldLink RX6 36 "ModelCopiesModel" "spots" "[I"]
def wsL_law0_r7 : List Cond := [Cond.fieldLink RX6 39 "ModelCopiesModel" "olds" "[I", Cond.fieldLink RX6 42 "ModelCopiesModel" "news" "[I", Cond.fieldLink RX6 45 "ModelCopiesModel" "has" "[Z", Cond.fieldLink RX6 48 "ModelCopiesModel" "lent" "[I", Cond.fieldLink RX6 51 "ModelCopiesModel" "borrowers" "[I", Cond.fieldLink RX6 54 "ModelCopiesModel" "lasts" "[I", Cond.fieldLink RX6 57 "ModelCopiesModel" "pledges" "[I", Cond.fieldLink RX6 60 "ModelCopiesModel" "lates" "[I", Cond.fieldLink RX6 63 "ModelCopiesModel" "back" "[Z", Cond.fieldLink RX6 66 "ModelCopiesModel" "coins" "[I", Cond.fieldLink RX6 69 "ModelCopiesModel" "laid" "[I", Cond.fieldLink RX6 72 "ModelCopiesModel" "families" "[I", Cond.methodLink RL 103 yL_slip, Cond.static yL_slip, Cond.initialized RL, Cond.codeWith yL_slip cL_slip 5 (some .int) [(0, 10, 13, 13), (0, 10, 17, 15), (0, 10, 21, 17)], Cond.classLink RL 13 "java/lang/IndexOutOfBoundsException", Cond.methodLink RL 7 yX5_slip, Cond.instanceMethod yX5_slip, Cond.selects RX5 yX5_slip yX5_slip, Cond.code yX5_slip cX5_slip 3 (some .int), Cond.classLink RX5 57 "java/lang/IllegalArgumentException", Cond.initialized "java/lang/IllegalArgumentException", Cond.classLink RX5 68 "java/lang/IllegalStateException"]
def wsL_law0_r8 : List Cond := [Cond.initialized "java/lang/IllegalStateException", Cond.fieldLink RX5 77 "ModelCopies$Draft" "filled" "I", Cond.methodLink RX5 54 yX5_requirePlace, Cond.static yX5_requirePlace, Cond.code yX5_requirePlace cX5_requirePlace 1 none, Cond.classLink RX5 284 "java/lang/IndexOutOfBoundsException", Cond.initialized "java/lang/IndexOutOfBoundsException", Cond.methodLink RX5 64 yX1_hasRoomAt, Cond.instanceMethod yX1_hasRoomAt, Cond.selects RX1 yX1_hasRoomAt yX1_hasRoomAt, Cond.code yX1_hasRoomAt cX1_hasRoomAt 2 (some .boolean), Cond.methodLink RX1 25 yX1_isFilled, Cond.instanceMethod yX1_isFilled, Cond.selects RX1 yX1_isFilled yX1_isFilled, Cond.code yX1_isFilled cX1_isFilled 2 (some .boolean), Cond.methodLink RX5 73 yX1_put, Cond.instanceMethod yX1_put, Cond.selects RX1 yX1_put yX1_put, Cond.code yX1_put cX1_put 3 none, Cond.methodLink RL 108 yX6_slip, Cond.instanceMethod yX6_slip, Cond.selects RX6 yX6_slip yX6_slip, Cond.code yX6_slip cX6_slip 5 (some .int), Cond.fieldLink RX6 92 "ModelCopiesModel" "drafted" "I"]
def wsL_law0_r9 : List Cond := [Cond.methodLink RX6 88 yX6_isPlace, Cond.static yX6_isPlace, Cond.code yX6_isPlace cX6_isPlace 1 (some .boolean), Cond.methodLink RX6 78 yX6_in, Cond.static yX6_in, Cond.code yX6_in cX6_in 3 (some .boolean), Cond.methodLink RX6 95 yX6_goes, Cond.instanceMethod yX6_goes, Cond.selects RX6 yX6_goes yX6_goes, Cond.code yX6_goes cX6_goes 4 (some .boolean), Cond.fieldLink RX6 75 "ModelCopiesModel" "last" "I", Cond.methodLink RL 109 yX6_thrown, Cond.instanceMethod yX6_thrown, Cond.selects RX6 yX6_thrown yX6_thrown, Cond.code yX6_thrown cX6_thrown 1 (some .int), Cond.methodLink RL 113 yL_copy, Cond.static yL_copy, Cond.codeWith yL_copy cL_copy 7 (some .int) [(0, 14, 17, 13), (0, 14, 21, 17)], Cond.methodLink RL 19 yX5_copy, Cond.instanceMethod yX5_copy, Cond.selects RX5 yX5_copy yX5_copy, Cond.code yX5_copy cX5_copy 8 (some .int), Cond.fieldLink RX5 91 "ModelCopies$Copy" "house" "LModelCopies$House;", Cond.fieldLink RX5 103 "ModelCopies$Copy" "isTold" "Z"]
def wsL_law0_r10 : List Cond := [Cond.fieldLink RX5 118 "ModelCopies$Copy" "number" "I", Cond.methodLink RX5 80 yX5_findCopy, Cond.instanceMethod yX5_findCopy, Cond.selects RX5 yX5_findCopy yX5_findCopy, Cond.code yX5_findCopy cX5_findCopy 2 (some (.object "ModelCopies$Copy")), Cond.classLink RX5 49 "ModelCopies$Copy", Cond.methodLink RX5 97 yJx4a65c_size_8abf5, Cond.instanceMethod yJx4a65c_size_8abf5, Cond.selects RJx4a65c yJx4a65c_size_8abf5 yJx4a65c_size_8abf5, Cond.code yJx4a65c_size_8abf5 cJx4a65c_size_8abf5 1 (some .int), Cond.methodLink RX5 162 yJx4a65c_get_915e3, Cond.instanceMethod yJx4a65c_get_915e3, Cond.selects RJx4a65c yJx4a65c_get_915e3 yJx4a65c_get_915e3, Cond.code yJx4a65c_get_915e3 cJx4a65c_get_915e3 2 (some (.object "java/lang/Object")), Cond.methodLink RJx4a65c 118 yJ15_checkIndex_7cf53, Cond.static yJ15_checkIndex_7cf53, Cond.initialized RJ15, Cond.code yJ15_checkIndex_7cf53 cJ15_checkIndex_7cf53 2 (some .int), Cond.methodLink RJ15 105 yJ3_checkIndex_8e157, Cond.static yJ3_checkIndex_8e157, Cond.initialized RJ3, Cond.code yJ3_checkIndex_8e157 cJ3_checkIndex_8e157 3 (some .int), Cond.methodLink RJx4a65c 123 yJx4a65c_elementData_915e3, Cond.instanceMethod yJx4a65c_elementData_915e3]
def wsL_law0_r11 : List Cond := [Cond.selects RJx4a65c yJx4a65c_elementData_915e3 yJx4a65c_elementData_915e3, Cond.code yJx4a65c_elementData_915e3 cJx4a65c_elementData_915e3 2 (some (.object "java/lang/Object")), Cond.methodLink RX5 84 yX5_requireScribe, Cond.static yX5_requireScribe, Cond.code yX5_requireScribe cX5_requireScribe 1 none, Cond.methodLink RX5 87 yX5_findHouse, Cond.instanceMethod yX5_findHouse, Cond.selects RX5 yX5_findHouse yX5_findHouse, Cond.code yX5_findHouse cX5_findHouse 2 (some (.object "ModelCopies$House")), Cond.classLink RX5 40 "ModelCopies$House", Cond.methodLink RX5 107 yX1_writeInto, Cond.instanceMethod yX1_writeInto, Cond.selects RX1 yX1_writeInto yX1_writeInto, Cond.code yX1_writeInto cX1_writeInto 4 (some .int), Cond.fieldLink RX1 29 "ModelCopies$Copy" "readings" "[I", Cond.methodLink RX5 111 yX1_clear, Cond.instanceMethod yX1_clear, Cond.selects RX1 yX1_clear yX1_clear, Cond.code yX1_clear cX1_clear 1 none, Cond.methodLink RX5 114 yX5_enterFamily, Cond.instanceMethod yX5_enterFamily, Cond.selects RX5 yX5_enterFamily yX5_enterFamily, Cond.code yX5_enterFamily cX5_enterFamily 4 none, Cond.fieldLink RX5 127 "ModelCopies$Copy" "family" "I"]
def wsL_law0_r12 : List Cond := [Cond.methodLink RX5 301 yX0_isKinOf, Cond.instanceMethod yX0_isKinOf, Cond.selects RX0 yX0_isKinOf yX0_isKinOf, Cond.code yX0_isKinOf cX0_isKinOf 2 (some .boolean), Cond.methodLink RX0 43 yX0_modelIfTold, Cond.instanceMethod yX0_modelIfTold, Cond.selects RX0 yX0_modelIfTold yX0_modelIfTold, Cond.code yX0_modelIfTold cX0_modelIfTold 1 (some (.object "ModelCopies$Copy")), Cond.methodLink RX0 47 yX0_countSharedWith, Cond.instanceMethod yX0_countSharedWith, Cond.selects RX0 yX0_countSharedWith yX0_countSharedWith, Cond.code yX0_countSharedWith cX0_countSharedWith 4 (some .int), Cond.methodLink RX5 130 yX5_joinFamilies, Cond.instanceMethod yX5_joinFamilies, Cond.selects RX5 yX5_joinFamilies yX5_joinFamilies, Cond.code yX5_joinFamilies cX5_joinFamilies 7 none, Cond.methodLink RX5 304 Lib.Math.min.name, Cond.methodLink RX5 310 Lib.Math.max.name, Cond.methodLink RL 116 yX6_copy, Cond.instanceMethod yX6_copy, Cond.selects RX6 yX6_copy yX6_copy, Cond.code yX6_copy cX6_copy 8 (some .int), Cond.methodLink RX6 99 yX6_isCopy, Cond.instanceMethod yX6_isCopy]
def wsL_law0_r13 : List Cond := [Cond.selects RX6 yX6_isCopy yX6_isCopy, Cond.code yX6_isCopy cX6_isCopy 2 (some .boolean), Cond.methodLink RX6 102 yX6_isScribe, Cond.static yX6_isScribe, Cond.code yX6_isScribe cX6_isScribe 1 (some .boolean), Cond.methodLink RX6 105 yX6_isHouse, Cond.static yX6_isHouse, Cond.code yX6_isHouse cX6_isHouse 1 (some .boolean), Cond.methodLink RL 117 yL_tellModel, Cond.static yL_tellModel, Cond.codeWith yL_tellModel cL_tellModel 4 (some .int) [(0, 9, 12, 13), (0, 9, 15, 17)], Cond.methodLink RL 23 yX5_tellModel, Cond.instanceMethod yX5_tellModel, Cond.selects RX5 yX5_tellModel yX5_tellModel, Cond.code yX5_tellModel cX5_tellModel 3 (some .int), Cond.fieldLink RX5 121 "ModelCopies$Copy" "model" "LModelCopies$Copy;", Cond.methodLink RL 120 yX6_tellModel, Cond.instanceMethod yX6_tellModel, Cond.selects RX6 yX6_tellModel yX6_tellModel, Cond.code yX6_tellModel cX6_tellModel 3 (some .int), Cond.methodLink RX6 108 yX6_sorts, Cond.instanceMethod yX6_sorts, Cond.selects RX6 yX6_sorts yX6_sorts, Cond.code yX6_sorts cX6_sorts 4 none]
def wsL_law0_r14 : List Cond := [Cond.methodLink RX6 132 yX6_areKin, Cond.instanceMethod yX6_areKin, Cond.selects RX6 yX6_areKin yX6_areKin, Cond.code yX6_areKin cX6_areKin 3 (some .boolean), Cond.methodLink RX6 128 yX6_share, Cond.instanceMethod yX6_share, Cond.selects RX6 yX6_share yX6_share, Cond.code yX6_share cX6_share 6 (some .int), Cond.methodLink RL 121 yL_pass, Cond.static yL_pass, Cond.codeWith yL_pass cL_pass 4 (some .int) [(0, 9, 12, 15), (0, 9, 15, 17)], Cond.classLink RL 15 "java/lang/IllegalArgumentException", Cond.methodLink RL 27 yX5_pass, Cond.instanceMethod yX5_pass, Cond.selects RX5 yX5_pass yX5_pass, Cond.code yX5_pass cX5_pass 2 (some .int), Cond.methodLink RL 123 yX6_pass, Cond.instanceMethod yX6_pass, Cond.selects RX6 yX6_pass yX6_pass, Cond.code yX6_pass cX6_pass 3 (some .int), Cond.fieldLink RX6 111 "ModelCopiesModel" "day" "I", Cond.methodLink RL 124 yL_correct, Cond.static yL_correct, Cond.codeWith yL_correct cL_correct 7 (some .int) [(0, 14, 17, 13), (0, 14, 21, 17)]]
def wsL_law0_r15 : List Cond := [Cond.methodLink RL 30 yX5_correct, Cond.instanceMethod yX5_correct, Cond.selects RX5 yX5_correct yX5_correct, Cond.code yX5_correct cX5_correct 11 (some .int), Cond.fieldLink RX5 139 "ModelCopies$Copy" "readings" "[I", Cond.classLink RX5 146 RX3, Cond.instantiable RX3 3, Cond.initialized RX3, Cond.methodLink RX5 148 yX3_init, Cond.instanceMethod yX3_init, Cond.code yX3_init cX3_init 4 none, Cond.methodLink RX3 3 objectInit, Cond.fieldLink RX3 9 "ModelCopies$Letter" "place" "I", Cond.fieldLink RX3 15 "ModelCopies$Letter" "was" "I", Cond.fieldLink RX3 18 "ModelCopies$Letter" "now" "I", Cond.methodLink RX5 151 yX2_take, Cond.instanceMethod yX2_take, Cond.selects RX2 yX2_take yX2_take, Cond.code yX2_take cX2_take 2 none, Cond.methodLink RX5 154 yX5_findFamiliesAnew, Cond.instanceMethod yX5_findFamiliesAnew, Cond.selects RX5 yX5_findFamiliesAnew yX5_findFamiliesAnew, Cond.code yX5_findFamiliesAnew cX5_findFamiliesAnew 2 none, Cond.methodLink RL 127 yX6_correct]
def wsL_law0_r16 : List Cond := [Cond.instanceMethod yX6_correct, Cond.selects RX6 yX6_correct yX6_correct, Cond.code yX6_correct cX6_correct 7 (some .int), Cond.fieldLink RX6 82 "ModelCopiesModel" "letters" "I", Cond.methodLink RL 128 yL_workIn, Cond.static yL_workIn, Cond.codeWith yL_workIn cL_workIn 5 (some .int) [(0, 10, 13, 13), (0, 10, 17, 17)], Cond.methodLink RL 34 yX5_workIn, Cond.instanceMethod yX5_workIn, Cond.selects RX5 yX5_workIn yX5_workIn, Cond.code yX5_workIn cX5_workIn 7 (some .int), Cond.classLink RX5 146 "ModelCopies$Letter", Cond.methodLink RX5 159 yX2_holds, Cond.instanceMethod yX2_holds, Cond.selects RX2 yX2_holds yX2_holds, Cond.code yX2_holds cX2_holds 2 (some .boolean), Cond.methodLink RX5 166 yX3_changes, Cond.instanceMethod yX3_changes, Cond.selects RX3 yX3_changes yX3_changes, Cond.code yX3_changes cX3_changes 2 (some .boolean), Cond.fieldLink RX3 21 "ModelCopies$Copy" "readings" "[I", Cond.methodLink RL 130 yX6_workIn, Cond.instanceMethod yX6_workIn, Cond.selects RX6 yX6_workIn yX6_workIn]
def wsL_law0_r17 : List Cond := [Cond.code yX6_workIn cX6_workIn 8 (some .int), Cond.methodLink RL 131 yL_lend, Cond.static yL_lend, Cond.codeWith yL_lend cL_lend 7 (some .int) [(0, 14, 17, 13), (0, 14, 21, 15), (0, 14, 25, 17)], Cond.methodLink RL 37 yX5_lend, Cond.instanceMethod yX5_lend, Cond.selects RX5 yX5_lend yX5_lend, Cond.code yX5_lend cX5_lend 8 (some .int), Cond.fieldLink RX5 174 "ModelCopies$Copy" "owner" "LModelCopies$House;", Cond.fieldLink RX5 179 "ModelCopies$House" "coins" "I", Cond.classLink RX5 186 RX4, Cond.instantiable RX4 6, Cond.initialized RX4, Cond.fieldLink RX5 191 "ModelCopies$House" "laidDown" "I", Cond.methodLink RX5 188 yX4_init, Cond.instanceMethod yX4_init, Cond.code yX4_init cX4_init 5 none, Cond.methodLink RX4 3 objectInit, Cond.fieldLink RX4 9 "ModelCopies$Loan" "isBack" "Z", Cond.fieldLink RX4 15 "ModelCopies$Loan" "daysLateAtEnd" "I", Cond.fieldLink RX4 19 "ModelCopies$Loan" "copy" "LModelCopies$Copy;", Cond.fieldLink RX4 23 "ModelCopies$Loan" "borrower" "LModelCopies$House;", Cond.fieldLink RX4 27 "ModelCopies$Loan" "lastDay" "I", Cond.fieldLink RX4 30 "ModelCopies$Loan" "pledge" "I"]
def wsL_law0_r18 : List Cond := [Cond.methodLink RX5 194 yX2_takeLettersOf, Cond.instanceMethod yX2_takeLettersOf, Cond.selects RX2 yX2_takeLettersOf yX2_takeLettersOf, Cond.code yX2_takeLettersOf cX2_takeLettersOf 3 none, Cond.methodLink RX2 25 yX2_holds, Cond.methodLink RX2 29 yX2_take, Cond.methodLink RL 133 yX6_lend, Cond.instanceMethod yX6_lend, Cond.selects RX6 yX6_lend yX6_lend, Cond.code yX6_lend cX6_lend 8 (some .int), Cond.fieldLink RX6 85 "ModelCopiesModel" "loans" "I", Cond.methodLink RX6 114 yX6_gets, Cond.instanceMethod yX6_gets, Cond.selects RX6 yX6_gets yX6_gets, Cond.code yX6_gets cX6_gets 4 none, Cond.methodLink RL 134 yL_giveBack, Cond.static yL_giveBack, Cond.codeWith yL_giveBack cL_giveBack 4 (some .int) [(0, 9, 12, 13), (0, 9, 15, 17)], Cond.methodLink RL 40 yX5_giveBack, Cond.instanceMethod yX5_giveBack, Cond.selects RX5 yX5_giveBack yX5_giveBack, Cond.code yX5_giveBack cX5_giveBack 6 (some .int), Cond.fieldLink RX5 202 "ModelCopies$Loan" "isBack" "Z", Cond.fieldLink RX5 207 "ModelCopies$Loan" "borrower" "LModelCopies$House;"]
def wsL_law0_r19 : List Cond := [Cond.fieldLink RX5 210 "ModelCopies$Loan" "copy" "LModelCopies$Copy;", Cond.fieldLink RX5 220 "ModelCopies$Loan" "daysLateAtEnd" "I", Cond.fieldLink RX5 223 "ModelCopies$Loan" "pledge" "I", Cond.methodLink RX5 198 yX5_findLoan, Cond.instanceMethod yX5_findLoan, Cond.selects RX5 yX5_findLoan yX5_findLoan, Cond.code yX5_findLoan cX5_findLoan 2 (some (.object "ModelCopies$Loan")), Cond.classLink RX5 186 "ModelCopies$Loan", Cond.methodLink RX5 213 yX4_lostOn, Cond.instanceMethod yX4_lostOn, Cond.selects RX4 yX4_lostOn yX4_lostOn, Cond.code yX4_lostOn cX4_lostOn 3 (some .int), Cond.methodLink RX4 39 yX4_daysLateOn, Cond.instanceMethod yX4_daysLateOn, Cond.selects RX4 yX4_daysLateOn yX4_daysLateOn, Cond.code yX4_daysLateOn cX4_daysLateOn 2 (some .int), Cond.methodLink RX4 33 Lib.Math.max.name, Cond.methodLink RX5 217 yX4_daysLateOn, Cond.methodLink RL 136 yX6_giveBack, Cond.instanceMethod yX6_giveBack, Cond.selects RX6 yX6_giveBack yX6_giveBack, Cond.code yX6_giveBack cX6_giveBack 7 (some .int), Cond.methodLink RX6 118 yX6_isLoan, Cond.instanceMethod yX6_isLoan]
def wsL_law0_r20 : List Cond := [Cond.selects RX6 yX6_isLoan yX6_isLoan, Cond.code yX6_isLoan cX6_isLoan 2 (some .boolean), Cond.methodLink RX6 121 yX6_lateNow, Cond.instanceMethod yX6_lateNow, Cond.selects RX6 yX6_lateNow yX6_lateNow, Cond.code yX6_lateNow cX6_lateNow 2 (some .int), Cond.methodLink RL 137 yX5_day, Cond.instanceMethod yX5_day, Cond.selects RX5 yX5_day yX5_day, Cond.code yX5_day cX5_day 1 (some .int), Cond.methodLink RL 140 yX6_day, Cond.instanceMethod yX6_day, Cond.selects RX6 yX6_day yX6_day, Cond.code yX6_day cX6_day 1 (some .int), Cond.methodLink RL 141 yX5_copies, Cond.instanceMethod yX5_copies, Cond.selects RX5 yX5_copies yX5_copies, Cond.code yX5_copies cX5_copies 1 (some .int), Cond.methodLink RL 144 yX6_copies, Cond.instanceMethod yX6_copies, Cond.selects RX6 yX6_copies yX6_copies, Cond.code yX6_copies cX6_copies 1 (some .int), Cond.methodLink RL 145 yL_reading, Cond.static yL_reading]
def wsL_law0_r21 : List Cond := [Cond.codeWith yL_reading cL_reading 5 (some .int) [(0, 10, 13, 13)], Cond.methodLink RL 43 yX5_reading, Cond.instanceMethod yX5_reading, Cond.selects RX5 yX5_reading yX5_reading, Cond.code yX5_reading cX5_reading 4 (some .int), Cond.methodLink RL 147 yX6_reading, Cond.instanceMethod yX6_reading, Cond.selects RX6 yX6_reading yX6_reading, Cond.code yX6_reading cX6_reading 3 (some .int), Cond.methodLink RL 148 yL_errors, Cond.static yL_errors, Cond.codeWith yL_errors cL_errors 4 (some .int) [(0, 9, 12, 13)], Cond.methodLink RL 46 yX5_errors, Cond.instanceMethod yX5_errors, Cond.selects RX5 yX5_errors yX5_errors, Cond.code yX5_errors cX5_errors 2 (some .int), Cond.methodLink RX5 226 yX0_countErrors, Cond.instanceMethod yX0_countErrors, Cond.selects RX0 yX0_countErrors yX0_countErrors, Cond.code yX0_countErrors cX0_countErrors 1 (some .int), Cond.methodLink RL 150 yX6_errors, Cond.instanceMethod yX6_errors, Cond.selects RX6 yX6_errors yX6_errors, Cond.code yX6_errors cX6_errors 2 (some .int)]
def wsL_law0_r22 : List Cond := [Cond.methodLink RX6 125 yX6_errorsOf, Cond.instanceMethod yX6_errorsOf, Cond.selects RX6 yX6_errorsOf yX6_errorsOf, Cond.code yX6_errorsOf cX6_errorsOf 4 (some .int), Cond.methodLink RL 151 yL_shared, Cond.static yL_shared, Cond.codeWith yL_shared cL_shared 5 (some .int) [(0, 10, 13, 13)], Cond.methodLink RL 49 yX5_shared, Cond.instanceMethod yX5_shared, Cond.selects RX5 yX5_shared yX5_shared, Cond.code yX5_shared cX5_shared 4 (some .int), Cond.methodLink RX5 229 yX0_countSharedWith, Cond.methodLink RL 153 yX6_shared, Cond.instanceMethod yX6_shared, Cond.selects RX6 yX6_shared yX6_shared, Cond.code yX6_shared cX6_shared 3 (some .int), Cond.methodLink RL 154 yL_houseOf, Cond.static yL_houseOf, Cond.codeWith yL_houseOf cL_houseOf 4 (some .int) [(0, 9, 12, 13)], Cond.methodLink RL 52 yX5_houseOf, Cond.instanceMethod yX5_houseOf, Cond.selects RX5 yX5_houseOf yX5_houseOf, Cond.code yX5_houseOf cX5_houseOf 2 (some .int), Cond.fieldLink RX5 232 "ModelCopies$House" "number" "I"]
def wsL_law0_r23 : List Cond := [Cond.methodLink RL 156 yX6_houseOf, Cond.instanceMethod yX6_houseOf, Cond.selects RX6 yX6_houseOf yX6_houseOf, Cond.code yX6_houseOf cX6_houseOf 2 (some .int), Cond.methodLink RL 157 yL_ownerOf, Cond.static yL_ownerOf, Cond.codeWith yL_ownerOf cL_ownerOf 4 (some .int) [(0, 9, 12, 13)], Cond.methodLink RL 55 yX5_ownerOf, Cond.instanceMethod yX5_ownerOf, Cond.selects RX5 yX5_ownerOf yX5_ownerOf, Cond.code yX5_ownerOf cX5_ownerOf 2 (some .int), Cond.methodLink RL 159 yX6_ownerOf, Cond.instanceMethod yX6_ownerOf, Cond.selects RX6 yX6_ownerOf yX6_ownerOf, Cond.code yX6_ownerOf cX6_ownerOf 2 (some .int), Cond.methodLink RL 160 yL_toldModel, Cond.static yL_toldModel, Cond.codeWith yL_toldModel cL_toldModel 4 (some .int) [(0, 9, 12, 13)], Cond.methodLink RL 58 yX5_toldModel, Cond.instanceMethod yX5_toldModel, Cond.selects RX5 yX5_toldModel yX5_toldModel, Cond.code yX5_toldModel cX5_toldModel 2 (some .int), Cond.methodLink RX5 233 yX0_modelIfTold, Cond.methodLink RX5 237 yX5_numberOf]
def wsL_law0_r24 : List Cond := [Cond.static yX5_numberOf, Cond.code yX5_numberOf cX5_numberOf 1 (some .int), Cond.methodLink RL 162 yX6_toldModel, Cond.instanceMethod yX6_toldModel, Cond.selects RX6 yX6_toldModel yX6_toldModel, Cond.code yX6_toldModel cX6_toldModel 2 (some .int), Cond.methodLink RL 163 yL_slips, Cond.static yL_slips, Cond.codeWith yL_slips cL_slips 4 (some .int) [(0, 9, 12, 13)], Cond.methodLink RL 61 yX5_slips, Cond.instanceMethod yX5_slips, Cond.selects RX5 yX5_slips yX5_slips, Cond.code yX5_slips cX5_slips 2 (some .int), Cond.methodLink RL 165 yX6_slips, Cond.instanceMethod yX6_slips, Cond.selects RX6 yX6_slips yX6_slips, Cond.code yX6_slips cX6_slips 2 (some .int), Cond.methodLink RL 166 yL_family, Cond.static yL_family, Cond.codeWith yL_family cL_family 4 (some .int) [(0, 9, 12, 13)], Cond.methodLink RL 64 yX5_family, Cond.instanceMethod yX5_family, Cond.selects RX5 yX5_family yX5_family, Cond.code yX5_family cX5_family 2 (some .int)]
def wsL_law0_r25 : List Cond := [Cond.methodLink RL 168 yX6_family, Cond.instanceMethod yX6_family, Cond.selects RX6 yX6_family yX6_family, Cond.code yX6_family cX6_family 2 (some .int), Cond.methodLink RL 169 yL_familyByErrors, Cond.static yL_familyByErrors, Cond.codeWith yL_familyByErrors cL_familyByErrors 4 (some .int) [(0, 9, 12, 13)], Cond.methodLink RL 67 yX5_familyByErrors, Cond.instanceMethod yX5_familyByErrors, Cond.selects RX5 yX5_familyByErrors yX5_familyByErrors, Cond.code yX5_familyByErrors cX5_familyByErrors 9 (some .int), Cond.constantLong RX5 244 (-1), Cond.methodLink RX5 240 yX5_setOf, Cond.static yX5_setOf, Cond.code yX5_setOf cX5_setOf 1 (some .long), Cond.methodLink RX5 246 yX5_lowestIn, Cond.instanceMethod yX5_lowestIn, Cond.selects RX5 yX5_lowestIn yX5_lowestIn, Cond.code yX5_lowestIn cX5_lowestIn 4 (some .int), Cond.methodLink RX5 250 yX5_kinByErrors, Cond.instanceMethod yX5_kinByErrors, Cond.selects RX5 yX5_kinByErrors yX5_kinByErrors, Cond.code yX5_kinByErrors cX5_kinByErrors 6 (some .long), Cond.methodLink RX5 263 yX5_copiesThatRead]
def wsL_law0_r26 : List Cond := [Cond.instanceMethod yX5_copiesThatRead, Cond.selects RX5 yX5_copiesThatRead yX5_copiesThatRead, Cond.code yX5_copiesThatRead cX5_copiesThatRead 7 (some .long), Cond.methodLink RX5 253 yX5_kinByModels, Cond.instanceMethod yX5_kinByModels, Cond.selects RX5 yX5_kinByModels yX5_kinByModels, Cond.code yX5_kinByModels cX5_kinByModels 7 (some .long), Cond.methodLink RL 171 yX6_familyByErrors, Cond.instanceMethod yX6_familyByErrors, Cond.selects RX6 yX6_familyByErrors yX6_familyByErrors, Cond.code yX6_familyByErrors cX6_familyByErrors 2 (some .int), Cond.methodLink RX6 136 yX6_family, Cond.methodLink RL 172 yX5_families, Cond.instanceMethod yX5_families, Cond.selects RX5 yX5_families yX5_families, Cond.code yX5_families cX5_families 3 (some .int), Cond.methodLink RL 175 yX6_families, Cond.instanceMethod yX6_families, Cond.selects RX6 yX6_families yX6_families, Cond.code yX6_families cX6_families 3 (some .int), Cond.methodLink RL 176 yL_guess, Cond.static yL_guess, Cond.codeWith yL_guess cL_guess 4 (some .int) [(0, 9, 12, 13)], Cond.methodLink RL 70 yX5_guess]
def wsL_law0_r27 : List Cond := [Cond.instanceMethod yX5_guess, Cond.selects RX5 yX5_guess yX5_guess, Cond.code yX5_guess cX5_guess 2 (some .int), Cond.methodLink RX5 256 yX5_guessFor, Cond.instanceMethod yX5_guessFor, Cond.selects RX5 yX5_guessFor yX5_guessFor, Cond.code yX5_guessFor cX5_guessFor 8 (some (.object "ModelCopies$Copy")), Cond.methodLink RX5 313 yX5_worthAsModel, Cond.static yX5_worthAsModel, Cond.code yX5_worthAsModel cX5_worthAsModel 4 (some .int), Cond.methodLink RL 178 yX6_guess, Cond.instanceMethod yX6_guess, Cond.selects RX6 yX6_guess yX6_guess, Cond.code yX6_guess cX6_guess 2 (some .int), Cond.methodLink RX6 139 yX6_guesses, Cond.instanceMethod yX6_guesses, Cond.selects RX6 yX6_guesses yX6_guesses, Cond.code yX6_guesses cX6_guesses 6 (some .int), Cond.methodLink RL 179 yX5_rightGuesses, Cond.instanceMethod yX5_rightGuesses, Cond.selects RX5 yX5_rightGuesses yX5_rightGuesses, Cond.code yX5_rightGuesses cX5_rightGuesses 4 (some .int), Cond.methodLink RL 182 yX6_rightGuesses, Cond.instanceMethod yX6_rightGuesses]
def wsL_law0_r28 : List Cond := [Cond.selects RX6 yX6_rightGuesses yX6_rightGuesses, Cond.code yX6_rightGuesses cX6_rightGuesses 3 (some .int), Cond.methodLink RL 183 yL_spread, Cond.static yL_spread, Cond.codeWith yL_spread cL_spread 5 (some .int) [(0, 10, 13, 13), (0, 10, 17, 15)], Cond.methodLink RL 73 yX5_spread, Cond.instanceMethod yX5_spread, Cond.selects RX5 yX5_spread yX5_spread, Cond.code yX5_spread cX5_spread 3 (some .int), Cond.methodLink RX5 260 yX5_requireError, Cond.static yX5_requireError, Cond.code yX5_requireError cX5_requireError 2 none, Cond.methodLink RX5 267 yJ13_bitCount_95d88, Cond.static yJ13_bitCount_95d88, Cond.initialized RJ13, Cond.code yJ13_bitCount_95d88 cJ13_bitCount_95d88 2 (some .int), Cond.constantLong RJ13 314 (6148914691236517205), Cond.constantLong RJ13 316 (3689348814741910323), Cond.constantLong RJ13 318 (1085102592571150095), Cond.methodLink RL 185 yX6_spread, Cond.instanceMethod yX6_spread, Cond.selects RX6 yX6_spread yX6_spread, Cond.code yX6_spread cX6_spread 6 (some .int), Cond.methodLink RX6 142 yX6_isError]
def wsL_law0_r29 : List Cond := [Cond.instanceMethod yX6_isError, Cond.selects RX6 yX6_isError yX6_isError, Cond.code yX6_isError cX6_isError 3 (some .boolean), Cond.methodLink RL 186 yL_sources, Cond.static yL_sources, Cond.codeWith yL_sources cL_sources 5 (some .int) [(0, 10, 13, 13), (0, 10, 17, 15)], Cond.methodLink RL 76 yX5_sources, Cond.instanceMethod yX5_sources, Cond.selects RX5 yX5_sources yX5_sources, Cond.code yX5_sources cX5_sources 7 (some .int), Cond.methodLink RL 188 yX6_sources, Cond.instanceMethod yX6_sources, Cond.selects RX6 yX6_sources yX6_sources, Cond.code yX6_sources cX6_sources 7 (some .int), Cond.methodLink RL 189 yX5_letters, Cond.instanceMethod yX5_letters, Cond.selects RX5 yX5_letters yX5_letters, Cond.code yX5_letters cX5_letters 1 (some .int), Cond.methodLink RL 192 yX6_letters, Cond.instanceMethod yX6_letters, Cond.selects RX6 yX6_letters yX6_letters, Cond.code yX6_letters cX6_letters 1 (some .int), Cond.methodLink RL 193 yL_hasLetter, Cond.static yL_hasLetter]
def wsL_law0_r30 : List Cond := [Cond.codeWith yL_hasLetter cL_hasLetter 5 (some .int) [(0, 17, 20, 13)], Cond.methodLink RL 79 yX5_hasLetter, Cond.instanceMethod yX5_hasLetter, Cond.selects RX5 yX5_hasLetter yX5_hasLetter, Cond.code yX5_hasLetter cX5_hasLetter 4 (some .boolean), Cond.methodLink RX5 272 yX5_requireLetter, Cond.instanceMethod yX5_requireLetter, Cond.selects RX5 yX5_requireLetter yX5_requireLetter, Cond.code yX5_requireLetter cX5_requireLetter 2 none, Cond.methodLink RL 195 yX6_hasLetter, Cond.instanceMethod yX6_hasLetter, Cond.selects RX6 yX6_hasLetter yX6_hasLetter, Cond.code yX6_hasLetter cX6_hasLetter 3 (some .boolean), Cond.methodLink RX6 145 yX6_isLetter, Cond.instanceMethod yX6_isLetter, Cond.selects RX6 yX6_isLetter yX6_isLetter, Cond.code yX6_isLetter cX6_isLetter 2 (some .boolean), Cond.methodLink RL 196 yL_letter, Cond.static yL_letter, Cond.codeWith yL_letter cL_letter 4 (some .int) [(0, 9, 12, 13)], Cond.methodLink RL 83 yX5_letter, Cond.instanceMethod yX5_letter, Cond.selects RX5 yX5_letter yX5_letter, Cond.code yX5_letter cX5_letter 3 (some .int)]
def wsL_law0_r31 : List Cond := [Cond.fieldLink RX5 275 "ModelCopies$Letter" "place" "I", Cond.fieldLink RX5 278 "ModelCopies$Letter" "was" "I", Cond.fieldLink RX5 281 "ModelCopies$Letter" "now" "I", Cond.methodLink RL 198 yX6_letter, Cond.instanceMethod yX6_letter, Cond.selects RX6 yX6_letter yX6_letter, Cond.code yX6_letter cX6_letter 2 (some .int), Cond.methodLink RL 199 yX5_loans, Cond.instanceMethod yX5_loans, Cond.selects RX5 yX5_loans yX5_loans, Cond.code yX5_loans cX5_loans 1 (some .int), Cond.methodLink RL 202 yX6_loans, Cond.instanceMethod yX6_loans, Cond.selects RX6 yX6_loans yX6_loans, Cond.code yX6_loans cX6_loans 1 (some .int), Cond.methodLink RL 203 yL_isBack, Cond.static yL_isBack, Cond.codeWith yL_isBack cL_isBack 4 (some .int) [(0, 16, 19, 13)], Cond.methodLink RL 86 yX5_isBack, Cond.instanceMethod yX5_isBack, Cond.selects RX5 yX5_isBack yX5_isBack, Cond.code yX5_isBack cX5_isBack 2 (some .boolean), Cond.methodLink RL 205 yX6_isBack, Cond.instanceMethod yX6_isBack]
def wsL_law0_r32 : List Cond := [Cond.selects RX6 yX6_isBack yX6_isBack, Cond.code yX6_isBack cX6_isBack 2 (some .boolean), Cond.methodLink RL 206 yL_late, Cond.static yL_late, Cond.codeWith yL_late cL_late 4 (some .int) [(0, 9, 12, 13)], Cond.methodLink RL 90 yX5_late, Cond.instanceMethod yX5_late, Cond.selects RX5 yX5_late yX5_late, Cond.code yX5_late cX5_late 3 (some .int), Cond.methodLink RL 208 yX6_late, Cond.instanceMethod yX6_late, Cond.selects RX6 yX6_late yX6_late, Cond.code yX6_late cX6_late 2 (some .int), Cond.methodLink RL 209 yL_coins, Cond.static yL_coins, Cond.codeWith yL_coins cL_coins 4 (some .int) [(0, 9, 12, 13)], Cond.methodLink RL 93 yX5_coins, Cond.instanceMethod yX5_coins, Cond.selects RX5 yX5_coins yX5_coins, Cond.code yX5_coins cX5_coins 2 (some .int), Cond.methodLink RL 211 yX6_coins, Cond.instanceMethod yX6_coins, Cond.selects RX6 yX6_coins yX6_coins, Cond.code yX6_coins cX6_coins 2 (some .int)]
def wsL_law0_r33 : List Cond := [Cond.methodLink RL 212 yL_laidDown, Cond.static yL_laidDown, Cond.codeWith yL_laidDown cL_laidDown 4 (some .int) [(0, 9, 12, 13)], Cond.methodLink RL 96 yX5_laidDown, Cond.instanceMethod yX5_laidDown, Cond.selects RX5 yX5_laidDown yX5_laidDown, Cond.code yX5_laidDown cX5_laidDown 2 (some .int), Cond.methodLink RL 214 yX6_laidDown, Cond.instanceMethod yX6_laidDown, Cond.selects RX6 yX6_laidDown yX6_laidDown, Cond.code yX6_laidDown cX6_laidDown 2 (some .int)]
def wsL_law0 : List Cond := (wsL_law0_r1 ++ (wsL_law0_r2 ++ (wsL_law0_r3 ++ (wsL_law0_r4 ++ (wsL_law0_r5 ++ (wsL_law0_r6 ++ (wsL_law0_r7 ++ (wsL_law0_r8 ++ (wsL_law0_r9 ++ (wsL_law0_r10 ++ (wsL_law0_r11 ++ (wsL_law0_r12 ++ (wsL_law0_r13 ++ (wsL_law0_r14 ++ (wsL_law0_r15 ++ (wsL_law0_r16 ++ (wsL_law0_r17 ++ (wsL_law0_r18 ++ (wsL_law0_r19 ++ (wsL_law0_r20 ++ (wsL_law0_r21 ++ (wsL_law0_r22 ++ (wsL_law0_r23 ++ (wsL_law0_r24 ++ (wsL_law0_r25 ++ (wsL_law0_r26 ++ (wsL_law0_r27 ++ (wsL_law0_r28 ++ (wsL_law0_r29 ++ (wsL_law0_r30 ++ (wsL_law0_r31 ++ (wsL_law0_r32 ++ wsL_law0_r33)))))))))))))))))))))))))))))))) ++ wsX50 ++ wsX60 ++ wsJx4a65c0 ++ wsX10 ++ wsX20 ++ wsX00 ++ wsX30 ++ wsX40 ++ ([] : List Cond)
def wsL_law : List Cond := wsL_law0 ++ (vx_atS RX5 61 "java/lang/IllegalArgumentException" ["java/lang/RuntimeException", "java/lang/Exception"]).filter goodWord ++ (vx_atS RX5 72 "java/lang/IllegalStateException" ["java/lang/RuntimeException", "java/lang/Exception"]).filter goodWord ++ (vx_atS RX5 288 "java/lang/IndexOutOfBoundsException" ["java/lang/RuntimeException", "java/lang/Exception"]).filter goodWord
theorem mem_ps {big ws : List Cond} (ps : List Nat) (hp : ws = ps.filterMap (fun i => big[i]?)) : ∀ w ∈ ws, w ∈ big := by
  intro w hw
  rw [hp] at hw
  obtain ⟨i, -, hi⟩ := List.mem_filterMap.mp hw
  exact List.mem_of_getElem? hi
theorem in_wsL_law0_r1 : ∀ w ∈ wsL_law0_r1, w ∈ lw_tbl := mem_ps [52, 53, 29, 783, 784, 40, 1061, 54, 55, 56, 57, 58, 59, 60, 61, 32, 223, 224, 225, 226, 103, 227, 86, 87] (by decide +kernel)
theorem in_wsL_law0_r2 : ∀ w ∈ wsL_law0_r2, w ∈ lw_tbl := mem_ps [33, 228, 229, 104, 105, 35, 185, 186, 39, 62, 63, 64, 72, 74, 65, 66, 31, 67, 76, 68, 69, 30, 70, 71] (by decide +kernel)
theorem in_wsL_law0_r3 : ∀ w ∈ wsL_law0_r3, w ∈ lw_tbl := mem_ps [88, 89, 90, 91, 95, 96, 92, 93, 34, 94, 106, 107, 108, 109, 126, 112, 113, 115, 110, 127, 128, 129, 130, 77] (by decide +kernel)
theorem in_wsL_law0_r4 : ∀ w ∈ wsL_law0_r4, w ∈ lw_tbl := mem_ps [78, 75, 131, 133, 0, 134, 135, 137, 1, 138, 139, 141, 2, 142, 183, 147, 37, 148, 184, 143, 144, 36, 145, 146] (by decide +kernel)
theorem in_wsL_law0_r5 : ∀ w ∈ wsL_law0_r5, w ∈ lw_tbl := mem_ps [149, 150, 151, 152, 153, 154, 155, 156, 1077, 157, 170, 171, 172, 173, 174, 176, 177, 178, 179, 180, 182, 181, 38, 187] (by decide +kernel)
theorem in_wsL_law0_r6 : ∀ w ∈ wsL_law0_r6, w ∈ lw_tbl := mem_ps [188, 189, 190, 198, 204, 192, 194, 196, 202, 206, 191, 785, 786, 787, 788, 789, 790, 791, 792, 793, 794, 795, 797, 799] (by decide +kernel)
theorem in_wsL_law0_r7 : ∀ w ∈ wsL_law0_r7, w ∈ lw_tbl := mem_ps [800, 801, 802, 804, 805, 806, 807, 808, 809, 811, 812, 813, 307, 308, 28, 309, 310, 313, 314, 315, 316, 388, 45, 412] (by decide +kernel)
theorem in_wsL_law0_r8 : ∀ w ∈ wsL_law0_r8, w ∈ lw_tbl := mem_ps [46, 97, 317, 318, 319, 320, 44, 404, 405, 406, 407, 408, 409, 410, 411, 428, 429, 430, 431, 872, 873, 874, 875, 796] (by decide +kernel)
theorem in_wsL_law0_r9 : ∀ w ∈ wsL_law0_r9, w ∈ lw_tbl := mem_ps [876, 877, 878, 879, 880, 881, 882, 884, 16, 885, 814, 868, 869, 870, 871, 432, 433, 434, 435, 436, 437, 438, 203, 205] (by decide +kernel)
theorem in_wsL_law0_r10 : ∀ w ∈ wsL_law0_r10, w ∈ lw_tbl := mem_ps [193, 439, 441, 5, 442, 185, 253, 254, 255, 256, 261, 262, 263, 264, 265, 266, 47, 267, 268, 269, 48, 270, 271, 272] (by decide +kernel)
theorem in_wsL_law0_r11 : ∀ w ∈ wsL_law0_r11, w ∈ lw_tbl := mem_ps [273, 274, 444, 445, 446, 448, 450, 6, 451, 104, 455, 456, 457, 458, 200, 459, 460, 461, 462, 463, 465, 7, 466, 207] (by decide +kernel)
theorem in_wsL_law0_r12 : ∀ w ∈ wsL_law0_r12, w ∈ lw_tbl := mem_ps [467, 468, 469, 470, 471, 284, 285, 286, 298, 291, 292, 293, 472, 474, 8, 475, 476, 477, 886, 887, 888, 889, 890, 892] (by decide +kernel)
theorem in_wsL_law0_r13 : ∀ w ∈ wsL_law0_r13, w ∈ lw_tbl := mem_ps [17, 893, 894, 895, 896, 897, 898, 899, 478, 479, 480, 481, 482, 483, 484, 195, 900, 901, 902, 903, 904, 906, 18, 907] (by decide +kernel)
theorem in_wsL_law0_r14 : ∀ w ∈ wsL_law0_r14, w ∈ lw_tbl := mem_ps [908, 910, 19, 911, 912, 914, 20, 915, 486, 487, 488, 311, 489, 490, 491, 492, 916, 917, 918, 919, 798, 495, 496, 497] (by decide +kernel)
theorem in_wsL_law0_r15 : ∀ w ∈ wsL_law0_r15, w ∈ lw_tbl := mem_ps [498, 499, 500, 501, 201, 505, 506, 49, 507, 508, 509, 510, 511, 513, 515, 524, 525, 526, 527, 528, 530, 9, 531, 920] (by decide +kernel)
theorem in_wsL_law0_r16 : ∀ w ∈ wsL_law0_r16, w ∈ lw_tbl := mem_ps [921, 922, 923, 803, 532, 533, 534, 535, 536, 537, 538, 505, 540, 541, 542, 543, 544, 545, 546, 547, 199, 924, 925, 926] (by decide +kernel)
theorem in_wsL_law0_r17 : ∀ w ∈ wsL_law0_r17, w ∈ lw_tbl := mem_ps [927, 548, 549, 550, 551, 552, 553, 554, 197, 114, 560, 561, 50, 116, 562, 563, 564, 565, 573, 575, 566, 568, 570, 571] (by decide +kernel)
theorem in_wsL_law0_r18 : ∀ w ∈ wsL_law0_r18, w ∈ lw_tbl := mem_ps [590, 591, 592, 593, 594, 595, 928, 929, 930, 931, 810, 932, 934, 21, 935, 596, 597, 598, 599, 600, 601, 602, 574, 569] (by decide +kernel)
theorem in_wsL_law0_r19 : ∀ w ∈ wsL_law0_r19, w ∈ lw_tbl := mem_ps [567, 576, 572, 603, 605, 10, 606, 560, 609, 610, 611, 612, 613, 614, 615, 616, 617, 618, 936, 937, 938, 939, 940, 942] (by decide +kernel)
theorem in_wsL_law0_r20 : ∀ w ∈ wsL_law0_r20, w ∈ lw_tbl := mem_ps [22, 943, 944, 946, 23, 947, 245, 246, 247, 248, 948, 949, 950, 951, 249, 250, 251, 252, 952, 953, 954, 955, 619, 620] (by decide +kernel)
theorem in_wsL_law0_r21 : ∀ w ∈ wsL_law0_r21, w ∈ lw_tbl := mem_ps [621, 622, 623, 624, 625, 956, 957, 958, 959, 626, 627, 628, 629, 630, 631, 632, 294, 295, 296, 297, 960, 961, 962, 963] (by decide +kernel)
theorem in_wsL_law0_r22 : ∀ w ∈ wsL_law0_r22, w ∈ lw_tbl := mem_ps [964, 966, 24, 967, 633, 634, 635, 636, 637, 638, 639, 290, 968, 969, 970, 971, 640, 641, 642, 643, 644, 645, 646, 111] (by decide +kernel)
theorem in_wsL_law0_r23 : ∀ w ∈ wsL_law0_r23, w ∈ lw_tbl := mem_ps [972, 973, 974, 975, 647, 648, 649, 650, 651, 652, 653, 976, 977, 978, 979, 654, 655, 656, 657, 658, 659, 660, 283, 661] (by decide +kernel)
theorem in_wsL_law0_r24 : ∀ w ∈ wsL_law0_r24, w ∈ lw_tbl := mem_ps [662, 663, 980, 981, 982, 983, 664, 665, 666, 667, 668, 669, 670, 984, 985, 986, 987, 671, 672, 673, 674, 675, 676, 677] (by decide +kernel)
theorem in_wsL_law0_r25 : ∀ w ∈ wsL_law0_r25, w ∈ lw_tbl := mem_ps [988, 989, 990, 991, 678, 679, 680, 681, 682, 683, 684, 688, 685, 686, 687, 689, 691, 11, 692, 693, 695, 12, 696, 697] (by decide +kernel)
theorem in_wsL_law0_r26 : ∀ w ∈ wsL_law0_r26, w ∈ lw_tbl := mem_ps [699, 13, 700, 701, 703, 14, 704, 992, 993, 994, 995, 996, 257, 258, 259, 260, 997, 998, 999, 1000, 705, 706, 707, 708] (by decide +kernel)
theorem in_wsL_law0_r27 : ∀ w ∈ wsL_law0_r27, w ∈ lw_tbl := mem_ps [709, 710, 711, 279, 281, 3, 282, 287, 288, 289, 1001, 1002, 1003, 1004, 1005, 1007, 25, 1008, 275, 276, 277, 278, 1009, 1010] (by decide +kernel)
theorem in_wsL_law0_r28 : ∀ w ∈ wsL_law0_r28, w ∈ lw_tbl := mem_ps [1011, 1012, 712, 713, 714, 715, 716, 717, 718, 719, 720, 721, 723, 724, 51, 725, 726, 727, 728, 1013, 1014, 1015, 1016, 1017] (by decide +kernel)
theorem in_wsL_law0_r29 : ∀ w ∈ wsL_law0_r29, w ∈ lw_tbl := mem_ps [1019, 26, 1020, 729, 730, 731, 732, 733, 734, 735, 1021, 1022, 1023, 1024, 299, 300, 301, 302, 1025, 1026, 1027, 1028, 736, 737] (by decide +kernel)
theorem in_wsL_law0_r30 : ∀ w ∈ wsL_law0_r30, w ∈ lw_tbl := mem_ps [738, 739, 740, 741, 742, 743, 745, 15, 746, 1029, 1030, 1031, 1032, 1033, 1035, 27, 1036, 748, 749, 750, 751, 752, 753, 754] (by decide +kernel)
theorem in_wsL_law0_r31 : ∀ w ∈ wsL_law0_r31, w ∈ lw_tbl := mem_ps [512, 514, 516, 1037, 1038, 1039, 1040, 303, 304, 305, 306, 1041, 1042, 1043, 1044, 755, 756, 757, 758, 759, 760, 761, 1045, 1046] (by decide +kernel)
theorem in_wsL_law0_r32 : ∀ w ∈ wsL_law0_r32, w ∈ lw_tbl := mem_ps [1047, 1048, 762, 763, 764, 765, 766, 767, 768, 1049, 1050, 1051, 1052, 769, 770, 771, 772, 773, 774, 775, 1053, 1054, 1055, 1056] (by decide +kernel)
theorem in_wsL_law0_r33 : ∀ w ∈ wsL_law0_r33, w ∈ lw_tbl := mem_ps [776, 777, 778, 779, 780, 781, 782, 1057, 1058, 1059, 1060] (by decide +kernel)
theorem in_wsX50 : ∀ w ∈ wsX50, w ∈ lw_tbl := mem_ps [230, 232, 234, 236, 238, 240, 242] (by decide +kernel)
theorem in_wsX60 : ∀ w ∈ wsX60, w ∈ lw_tbl := mem_ps [815, 817, 819, 821, 823, 825, 827, 829, 831, 833, 835, 837, 839, 841, 843, 845, 847, 849, 851, 853, 855, 857, 859, 861, 863, 865] (by decide +kernel)
theorem in_wsJx4a65c0 : ∀ w ∈ wsJx4a65c0, w ∈ lw_tbl := mem_ps [83, 79, 81] (by decide +kernel)
theorem in_wsX10 : ∀ w ∈ wsX10, w ∈ lw_tbl := mem_ps [98, 100] (by decide +kernel)
theorem in_wsX20 : ∀ w ∈ wsX20, w ∈ lw_tbl := mem_ps [117, 119, 121, 123] (by decide +kernel)
theorem in_wsX00 : ∀ w ∈ wsX00, w ∈ lw_tbl := mem_ps [208, 210, 212, 214, 216, 218, 220] (by decide +kernel)
theorem in_wsX30 : ∀ w ∈ wsX30, w ∈ lw_tbl := mem_ps [517, 519, 521] (by decide +kernel)
theorem in_wsX40 : ∀ w ∈ wsX40, w ∈ lw_tbl := mem_ps [577, 579, 581, 583, 585, 587] (by decide +kernel)
theorem wsL_law_in0 : ∀ w ∈ wsL_law0, w ∈ lw_tbl := List.forall_mem_append.mpr ⟨List.forall_mem_append.mpr ⟨List.forall_mem_append.mpr ⟨List.forall_mem_append.mpr ⟨List.forall_mem_append.mpr ⟨List.forall_mem_append.mpr ⟨List.forall_mem_append.mpr ⟨List.forall_mem_append.mpr ⟨List.forall_mem_append.mpr ⟨List.forall_mem_append.mpr ⟨in_wsL_law0_r1, List.forall_mem_append.mpr ⟨in_wsL_law0_r2, List.forall_mem_append.mpr ⟨in_wsL_law0_r3, List.forall_mem_append.mpr ⟨in_wsL_law0_r4, List.forall_mem_append.mpr ⟨in_wsL_law0_r5, List.forall_mem_append.mpr ⟨in_wsL_law0_r6, List.forall_mem_append.mpr ⟨in_wsL_law0_r7, List.forall_mem_append.mpr ⟨in_wsL_law0_r8, List.forall_mem_append.mpr ⟨in_wsL_law0_r9, List.forall_mem_append.mpr ⟨in_wsL_law0_r10, List.forall_mem_append.mpr ⟨in_wsL_law0_r11, List.forall_mem_append.mpr ⟨in_wsL_law0_r12, List.forall_mem_append.mpr ⟨in_wsL_law0_r13, List.forall_mem_append.mpr ⟨in_wsL_law0_r14, List.forall_mem_append.mpr ⟨in_wsL_law0_r15, List.forall_mem_append.mpr ⟨in_wsL_law0_r16, List.forall_mem_append.mpr ⟨in_wsL_law0_r17, List.forall_mem_append.mpr ⟨in_wsL_law0_r18, List.forall_mem_append.mpr ⟨in_wsL_law0_r19, List.forall_mem_append.mpr ⟨in_wsL_law0_r20, List.forall_mem_append.mpr ⟨in_wsL_law0_r21, List.forall_mem_append.mpr ⟨in_wsL_law0_r22, List.forall_mem_append.mpr ⟨in_wsL_law0_r23, List.forall_mem_append.mpr ⟨in_wsL_law0_r24, List.forall_mem_append.mpr ⟨in_wsL_law0_r25, List.forall_mem_append.mpr ⟨in_wsL_law0_r26, List.forall_mem_append.mpr ⟨in_wsL_law0_r27, List.forall_mem_append.mpr ⟨in_wsL_law0_r28, List.forall_mem_append.mpr ⟨in_wsL_law0_r29, List.forall_mem_append.mpr ⟨in_wsL_law0_r30, List.forall_mem_append.mpr ⟨in_wsL_law0_r31, List.forall_mem_append.mpr ⟨in_wsL_law0_r32, in_wsL_law0_r33⟩⟩⟩⟩⟩⟩⟩⟩⟩⟩⟩⟩⟩⟩⟩⟩⟩⟩⟩⟩⟩⟩⟩⟩⟩⟩⟩⟩⟩⟩⟩⟩, in_wsX50⟩, in_wsX60⟩, in_wsJx4a65c0⟩, in_wsX10⟩, in_wsX20⟩, in_wsX00⟩, in_wsX30⟩, in_wsX40⟩, (fun _ h => absurd h List.not_mem_nil)⟩
theorem wsL_law_x0 : ∀ w ∈ (vx_atS RX5 61 "java/lang/IllegalArgumentException" ["java/lang/RuntimeException", "java/lang/Exception"]).filter goodWord, w ∈ lw_tbl := by decide +kernel
theorem wsL_law_x1 : ∀ w ∈ (vx_atS RX5 72 "java/lang/IllegalStateException" ["java/lang/RuntimeException", "java/lang/Exception"]).filter goodWord, w ∈ lw_tbl := by decide +kernel
theorem wsL_law_x2 : ∀ w ∈ (vx_atS RX5 288 "java/lang/IndexOutOfBoundsException" ["java/lang/RuntimeException", "java/lang/Exception"]).filter goodWord, w ∈ lw_tbl := by decide +kernel
theorem wsL_law_in : ∀ w ∈ wsL_law, w ∈ lw_tbl := fun w h => (List.mem_append.mp h).elim (fun h => (List.mem_append.mp h).elim (fun h => (List.mem_append.mp h).elim (fun h => wsL_law_in0 w h) (fun h => wsL_law_x0 w h)) (fun h => wsL_law_x1 w h)) (fun h => wsL_law_x2 w h)
theorem inlX0 : ∀ w ∈ wsX00, w ∈ wsL_law := fun _ h => List.mem_append_left _ (List.mem_append_left _ (List.mem_append_left _ (List.mem_append_left _ (List.mem_append_left _ (List.mem_append_left _ (List.mem_append_right _ h))))))
theorem inX0 : ∀ w ∈ wsX00, w ∈ lw_tbl := fun w h => wsL_law_in w (inlX0 w h)
theorem inlX1 : ∀ w ∈ wsX10, w ∈ wsL_law := fun _ h => List.mem_append_left _ (List.mem_append_left _ (List.mem_append_left _ (List.mem_append_left _ (List.mem_append_left _ (List.mem_append_left _ (List.mem_append_left _ (List.mem_append_left _ (List.mem_append_right _ h))))))))
theorem inX1 : ∀ w ∈ wsX10, w ∈ lw_tbl := fun w h => wsL_law_in w (inlX1 w h)
theorem inlX2 : ∀ w ∈ wsX20, w ∈ wsL_law := fun _ h => List.mem_append_left _ (List.mem_append_left _ (List.mem_append_left _ (List.mem_append_left _ (List.mem_append_left _ (List.mem_append_left _ (List.mem_append_left _ (List.mem_append_right _ h)))))))
theorem inX2 : ∀ w ∈ wsX20, w ∈ lw_tbl := fun w h => wsL_law_in w (inlX2 w h)
theorem inlX3 : ∀ w ∈ wsX30, w ∈ wsL_law := fun _ h => List.mem_append_left _ (List.mem_append_left _ (List.mem_append_left _ (List.mem_append_left _ (List.mem_append_left _ (List.mem_append_right _ h)))))
theorem inX3 : ∀ w ∈ wsX30, w ∈ lw_tbl := fun w h => wsL_law_in w (inlX3 w h)
theorem inlX4 : ∀ w ∈ wsX40, w ∈ wsL_law := fun _ h => List.mem_append_left _ (List.mem_append_left _ (List.mem_append_left _ (List.mem_append_left _ (List.mem_append_right _ h))))
theorem inX4 : ∀ w ∈ wsX40, w ∈ lw_tbl := fun w h => wsL_law_in w (inlX4 w h)
theorem inlX5 : ∀ w ∈ wsX50, w ∈ wsL_law := fun _ h => List.mem_append_left _ (List.mem_append_left _ (List.mem_append_left _ (List.mem_append_left _ (List.mem_append_left _ (List.mem_append_left _ (List.mem_append_left _ (List.mem_append_left _ (List.mem_append_left _ (List.mem_append_left _ (List.mem_append_left _ (List.mem_append_right _ h)))))))))))
theorem inX5 : ∀ w ∈ wsX50, w ∈ lw_tbl := fun w h => wsL_law_in w (inlX5 w h)
theorem inlX6 : ∀ w ∈ wsX60, w ∈ wsL_law := fun _ h => List.mem_append_left _ (List.mem_append_left _ (List.mem_append_left _ (List.mem_append_left _ (List.mem_append_left _ (List.mem_append_left _ (List.mem_append_left _ (List.mem_append_left _ (List.mem_append_left _ (List.mem_append_left _ (List.mem_append_right _ h))))))))))
theorem inX6 : ∀ w ∈ wsX60, w ∈ lw_tbl := fun w h => wsL_law_in w (inlX6 w h)
theorem inJx145de : ∀ w ∈ wsJx145de0, w ∈ lw_tbl := by decide +kernel
theorem inJx8e188 : ∀ w ∈ wsJx8e1880, w ∈ lw_tbl := by decide +kernel
theorem inJxab1ab : ∀ w ∈ wsJxab1ab0, w ∈ lw_tbl := by decide +kernel
theorem inJ13 : ∀ w ∈ wsJ130, w ∈ lw_tbl := by decide +kernel
theorem inJ9 : ∀ w ∈ wsJ90, w ∈ lw_tbl := by decide +kernel
theorem inJ0 : ∀ w ∈ wsJ00, w ∈ lw_tbl := by decide +kernel
theorem inJ10 : ∀ w ∈ wsJ100, w ∈ lw_tbl := by decide +kernel
theorem inJxa1e45 : ∀ w ∈ wsJxa1e450, w ∈ lw_tbl := by decide +kernel
theorem inJxc12de : ∀ w ∈ wsJxc12de0, w ∈ lw_tbl := by decide +kernel
theorem inlJx4a65c : ∀ w ∈ wsJx4a65c0, w ∈ wsL_law := fun _ h => List.mem_append_left _ (List.mem_append_left _ (List.mem_append_left _ (List.mem_append_left _ (List.mem_append_left _ (List.mem_append_left _ (List.mem_append_left _ (List.mem_append_left _ (List.mem_append_left _ (List.mem_append_right _ h)))))))))
theorem inJx4a65c : ∀ w ∈ wsJx4a65c0, w ∈ lw_tbl := fun w h => wsL_law_in w (inlJx4a65c w h)
theorem inJ7 : ∀ w ∈ wsJ70, w ∈ lw_tbl := by decide +kernel
theorem inJx5ef63 : ∀ w ∈ wsJx5ef630, w ∈ lw_tbl := by decide +kernel
theorem inJxbd725 : ∀ w ∈ wsJxbd7250, w ∈ lw_tbl := by decide +kernel
theorem inJ15 : ∀ w ∈ wsJ150, w ∈ lw_tbl := by decide +kernel
theorem inJxf0a74 : ∀ w ∈ wsJxf0a740, w ∈ lw_tbl := by decide +kernel
theorem inJxa66e6 : ∀ w ∈ wsJxa66e60, w ∈ lw_tbl := by decide +kernel
theorem inJ8 : ∀ w ∈ wsJ80, w ∈ lw_tbl := by decide +kernel
theorem inJ3 : ∀ w ∈ wsJ30, w ∈ lw_tbl := by decide +kernel
abbrev vwCl : List vw_C := [(RJx4a65c, TJx4a65c, 3), (RX0, TX0, 7), (RX1, TX1, 2), (RX2, TX2, 4), (RX3, TX3, 3), (RX4, TX4, 6), (RX5, TX5, 7), (RX6, TX6, 26)]
end
section
def iI (z : Int) : Int32 := Int32.ofInt z
theorem iI_add (a b : Int) : iI a + iI b = iI (a + b) := (Int32.ofInt_add a b).symm
theorem iI_sub (a b : Int) : iI a - iI b = iI (a - b) := (Int32.ofInt_sub a b).symm
theorem iI_mul (a b : Int) : iI a * iI b = iI (a * b) := (Int32.ofInt_mul a b).symm
theorem iI_of (x : Int32) : iI x.toInt = x := Int32.ofInt_toInt x
theorem iI_ex (x : Int32) : ∃ z : Int, (-2147483648 ≤ z ∧ z < 2147483648) ∧ x = iI z := ⟨x.toInt, ⟨Int32.le_toInt x, Int32.toInt_lt x⟩, (iI_of x).symm⟩
theorem iI_toInt {z : Int} (h : -2147483648 ≤ z ∧ z < 2147483648) : (iI z).toInt = z := Int32.toInt_ofInt_of_le h.1 h.2
theorem iI_lt {a b : Int} (ha : -2147483648 ≤ a ∧ a < 2147483648) (hb : -2147483648 ≤ b ∧ b < 2147483648) : iI a < iI b ↔ a < b := by rw [Int32.lt_iff_toInt_lt, iI_toInt ha, iI_toInt hb]
theorem iI_le {a b : Int} (ha : -2147483648 ≤ a ∧ a < 2147483648) (hb : -2147483648 ≤ b ∧ b < 2147483648) : iI a ≤ iI b ↔ a ≤ b := by rw [Int32.le_iff_toInt_le, iI_toInt ha, iI_toInt hb]
theorem iI_eq {a b : Int} (ha : -2147483648 ≤ a ∧ a < 2147483648) (hb : -2147483648 ≤ b ∧ b < 2147483648) : iI a = iI b ↔ a = b := by rw [← Int32.toInt_inj, iI_toInt ha, iI_toInt hb]
theorem iI_0 : (0 : Int32) = iI 0 := rfl
theorem iI_lt0 {a : Int} (ha : -2147483648 ≤ a ∧ a < 2147483648) : iI a < 0 ↔ a < 0 := iI_lt (b := 0) ha (by omega)
theorem iI_le0 {a : Int} (ha : -2147483648 ≤ a ∧ a < 2147483648) : iI a ≤ 0 ↔ a ≤ 0 := iI_le (b := 0) ha (by omega)
theorem iI_0lt {a : Int} (ha : -2147483648 ≤ a ∧ a < 2147483648) : 0 < iI a ↔ 0 < a := iI_lt (a := 0) (by omega) ha
theorem iI_0le {a : Int} (ha : -2147483648 ≤ a ∧ a < 2147483648) : 0 ≤ iI a ↔ 0 ≤ a := iI_le (a := 0) (by omega) ha
theorem iI_eq0 {a : Int} (ha : -2147483648 ≤ a ∧ a < 2147483648) : iI a = 0 ↔ a = 0 := iI_eq (b := 0) ha (by omega)
theorem iI_cl {z : Int} (h : 0 ≤ z ∧ z < 2147483648) : (iI z).toNatClampNeg = z.toNat := by
  show (iI z).toInt.toNat = z.toNat
  rw [iI_toInt ⟨by omega, h.2⟩]
theorem iI_in {z : Int} {n : Nat} (h : 0 ≤ z ∧ z < n) (hn : z < 2147483648) : vp_in (iI z) n := by
  rw [vp_in_iff, iI_toInt ⟨by omega, hn⟩]
  exact h
theorem iI_nat (n : Nat) : Int32.ofNat n = iI (n : Int) := rfl
theorem iI_bool {z : Int} (h : z = 0 ∨ z = 1) : narrow .boolean (.int (iI z)) = .int (iI z) := by rcases h with rfl | rfl <;> decide
theorem iI_fit {z : Int} : fits .int (.int (iI z)) = true := rfl
theorem iI_fitb {z : Int} (h : z = 0 ∨ z = 1) : fits .boolean (.int (iI z)) = true := by rcases h with rfl | rfl <;> decide
theorem iI_nar {z : Int} (h : z = 0 ∨ z = 1) : vp_nar .boolean (iI z) = iI z := by rcases h with rfl | rfl <;> decide
/-! the method's context in one, and the walk as an abstract machine: place, locals, stack, world -/
abbrev KxT : Type := Program × Launch × Env × Room × State × MethodId × Array Value × List Frame × Method × Code
abbrev kp (κ : KxT) := κ.1
abbrev kl (κ : KxT) := κ.2.1
abbrev ke (κ : KxT) := κ.2.2.1
abbrev kR (κ : KxT) := κ.2.2.2.1
abbrev ks (κ : KxT) := κ.2.2.2.2.1
abbrev km (κ : KxT) := κ.2.2.2.2.2.1
abbrev ka (κ : KxT) := κ.2.2.2.2.2.2.1
abbrev kb (κ : KxT) := κ.2.2.2.2.2.2.2.1
abbrev kM (κ : KxT) := κ.2.2.2.2.2.2.2.2.1
abbrev kc (κ : KxT) := κ.2.2.2.2.2.2.2.2.2
/-- class numbers, the array kinds' numbers (int, boolean, Object, long), the cell of ArrayList's empty row -/
abbrev GG : Type := va_G × ClassId × ClassId × ClassId × ClassId × Nat
abbrev tysG (G : GG) : List (ClassId × FieldType) := [(G.2.1, .int), (G.2.2.1, .boolean), (G.2.2.2.1, .object "java/lang/Object"), (G.2.2.2.2.1, .long)]
abbrev gde (G : GG) : Nat := G.2.2.2.2.2
def Bd (base : Nat) : Nat → Prop := fun q => base ≤ q
def castL : List (String × String) := [(RX0, "java/lang/Object"), (RX2, "java/lang/Object"), (RX3, "java/lang/Object"), (RX4, "java/lang/Object"), ("java/lang/IllegalArgumentException", "java/lang/IllegalArgumentException"), ("java/lang/IllegalStateException", "java/lang/IllegalStateException"), ("java/lang/IndexOutOfBoundsException", "java/lang/IndexOutOfBoundsException")]
def declL : List MethodName := [Bundle.initS "java/lang/RuntimeException", Bundle.initS "java/lang/Exception", Bundle.initS Bundle.tN]
def strL : List (Nat × String) := [(295, "there is no such place"), (59, "there is no such reading"), (70, "the draft has readings for as many places as it can"), (286, "there is no such copy"), (297, "there is no such scribe"), (289, "there is no such house"), (95, "the model is not in the house"), (101, "there are as many copies as there can be"), (125, "the copy has no model, or its model is told"), (133, "so many days cannot go by at once"), (135, "the last day would be passed"), (137, "not both copies are in the house"), (142, "both copies have the same reading there"), (144, "as many letters were written as can be"), (157, "the copy is not in the house"), (170, "a copy is not lent for so many days"), (172, "a pledge is not so high"), (177, "the copy belongs to the house, or is lent"), (182, "the house does not have so many coins"), (184, "as many loans were made as can be"), (291, "there is no such loan"), (205, "the loan was given back"), (299, "there is no such error"), (293, "there is no such letter")]
/-- what every method needs of the machine beside its own words -/
def Ev (G : GG) (base : Nat) (U : State) (H : Heap) : Prop :=
  va_K G.1 vwCl (tysG G) U ∧ vx_Zq Bundle.tN "UNASSIGNED_STACK" Bundle.steD (Bd base) U H ∧ vx_Zq Bundle.tN "SUPPRESSED_SENTINEL" Bundle.listD (Bd base) U H ∧
  (∀ q ∈ strL, ∃ sa : Nat, vk_R RX5 q.1 q.2 sa U) ∧ (∀ q ∈ castL, va_Nw (.castable q.1 q.2) U) ∧ (∀ x ∈ declL, va_Nw (.declares x) U) ∧
  (∃ mi : Nat, va_Mi "[Ljava/lang/Object;" mi U) ∧ va_Dc U ∧ va_AO "java/lang/Object" U ∧
  va_Z RJx4a65c "DEFAULTCAPACITY_EMPTY_ELEMENTDATA" "[Ljava/lang/Object;" (.ref (gde G)) (Bd base) U H ∧ va_T (.object "java/lang/Object") (gde G) 0 (fun _ => .null) (Bd base) U H
theorem Ev.to {G : GG} {base : Nat} {s U : State} {H : Heap} {locs : List Loc} (h : Ev G base s s.heap) (hW : s.WarmedH U.vm) (hU : U.heap = H) (hS : va_S (Bd base) s.heap H locs) : Ev G base U U.heap := by
  obtain ⟨h1, h2, h3, h4, h5, h6, h7, h8, h9, h10, h11⟩ := h
  have hq : ∀ a : Nat, a < s.heap.size → ¬ Bd base a → U.heap[a]? = s.heap[a]? := fun a h1 h2 => by rw [hU]; exact hS.2.1 a h1 h2
  refine ⟨va_K.moved hW.alike h1, (h2.moved hW.alike).kept hq, (h3.moved hW.alike).kept hq, fun q hm => ?_, fun q hm => va_Nw.warmC hW (h5 q hm), fun x hm => va_Nw.warmD hW (h6 x hm), ?_, va_Dc.moved hW.alike h8, va_AO.moved hW.alike h9, (h10.moved hW.alike).kept hq, (h11.moved hW.alike).kept hq⟩
  · obtain ⟨sa, h⟩ := h4 q hm
    exact ⟨sa, vk_R.warm hW h⟩
  · obtain ⟨mi, h⟩ := h7
    exact ⟨mi, va_Mi.moved hW.alike h⟩
theorem Ev.blind {G : GG} {base : Nat} {U V : State} {H : Heap} (hv : V.vm = U.vm) (h : Ev G base U H) : Ev G base V H := by
  obtain ⟨h1, h2, h3, h4, h5, h6, h7, h8, h9, h10, h11⟩ := h
  have ha : U.vm.Alike V.vm := by rw [hv]; exact Vm.Alike.refl _
  refine ⟨va_K.moved ha h1, h2.moved ha, h3.moved ha, fun q hm => ?_, fun q hm => va_Nw.same rfl hv.symm (h5 q hm), fun x hm => va_Nw.same rfl hv.symm (h6 x hm), ?_, va_Dc.moved ha h8, va_AO.moved ha h9, h10.moved ha, h11.moved ha⟩
  · obtain ⟨sa, h⟩ := h4 q hm
    exact ⟨sa, vk_R.same hv h⟩
  · obtain ⟨mi, h⟩ := h7
    exact ⟨mi, va_Mi.moved ha h⟩
def QR (G : GG) (base : Nat) (post : Option Value → va_W → Prop) : Array Value → State → Outcome → State → Prop := fun _ st oc t => (∃ v ws, oc = .returned v ∧ post v ws ∧ va_P G.1 vwCl ws t.heap ∧ va_D (Bd base) ws) ∧ va_F (Bd base) st t
def QX (G : GG) (base : Nat) (exc : String → va_W → Prop) : String → State → State → Prop := fun E st t => (∃ ws, exc E ws ∧ va_P G.1 vwCl ws t.heap ∧ va_D (Bd base) ws) ∧ va_F (Bd base) st t
def Z (κ : KxT) (nL : Nat) (G : GG) (base mc ms : Nat) (post : Option Value → va_W → Prop) (exc : String → va_W → Prop) (cells slots pc : Nat) (lv : List (Nat × Value)) (st : List Value) (ws : va_W) : Prop :=
  ∀ (ls : Array Slot) (H : Heap) (locs : List Loc), lv_has ls nL lv → va_P G.1 vwCl ws H → va_D (Bd base) ws → va_S (Bd base) (ks κ).heap H locs →
    W (kp κ) (kl κ) (ke κ) (kR κ) (ks κ) (km κ) (ka κ) (kb κ) (kM κ) (kc κ) H locs cells slots (vx_MQ (kb κ) (QR G base post) (QX G base exc) (ka κ) (ks κ) mc ms (Bd base)) (F0 (km κ) pc ls st)
def Cx (κ : KxT) (cc : ByteArray) (nL : Nat) (Ts : List Cond) (own : String) (ret : Option FieldType) (rm0 : Room) (G : GG) (base : Nat) : Prop :=
  (kp κ).tables.exec = Jvm.exec ∧ (kc κ).code = cc ∧ (kc κ).maxLocals = nL ∧ (ks κ).vm.findClass own = some (km κ).cls ∧ (∀ w ∈ Ts, w.before (ka κ) (ks κ) = true) ∧ Ev G base (ks κ) (ks κ).heap ∧ (kM κ).sig.returnType = ret ∧ (kM κ).locks = false ∧ base ≤ (ks κ).heap.size ∧ (kl κ).stackTraces = false ∧ kR κ = rm0
def NoTb (κ : KxT) : Prop := ∀ x ∈ (kc κ).exceptionTable.toList, False
def Pre (G : GG) (base : Nat) (ws : va_W) (U : State) : Prop := base ≤ U.heap.size ∧ va_P G.1 vwCl ws U.heap ∧ va_D (Bd base) ws ∧ Ev G base U U.heap
def MC (l : Launch) (y : MethodName) (wy : List Cond) (rm : Room) (G : GG) (base : Nat) (as : List Value) (ws : va_W) (post : Option Value → va_W → Prop) (exc : String → va_W → Prop) : Prop :=
  l.stackTraces = false → vx_Met l y wy rm (va_Pc as (Pre G base ws)) (QR G base post) (QX G base exc) rm.cells rm.slots (Bd base)
theorem Pre.blind {G : GG} {base : Nat} {as : List Value} {ws : va_W} : FrameBlind (va_Pc as (Pre G base ws)) := fun _ _ _ _ h => ⟨h.1, h.2.1, h.2.2.1, h.2.2.2.1, h.2.2.2.2.blind rfl⟩
/-- a method's contract out of its walk -/
theorem MC.of {l : Launch} {y : MethodName} {wy ws' : List Cond} {rm : Room} {G : GG} {base : Nat} {as : List Value} {ws : va_W} {post : Option Value → va_W → Prop} {exc : String → va_W → Prop} {cc : ByteArray} {nL : Nat} {ret : Option FieldType}
    (hy : plainName y.cls = true) (hw : wy = Cond.code y cc nL ret :: ws') {own : String} (ho : y.cls = own) (hn : (lg_sl as).length ≤ nL)
    (body : ∀ κ : KxT, Cx κ cc nL wy own ret rm G base → NoTb κ → kl κ = l → ((kM κ).name = y.name) → Z κ nL G base rm.cells rm.slots post exc 0 0 0 (lv_args 0 as) [] ws) : MC l y wy rm G base as ws post exc := by
  intro hst
  refine vx_ofW hy hw ?_
  intro p e s m args below meth c s₁ B hml htb hv
  obtain ⟨rfl, hb, hP, hD, hE⟩ := hv
  have hown : s.vm.findClass y.cls = some m.cls := findClass_of_methodNamed B.named
  have hnm : meth.name = y.name := (name_of_methodNamed B.named B.method).1
  have hl := lv_entry as (n := nL) hn
  rw [lg_entry_eq]
  refine body (p, l, e, (headSpec wy rm).room, s, m, as.toArray, below, meth, c) ⟨B.exec, B.bytes, hml, by rw [← ho]; exact hown, atoms_spec (ws := wy) B.pre, hE, B.returns, B.notSynchronized, hb, hst, rfl⟩ htb rfl hnm _ _ _ hl hP hD va_S.rf
section
variable {κ : KxT} {cc : ByteArray} {nL : Nat} {Ts : List Cond} {own : String} {ret : Option FieldType} {rm0 : Room} {G : GG} {base mc ms : Nat} {post : Option Value → va_W → Prop} {exc : String → va_W → Prop} {cells slots pc pc' : Nat} {lv : List (Nat × Value)} {st : List Value} {ws : va_W}

theorem z_iconst (C : Cx κ cc nL Ts own ret rm0 G base) {n : Int} (d : decode cc pc = .ok (.iconst n, 1)) (hn : pc + 1 = pc') (kk : Z κ nL G base mc ms post exc cells slots pc' lv (.int (iI n) :: st) ws) : Z κ nL G base mc ms post exc cells slots pc lv st ws := by
  subst hn
  exact fun ls H locs h hP hD hS => lv_iconst C.1 C.2.1 d rfl (kk ls H locs h hP hD hS)
theorem z_bipush (C : Cx κ cc nL Ts own ret rm0 G base) {n c : Int} (hv : (Int8.ofInt n).toInt32 = iI c) (d : decode cc pc = .ok (.bipush n, 2)) (hn : pc + 2 = pc') (kk : Z κ nL G base mc ms post exc cells slots pc' lv (.int (iI c) :: st) ws) : Z κ nL G base mc ms post exc cells slots pc lv st ws := by
  subst hn
  exact fun ls H locs h hP hD hS => lv_bipush C.1 C.2.1 d hv (kk ls H locs h hP hD hS)
theorem z_sipush (C : Cx κ cc nL Ts own ret rm0 G base) {n c : Int} (hv : (Int16.ofInt n).toInt32 = iI c) (d : decode cc pc = .ok (.sipush n, 3)) (hn : pc + 3 = pc') (kk : Z κ nL G base mc ms post exc cells slots pc' lv (.int (iI c) :: st) ws) : Z κ nL G base mc ms post exc cells slots pc lv st ws := by
  subst hn
  exact fun ls H locs h hP hD hS => lv_sipush C.1 C.2.1 d hv (kk ls H locs h hP hD hS)
theorem z_lconst (C : Cx κ cc nL Ts own ret rm0 G base) {n : Fin 2} {v : Int64} (hv : Int64.ofNat (n : Nat) = v) (d : decode cc pc = .ok (.lconst n, 1)) (hn : pc + 1 = pc') (kk : Z κ nL G base mc ms post exc cells slots pc' lv (.long v :: st) ws) : Z κ nL G base mc ms post exc cells slots pc lv st ws := by
  subst hn
  exact fun ls H locs h hP hD hS => lv_lconst C.1 C.2.1 d hv (kk ls H locs h hP hD hS)
theorem z_null (C : Cx κ cc nL Ts own ret rm0 G base)  (d : decode cc pc = .ok (.aconst_null, 1)) (hn : pc + 1 = pc') (kk : Z κ nL G base mc ms post exc cells slots pc' lv (.null :: st) ws) : Z κ nL G base mc ms post exc cells slots pc lv st ws := by
  subst hn
  exact fun ls H locs h hP hD hS => lv_null C.1 C.2.1 d (kk ls H locs h hP hD hS)
theorem z_iload_n (C : Cx κ cc nL Ts own ret rm0 G base) {k : Fin 4} {i : Nat} {x : Int32} (j : Nat) (hi : (k : Nat) = i) (hl : lv[j]? = some (i, .int x)) (d : decode cc pc = .ok (.iload_n k, 1)) (hn : pc + 1 = pc') (kk : Z κ nL G base mc ms post exc cells slots pc' lv (.int x :: st) ws) : Z κ nL G base mc ms post exc cells slots pc lv st ws := by
  subst hn
  exact fun ls H locs h hP hD hS => lv_iload_n C.1 C.2.1 d hi (lv_at h j hl) (kk ls H locs h hP hD hS)
theorem z_iload (C : Cx κ cc nL Ts own ret rm0 G base) {i : Nat} {x : Int32} (j : Nat) (hl : lv[j]? = some (i, .int x)) (d : decode cc pc = .ok (.iload i, 2)) (hn : pc + 2 = pc') (kk : Z κ nL G base mc ms post exc cells slots pc' lv (.int x :: st) ws) : Z κ nL G base mc ms post exc cells slots pc lv st ws := by
  subst hn
  exact fun ls H locs h hP hD hS => lv_iload C.1 C.2.1 d (lv_at h j hl) (kk ls H locs h hP hD hS)
theorem z_aload_n (C : Cx κ cc nL Ts own ret rm0 G base) {k : Fin 4} {i : Nat} {x : Nat} (j : Nat) (hi : (k : Nat) = i) (hl : lv[j]? = some (i, .ref x)) (d : decode cc pc = .ok (.aload_n k, 1)) (hn : pc + 1 = pc') (kk : Z κ nL G base mc ms post exc cells slots pc' lv (.ref x :: st) ws) : Z κ nL G base mc ms post exc cells slots pc lv st ws := by
  subst hn
  exact fun ls H locs h hP hD hS => lv_aload_n C.1 C.2.1 d hi (lv_at h j hl) (kk ls H locs h hP hD hS)
theorem z_aload (C : Cx κ cc nL Ts own ret rm0 G base) {i : Nat} {x : Nat} (j : Nat) (hl : lv[j]? = some (i, .ref x)) (d : decode cc pc = .ok (.aload i, 2)) (hn : pc + 2 = pc') (kk : Z κ nL G base mc ms post exc cells slots pc' lv (.ref x :: st) ws) : Z κ nL G base mc ms post exc cells slots pc lv st ws := by
  subst hn
  exact fun ls H locs h hP hD hS => lv_aload C.1 C.2.1 d (lv_at h j hl) (kk ls H locs h hP hD hS)
theorem z_lload_n (C : Cx κ cc nL Ts own ret rm0 G base) {k : Fin 4} {i : Nat} {x : Int64} (j : Nat) (hi : (k : Nat) = i) (hl : lv[j]? = some (i, .long x)) (d : decode cc pc = .ok (.lload_n k, 1)) (hn : pc + 1 = pc') (kk : Z κ nL G base mc ms post exc cells slots pc' lv (.long x :: st) ws) : Z κ nL G base mc ms post exc cells slots pc lv st ws := by
  subst hn
  exact fun ls H locs h hP hD hS => lv_lload_n C.1 C.2.1 d hi (lv_at h j hl) (kk ls H locs h hP hD hS)
theorem z_lload (C : Cx κ cc nL Ts own ret rm0 G base) {i : Nat} {x : Int64} (j : Nat) (hl : lv[j]? = some (i, .long x)) (d : decode cc pc = .ok (.lload i, 2)) (hn : pc + 2 = pc') (kk : Z κ nL G base mc ms post exc cells slots pc' lv (.long x :: st) ws) : Z κ nL G base mc ms post exc cells slots pc lv st ws := by
  subst hn
  exact fun ls H locs h hP hD hS => lv_lload C.1 C.2.1 d (lv_at h j hl) (kk ls H locs h hP hD hS)
theorem z_aload_nN (C : Cx κ cc nL Ts own ret rm0 G base) {k : Fin 4} {i : Nat} (j : Nat) (hi : (k : Nat) = i) (hl : lv[j]? = some (i, .null)) (d : decode cc pc = .ok (.aload_n k, 1)) (hn : pc + 1 = pc') (kk : Z κ nL G base mc ms post exc cells slots pc' lv (.null :: st) ws) : Z κ nL G base mc ms post exc cells slots pc lv st ws := by
  subst hn
  exact fun ls H locs h hP hD hS => lv_aload_nN C.1 C.2.1 d hi (lv_at h j hl) (kk ls H locs h hP hD hS)
theorem z_aloadN (C : Cx κ cc nL Ts own ret rm0 G base) {i : Nat} (j : Nat) (hl : lv[j]? = some (i, .null)) (d : decode cc pc = .ok (.aload i, 2)) (hn : pc + 2 = pc') (kk : Z κ nL G base mc ms post exc cells slots pc' lv (.null :: st) ws) : Z κ nL G base mc ms post exc cells slots pc lv st ws := by
  subst hn
  exact fun ls H locs h hP hD hS => lv_aloadN C.1 C.2.1 d (lv_at h j hl) (kk ls H locs h hP hD hS)
theorem z_istore_n (C : Cx κ cc nL Ts own ret rm0 G base) {k : Fin 4} {i : Nat} {x : Int32} (hi : (k : Nat) = i) {lv' : List (Nat × Value)} (d : decode cc pc = .ok (.istore_n k, 1)) (hn : pc + 1 = pc') (hb : i < nL) (hl : (i, Value.int x) :: lv.filter (fun q => !(q.1 == i) && !(q.1 + 1 == i && q.2.category == 2)) = lv') (kk : Z κ nL G base mc ms post exc cells slots pc' lv' st ws) : Z κ nL G base mc ms post exc cells slots pc lv (.int x :: st) ws := by
  subst hn
  exact fun ls H locs h hP hD hS => lv_istore_n C.1 C.2.1 d hi h hb hl (fun ls' h' => kk ls' H locs h' hP hD hS)
theorem z_istore (C : Cx κ cc nL Ts own ret rm0 G base) {i : Nat} {x : Int32} {lv' : List (Nat × Value)} (d : decode cc pc = .ok (.istore i, 2)) (hn : pc + 2 = pc') (hb : i < nL) (hl : (i, Value.int x) :: lv.filter (fun q => !(q.1 == i) && !(q.1 + 1 == i && q.2.category == 2)) = lv') (kk : Z κ nL G base mc ms post exc cells slots pc' lv' st ws) : Z κ nL G base mc ms post exc cells slots pc lv (.int x :: st) ws := by
  subst hn
  exact fun ls H locs h hP hD hS => lv_istore C.1 C.2.1 d h hb hl (fun ls' h' => kk ls' H locs h' hP hD hS)
theorem z_astore_n (C : Cx κ cc nL Ts own ret rm0 G base) {k : Fin 4} {i : Nat} {x : Nat} (hi : (k : Nat) = i) {lv' : List (Nat × Value)} (d : decode cc pc = .ok (.astore_n k, 1)) (hn : pc + 1 = pc') (hb : i < nL) (hl : (i, Value.ref x) :: lv.filter (fun q => !(q.1 == i) && !(q.1 + 1 == i && q.2.category == 2)) = lv') (kk : Z κ nL G base mc ms post exc cells slots pc' lv' st ws) : Z κ nL G base mc ms post exc cells slots pc lv (.ref x :: st) ws := by
  subst hn
  exact fun ls H locs h hP hD hS => lv_astore_n C.1 C.2.1 d hi h hb hl (fun ls' h' => kk ls' H locs h' hP hD hS)
theorem z_astore (C : Cx κ cc nL Ts own ret rm0 G base) {i : Nat} {x : Nat} {lv' : List (Nat × Value)} (d : decode cc pc = .ok (.astore i, 2)) (hn : pc + 2 = pc') (hb : i < nL) (hl : (i, Value.ref x) :: lv.filter (fun q => !(q.1 == i) && !(q.1 + 1 == i && q.2.category == 2)) = lv') (kk : Z κ nL G base mc ms post exc cells slots pc' lv' st ws) : Z κ nL G base mc ms post exc cells slots pc lv (.ref x :: st) ws := by
  subst hn
  exact fun ls H locs h hP hD hS => lv_astore C.1 C.2.1 d h hb hl (fun ls' h' => kk ls' H locs h' hP hD hS)
theorem z_lstore_n (C : Cx κ cc nL Ts own ret rm0 G base) {k : Fin 4} {i : Nat} {x : Int64} (hi : (k : Nat) = i) {lv' : List (Nat × Value)} (d : decode cc pc = .ok (.lstore_n k, 1)) (hn : pc + 1 = pc') (hb : i + 1 < nL) (hl : (i, Value.long x) :: lv.filter (fun q => !(q.1 == i) && (!(q.1 == i + 1) && !(q.1 + 1 == i && q.2.category == 2))) = lv') (kk : Z κ nL G base mc ms post exc cells slots pc' lv' st ws) : Z κ nL G base mc ms post exc cells slots pc lv (.long x :: st) ws := by
  subst hn
  exact fun ls H locs h hP hD hS => lv_lstore_n C.1 C.2.1 d hi h hb hl (fun ls' h' => kk ls' H locs h' hP hD hS)
theorem z_lstore (C : Cx κ cc nL Ts own ret rm0 G base) {i : Nat} {x : Int64} {lv' : List (Nat × Value)} (d : decode cc pc = .ok (.lstore i, 2)) (hn : pc + 2 = pc') (hb : i + 1 < nL) (hl : (i, Value.long x) :: lv.filter (fun q => !(q.1 == i) && (!(q.1 == i + 1) && !(q.1 + 1 == i && q.2.category == 2))) = lv') (kk : Z κ nL G base mc ms post exc cells slots pc' lv' st ws) : Z κ nL G base mc ms post exc cells slots pc lv (.long x :: st) ws := by
  subst hn
  exact fun ls H locs h hP hD hS => lv_lstore C.1 C.2.1 d h hb hl (fun ls' h' => kk ls' H locs h' hP hD hS)
theorem z_astore_nN (C : Cx κ cc nL Ts own ret rm0 G base) {k : Fin 4} {i : Nat} (hi : (k : Nat) = i) {lv' : List (Nat × Value)} (d : decode cc pc = .ok (.astore_n k, 1)) (hn : pc + 1 = pc') (hb : i < nL) (hl : (i, Value.null) :: lv.filter (fun q => !(q.1 == i) && !(q.1 + 1 == i && q.2.category == 2)) = lv') (kk : Z κ nL G base mc ms post exc cells slots pc' lv' st ws) : Z κ nL G base mc ms post exc cells slots pc lv (.null :: st) ws := by
  subst hn
  exact fun ls H locs h hP hD hS => lv_astore_nN C.1 C.2.1 d hi h hb hl (fun ls' h' => kk ls' H locs h' hP hD hS)
theorem z_astoreN (C : Cx κ cc nL Ts own ret rm0 G base) {i : Nat} {lv' : List (Nat × Value)} (d : decode cc pc = .ok (.astore i, 2)) (hn : pc + 2 = pc') (hb : i < nL) (hl : (i, Value.null) :: lv.filter (fun q => !(q.1 == i) && !(q.1 + 1 == i && q.2.category == 2)) = lv') (kk : Z κ nL G base mc ms post exc cells slots pc' lv' st ws) : Z κ nL G base mc ms post exc cells slots pc lv (.null :: st) ws := by
  subst hn
  exact fun ls H locs h hP hD hS => lv_astoreN C.1 C.2.1 d h hb hl (fun ls' h' => kk ls' H locs h' hP hD hS)
theorem z_iinc (C : Cx κ cc nL Ts own ret rm0 G base) {i : Nat} {n a c : Int} {lv' : List (Nat × Value)} (k : Nat) (d : decode cc pc = .ok (.iinc i n, 3)) (hn : pc + 3 = pc') (hk : lv[k]? = some (i, .int (iI a))) (hc : a + n = c) (hb : i < nL) (hl : (i, Value.int (iI c)) :: lv.filter (fun q => !(q.1 == i) && !(q.1 + 1 == i && q.2.category == 2)) = lv') (kk : Z κ nL G base mc ms post exc cells slots pc' lv' st ws) : Z κ nL G base mc ms post exc cells slots pc lv st ws := by
  subst hn
  exact fun ls H locs h hP hD hS => lv_iinc C.1 C.2.1 d h hk (by rw [← hc]; exact iI_add a n) hb hl (fun ls' h' => kk ls' H locs h' hP hD hS)
theorem z_iadd (C : Cx κ cc nL Ts own ret rm0 G base) {a b c : Int} (d : decode cc pc = .ok (.iadd, 1)) (hn : pc + 1 = pc') (hc : a + b = c) (kk : Z κ nL G base mc ms post exc cells slots pc' lv (.int (iI c) :: st) ws) : Z κ nL G base mc ms post exc cells slots pc lv (.int (iI b) :: .int (iI a) :: st) ws := by
  subst hn
  subst hc
  exact fun ls H locs h hP hD hS => lv_iadd C.1 C.2.1 d (by rw [iI_add]; exact kk ls H locs h hP hD hS)
theorem z_isub (C : Cx κ cc nL Ts own ret rm0 G base) {a b c : Int} (d : decode cc pc = .ok (.isub, 1)) (hn : pc + 1 = pc') (hc : a - b = c) (kk : Z κ nL G base mc ms post exc cells slots pc' lv (.int (iI c) :: st) ws) : Z κ nL G base mc ms post exc cells slots pc lv (.int (iI b) :: .int (iI a) :: st) ws := by
  subst hn
  subst hc
  exact fun ls H locs h hP hD hS => lv_isub C.1 C.2.1 d (by rw [iI_sub]; exact kk ls H locs h hP hD hS)
theorem z_imul (C : Cx κ cc nL Ts own ret rm0 G base) {a b c : Int} (d : decode cc pc = .ok (.imul, 1)) (hn : pc + 1 = pc') (hc : a * b = c) (kk : Z κ nL G base mc ms post exc cells slots pc' lv (.int (iI c) :: st) ws) : Z κ nL G base mc ms post exc cells slots pc lv (.int (iI b) :: .int (iI a) :: st) ws := by
  subst hn
  subst hc
  exact fun ls H locs h hP hD hS => lv_imul C.1 C.2.1 d (by rw [iI_mul]; exact kk ls H locs h hP hD hS)
theorem z_idiv (C : Cx κ cc nL Ts own ret rm0 G base) {x y : Int32} (hy : ¬ y = 0) (d : decode cc pc = .ok (.idiv, 1)) (hn : pc + 1 = pc') (kk : Z κ nL G base mc ms post exc cells slots pc' lv (.int (x / y) :: st) ws) : Z κ nL G base mc ms post exc cells slots pc lv (.int y :: .int x :: st) ws := by
  subst hn
  exact fun ls H locs h hP hD hS => lv_idiv C.1 C.2.1 d hy (kk ls H locs h hP hD hS)
theorem z_ishr (C : Cx κ cc nL Ts own ret rm0 G base) {x y : Int32} (d : decode cc pc = .ok (.ishr, 1)) (hn : pc + 1 = pc') (kk : Z κ nL G base mc ms post exc cells slots pc' lv (.int (x >>> (y &&& 31)) :: st) ws) : Z κ nL G base mc ms post exc cells slots pc lv (.int y :: .int x :: st) ws := by
  subst hn
  exact fun ls H locs h hP hD hS => lv_ishr C.1 C.2.1 d (kk ls H locs h hP hD hS)
theorem z_iand (C : Cx κ cc nL Ts own ret rm0 G base) {x y : Int32} (d : decode cc pc = .ok (.iand, 1)) (hn : pc + 1 = pc') (kk : Z κ nL G base mc ms post exc cells slots pc' lv (.int (x &&& y) :: st) ws) : Z κ nL G base mc ms post exc cells slots pc lv (.int y :: .int x :: st) ws := by
  subst hn
  exact fun ls H locs h hP hD hS => lv_iand C.1 C.2.1 d (kk ls H locs h hP hD hS)
theorem z_topi {x y : Int32} (h : x = y) (kk : Z κ nL G base mc ms post exc cells slots pc lv (.int y :: st) ws) : Z κ nL G base mc ms post exc cells slots pc lv (.int x :: st) ws := by subst h; exact kk
theorem z_topl {x y : Int64} (h : x = y) (kk : Z κ nL G base mc ms post exc cells slots pc lv (.long y :: st) ws) : Z κ nL G base mc ms post exc cells slots pc lv (.long x :: st) ws := by subst h; exact kk
theorem z_ladd (C : Cx κ cc nL Ts own ret rm0 G base) {x y : Int64} (d : decode cc pc = .ok (.ladd, 1)) (hn : pc + 1 = pc') (kk : Z κ nL G base mc ms post exc cells slots pc' lv (.long (x + y) :: st) ws) : Z κ nL G base mc ms post exc cells slots pc lv (.long y :: .long x :: st) ws := by
  subst hn
  exact fun ls H locs h hP hD hS => lv_ladd C.1 C.2.1 d (kk ls H locs h hP hD hS)
theorem z_lsub (C : Cx κ cc nL Ts own ret rm0 G base) {x y : Int64} (d : decode cc pc = .ok (.lsub, 1)) (hn : pc + 1 = pc') (kk : Z κ nL G base mc ms post exc cells slots pc' lv (.long (x - y) :: st) ws) : Z κ nL G base mc ms post exc cells slots pc lv (.long y :: .long x :: st) ws := by
  subst hn
  exact fun ls H locs h hP hD hS => lv_lsub C.1 C.2.1 d (kk ls H locs h hP hD hS)
theorem z_land (C : Cx κ cc nL Ts own ret rm0 G base) {x y : Int64} (d : decode cc pc = .ok (.land, 1)) (hn : pc + 1 = pc') (kk : Z κ nL G base mc ms post exc cells slots pc' lv (.long (x &&& y) :: st) ws) : Z κ nL G base mc ms post exc cells slots pc lv (.long y :: .long x :: st) ws := by
  subst hn
  exact fun ls H locs h hP hD hS => lv_land C.1 C.2.1 d (kk ls H locs h hP hD hS)
theorem z_lor (C : Cx κ cc nL Ts own ret rm0 G base) {x y : Int64} (d : decode cc pc = .ok (.lor, 1)) (hn : pc + 1 = pc') (kk : Z κ nL G base mc ms post exc cells slots pc' lv (.long (x ||| y) :: st) ws) : Z κ nL G base mc ms post exc cells slots pc lv (.long y :: .long x :: st) ws := by
  subst hn
  exact fun ls H locs h hP hD hS => lv_lor C.1 C.2.1 d (kk ls H locs h hP hD hS)
theorem z_lxor (C : Cx κ cc nL Ts own ret rm0 G base) {x y : Int64} (d : decode cc pc = .ok (.lxor, 1)) (hn : pc + 1 = pc') (kk : Z κ nL G base mc ms post exc cells slots pc' lv (.long (x ^^^ y) :: st) ws) : Z κ nL G base mc ms post exc cells slots pc lv (.long y :: .long x :: st) ws := by
  subst hn
  exact fun ls H locs h hP hD hS => lv_lxor C.1 C.2.1 d (kk ls H locs h hP hD hS)
theorem z_lshl (C : Cx κ cc nL Ts own ret rm0 G base) {x v : Int64} {y : Int32} (hv : x <<< (y.toInt64 &&& 63) = v) (d : decode cc pc = .ok (.lshl, 1)) (hn : pc + 1 = pc') (kk : Z κ nL G base mc ms post exc cells slots pc' lv (.long v :: st) ws) : Z κ nL G base mc ms post exc cells slots pc lv (.int y :: .long x :: st) ws := by
  subst hn
  exact fun ls H locs h hP hD hS => lv_lshl C.1 C.2.1 d hv (kk ls H locs h hP hD hS)
theorem z_lushr (C : Cx κ cc nL Ts own ret rm0 G base) {x v : Int64} {y : Int32} (hv : (x.toUInt64 >>> (y.toInt64.toUInt64 &&& Int64.toUInt64 63)).toInt64 = v) (d : decode cc pc = .ok (.lushr, 1)) (hn : pc + 1 = pc') (kk : Z κ nL G base mc ms post exc cells slots pc' lv (.long v :: st) ws) : Z κ nL G base mc ms post exc cells slots pc lv (.int y :: .long x :: st) ws := by
  subst hn
  exact fun ls H locs h hP hD hS => lv_lushr C.1 C.2.1 d hv (kk ls H locs h hP hD hS)
theorem z_l2i (C : Cx κ cc nL Ts own ret rm0 G base) {x : Int64} {v : Int32} (hv : x.toInt32 = v) (d : decode cc pc = .ok (.l2i, 1)) (hn : pc + 1 = pc') (kk : Z κ nL G base mc ms post exc cells slots pc' lv (.int v :: st) ws) : Z κ nL G base mc ms post exc cells slots pc lv (.long x :: st) ws := by
  subst hn
  exact fun ls H locs h hP hD hS => lv_l2i C.1 C.2.1 d hv (kk ls H locs h hP hD hS)
theorem z_i2l (C : Cx κ cc nL Ts own ret rm0 G base) {x : Int32} {v : Int64} (hv : x.toInt64 = v) (d : decode cc pc = .ok (.i2l, 1)) (hn : pc + 1 = pc') (kk : Z κ nL G base mc ms post exc cells slots pc' lv (.long v :: st) ws) : Z κ nL G base mc ms post exc cells slots pc lv (.int x :: st) ws := by
  subst hn
  exact fun ls H locs h hP hD hS => lv_i2l C.1 C.2.1 d hv (kk ls H locs h hP hD hS)
theorem z_dup (C : Cx κ cc nL Ts own ret rm0 G base) {v : Value} (hv : v.category = 1) (d : decode cc pc = .ok (.dup, 1)) (hn : pc + 1 = pc') (kk : Z κ nL G base mc ms post exc cells slots pc' lv (v :: v :: st) ws) : Z κ nL G base mc ms post exc cells slots pc lv (v :: st) ws := by
  subst hn
  exact fun ls H locs h hP hD hS => lv_dup C.1 C.2.1 d hv (kk ls H locs h hP hD hS)
theorem z_dup_x1 (C : Cx κ cc nL Ts own ret rm0 G base) {v w : Value} (hv : v.category = 1) (hw : w.category = 1) (d : decode cc pc = .ok (.dup_x1, 1)) (hn : pc + 1 = pc') (kk : Z κ nL G base mc ms post exc cells slots pc' lv (v :: w :: v :: st) ws) : Z κ nL G base mc ms post exc cells slots pc lv (v :: w :: st) ws := by
  subst hn
  exact fun ls H locs h hP hD hS => lv_dup_x1 C.1 C.2.1 d hv hw (kk ls H locs h hP hD hS)
theorem z_dup2 (C : Cx κ cc nL Ts own ret rm0 G base) {v w : Value} (hv : v.category = 1) (hw : w.category = 1) (d : decode cc pc = .ok (.dup2, 1)) (hn : pc + 1 = pc') (kk : Z κ nL G base mc ms post exc cells slots pc' lv (v :: w :: v :: w :: st) ws) : Z κ nL G base mc ms post exc cells slots pc lv (v :: w :: st) ws := by
  subst hn
  exact fun ls H locs h hP hD hS => lv_dup2_11 C.1 C.2.1 d hv hw (kk ls H locs h hP hD hS)
theorem z_pop (C : Cx κ cc nL Ts own ret rm0 G base) {v : Value} (hv : v.category = 1) (d : decode cc pc = .ok (.pop, 1)) (hn : pc + 1 = pc') (kk : Z κ nL G base mc ms post exc cells slots pc' lv st ws) : Z κ nL G base mc ms post exc cells slots pc lv (v :: st) ws := by
  subst hn
  exact fun ls H locs h hP hD hS => lv_pop C.1 C.2.1 d hv (kk ls H locs h hP hD hS)
theorem z_ldc (C : Cx κ cc nL Ts own ret rm0 G base) {i : Nat} {v : Int32} (hc : (Cond.constant own i v).before (ka κ) (ks κ) = true) (d : decode cc pc = .ok (.ldc i, 2)) (hn : pc + 2 = pc') (kk : Z κ nL G base mc ms post exc cells slots pc' lv (.int v :: st) ws) : Z κ nL G base mc ms post exc cells slots pc lv st ws := by
  subst hn
  exact fun ls H locs h hP hD hS => lv_ldc C.1 C.2.1 C.2.2.2.1 hc d (kk ls H locs h hP hD hS)
theorem z_ldc2 (C : Cx κ cc nL Ts own ret rm0 G base) {i : Nat} {v : Int64} (hc : (Cond.constantLong own i v).before (ka κ) (ks κ) = true) (d : decode cc pc = .ok (.ldc2_w i, 3)) (hn : pc + 3 = pc') (kk : Z κ nL G base mc ms post exc cells slots pc' lv (.long v :: st) ws) : Z κ nL G base mc ms post exc cells slots pc lv st ws := by
  subst hn
  exact fun ls H locs h hP hD hS => lv_ldc2 C.1 C.2.1 C.2.2.2.1 hc d (kk ls H locs h hP hD hS)
theorem z_goto (C : Cx κ cc nL Ts own ret rm0 G base) {off : Int} (d : decode cc pc = .ok (.goto off, 3)) (ht : (pc : Int) + off = (pc' : Int)) (kk : Z κ nL G base mc ms post exc cells slots pc' lv st ws) : Z κ nL G base mc ms post exc cells slots pc lv st ws := by
  exact fun ls H locs h hP hD hS => lv_goto C.1 C.2.1 d ht (kk ls H locs h hP hD hS)
theorem z_icmp_eq (C : Cx κ cc nL Ts own ret rm0 G base) {x y : Int32} {off : Int} {pt : Nat} {A B : Prop} (d : decode cc pc = .ok (.if_icmp .eq off, 3)) (ht : (pc : Int) + off = (pt : Int)) (hn : pc + 3 = pc') (ha : (x = y) → A) (hb : (¬ x = y) → B) (k1 : A → Z κ nL G base mc ms post exc cells slots pt lv st ws) (k2 : B → Z κ nL G base mc ms post exc cells slots pc' lv st ws) : Z κ nL G base mc ms post exc cells slots pc lv (.int y :: .int x :: st) ws := by
  subst hn
  exact fun ls H locs h hP hD hS => lv_icmp_eq C.1 C.2.1 d ht (fun q => k1 (ha q) ls H locs h hP hD hS) (fun q => k2 (hb q) ls H locs h hP hD hS)
theorem z_if_eq (C : Cx κ cc nL Ts own ret rm0 G base) {x : Int32} {off : Int} {pt : Nat} {A B : Prop} (d : decode cc pc = .ok (.ifCond .eq off, 3)) (ht : (pc : Int) + off = (pt : Int)) (hn : pc + 3 = pc') (ha : (x = 0) → A) (hb : (¬ x = 0) → B) (k1 : A → Z κ nL G base mc ms post exc cells slots pt lv st ws) (k2 : B → Z κ nL G base mc ms post exc cells slots pc' lv st ws) : Z κ nL G base mc ms post exc cells slots pc lv (.int x :: st) ws := by
  subst hn
  exact fun ls H locs h hP hD hS => lv_if_eq C.1 C.2.1 d ht (fun q => k1 (ha q) ls H locs h hP hD hS) (fun q => k2 (hb q) ls H locs h hP hD hS)
theorem z_icmp_ne (C : Cx κ cc nL Ts own ret rm0 G base) {x y : Int32} {off : Int} {pt : Nat} {A B : Prop} (d : decode cc pc = .ok (.if_icmp .ne off, 3)) (ht : (pc : Int) + off = (pt : Int)) (hn : pc + 3 = pc') (ha : (¬ x = y) → A) (hb : (x = y) → B) (k1 : A → Z κ nL G base mc ms post exc cells slots pt lv st ws) (k2 : B → Z κ nL G base mc ms post exc cells slots pc' lv st ws) : Z κ nL G base mc ms post exc cells slots pc lv (.int y :: .int x :: st) ws := by
  subst hn
  exact fun ls H locs h hP hD hS => lv_icmp_ne C.1 C.2.1 d ht (fun q => k1 (ha q) ls H locs h hP hD hS) (fun q => k2 (hb q) ls H locs h hP hD hS)
theorem z_if_ne (C : Cx κ cc nL Ts own ret rm0 G base) {x : Int32} {off : Int} {pt : Nat} {A B : Prop} (d : decode cc pc = .ok (.ifCond .ne off, 3)) (ht : (pc : Int) + off = (pt : Int)) (hn : pc + 3 = pc') (ha : (¬ x = 0) → A) (hb : (x = 0) → B) (k1 : A → Z κ nL G base mc ms post exc cells slots pt lv st ws) (k2 : B → Z κ nL G base mc ms post exc cells slots pc' lv st ws) : Z κ nL G base mc ms post exc cells slots pc lv (.int x :: st) ws := by
  subst hn
  exact fun ls H locs h hP hD hS => lv_if_ne C.1 C.2.1 d ht (fun q => k1 (ha q) ls H locs h hP hD hS) (fun q => k2 (hb q) ls H locs h hP hD hS)
theorem z_icmp_lt (C : Cx κ cc nL Ts own ret rm0 G base) {x y : Int32} {off : Int} {pt : Nat} {A B : Prop} (d : decode cc pc = .ok (.if_icmp .lt off, 3)) (ht : (pc : Int) + off = (pt : Int)) (hn : pc + 3 = pc') (ha : (x < y) → A) (hb : (¬ x < y) → B) (k1 : A → Z κ nL G base mc ms post exc cells slots pt lv st ws) (k2 : B → Z κ nL G base mc ms post exc cells slots pc' lv st ws) : Z κ nL G base mc ms post exc cells slots pc lv (.int y :: .int x :: st) ws := by
  subst hn
  exact fun ls H locs h hP hD hS => lv_icmp_lt C.1 C.2.1 d ht (fun q => k1 (ha q) ls H locs h hP hD hS) (fun q => k2 (hb q) ls H locs h hP hD hS)
theorem z_if_lt (C : Cx κ cc nL Ts own ret rm0 G base) {x : Int32} {off : Int} {pt : Nat} {A B : Prop} (d : decode cc pc = .ok (.ifCond .lt off, 3)) (ht : (pc : Int) + off = (pt : Int)) (hn : pc + 3 = pc') (ha : (x < 0) → A) (hb : (¬ x < 0) → B) (k1 : A → Z κ nL G base mc ms post exc cells slots pt lv st ws) (k2 : B → Z κ nL G base mc ms post exc cells slots pc' lv st ws) : Z κ nL G base mc ms post exc cells slots pc lv (.int x :: st) ws := by
  subst hn
  exact fun ls H locs h hP hD hS => lv_if_lt C.1 C.2.1 d ht (fun q => k1 (ha q) ls H locs h hP hD hS) (fun q => k2 (hb q) ls H locs h hP hD hS)
theorem z_icmp_ge (C : Cx κ cc nL Ts own ret rm0 G base) {x y : Int32} {off : Int} {pt : Nat} {A B : Prop} (d : decode cc pc = .ok (.if_icmp .ge off, 3)) (ht : (pc : Int) + off = (pt : Int)) (hn : pc + 3 = pc') (ha : (y ≤ x) → A) (hb : (¬ y ≤ x) → B) (k1 : A → Z κ nL G base mc ms post exc cells slots pt lv st ws) (k2 : B → Z κ nL G base mc ms post exc cells slots pc' lv st ws) : Z κ nL G base mc ms post exc cells slots pc lv (.int y :: .int x :: st) ws := by
  subst hn
  exact fun ls H locs h hP hD hS => lv_icmp_ge C.1 C.2.1 d ht (fun q => k1 (ha q) ls H locs h hP hD hS) (fun q => k2 (hb q) ls H locs h hP hD hS)
theorem z_if_ge (C : Cx κ cc nL Ts own ret rm0 G base) {x : Int32} {off : Int} {pt : Nat} {A B : Prop} (d : decode cc pc = .ok (.ifCond .ge off, 3)) (ht : (pc : Int) + off = (pt : Int)) (hn : pc + 3 = pc') (ha : (0 ≤ x) → A) (hb : (¬ 0 ≤ x) → B) (k1 : A → Z κ nL G base mc ms post exc cells slots pt lv st ws) (k2 : B → Z κ nL G base mc ms post exc cells slots pc' lv st ws) : Z κ nL G base mc ms post exc cells slots pc lv (.int x :: st) ws := by
  subst hn
  exact fun ls H locs h hP hD hS => lv_if_ge C.1 C.2.1 d ht (fun q => k1 (ha q) ls H locs h hP hD hS) (fun q => k2 (hb q) ls H locs h hP hD hS)
theorem z_icmp_gt (C : Cx κ cc nL Ts own ret rm0 G base) {x y : Int32} {off : Int} {pt : Nat} {A B : Prop} (d : decode cc pc = .ok (.if_icmp .gt off, 3)) (ht : (pc : Int) + off = (pt : Int)) (hn : pc + 3 = pc') (ha : (y < x) → A) (hb : (¬ y < x) → B) (k1 : A → Z κ nL G base mc ms post exc cells slots pt lv st ws) (k2 : B → Z κ nL G base mc ms post exc cells slots pc' lv st ws) : Z κ nL G base mc ms post exc cells slots pc lv (.int y :: .int x :: st) ws := by
  subst hn
  exact fun ls H locs h hP hD hS => lv_icmp_gt C.1 C.2.1 d ht (fun q => k1 (ha q) ls H locs h hP hD hS) (fun q => k2 (hb q) ls H locs h hP hD hS)
theorem z_if_gt (C : Cx κ cc nL Ts own ret rm0 G base) {x : Int32} {off : Int} {pt : Nat} {A B : Prop} (d : decode cc pc = .ok (.ifCond .gt off, 3)) (ht : (pc : Int) + off = (pt : Int)) (hn : pc + 3 = pc') (ha : (0 < x) → A) (hb : (¬ 0 < x) → B) (k1 : A → Z κ nL G base mc ms post exc cells slots pt lv st ws) (k2 : B → Z κ nL G base mc ms post exc cells slots pc' lv st ws) : Z κ nL G base mc ms post exc cells slots pc lv (.int x :: st) ws := by
  subst hn
  exact fun ls H locs h hP hD hS => lv_if_gt C.1 C.2.1 d ht (fun q => k1 (ha q) ls H locs h hP hD hS) (fun q => k2 (hb q) ls H locs h hP hD hS)
theorem z_icmp_le (C : Cx κ cc nL Ts own ret rm0 G base) {x y : Int32} {off : Int} {pt : Nat} {A B : Prop} (d : decode cc pc = .ok (.if_icmp .le off, 3)) (ht : (pc : Int) + off = (pt : Int)) (hn : pc + 3 = pc') (ha : (x ≤ y) → A) (hb : (¬ x ≤ y) → B) (k1 : A → Z κ nL G base mc ms post exc cells slots pt lv st ws) (k2 : B → Z κ nL G base mc ms post exc cells slots pc' lv st ws) : Z κ nL G base mc ms post exc cells slots pc lv (.int y :: .int x :: st) ws := by
  subst hn
  exact fun ls H locs h hP hD hS => lv_icmp_le C.1 C.2.1 d ht (fun q => k1 (ha q) ls H locs h hP hD hS) (fun q => k2 (hb q) ls H locs h hP hD hS)
theorem z_if_le (C : Cx κ cc nL Ts own ret rm0 G base) {x : Int32} {off : Int} {pt : Nat} {A B : Prop} (d : decode cc pc = .ok (.ifCond .le off, 3)) (ht : (pc : Int) + off = (pt : Int)) (hn : pc + 3 = pc') (ha : (x ≤ 0) → A) (hb : (¬ x ≤ 0) → B) (k1 : A → Z κ nL G base mc ms post exc cells slots pt lv st ws) (k2 : B → Z κ nL G base mc ms post exc cells slots pc' lv st ws) : Z κ nL G base mc ms post exc cells slots pc lv (.int x :: st) ws := by
  subst hn
  exact fun ls H locs h hP hD hS => lv_if_le C.1 C.2.1 d ht (fun q => k1 (ha q) ls H locs h hP hD hS) (fun q => k2 (hb q) ls H locs h hP hD hS)
theorem z_ifnull (C : Cx κ cc nL Ts own ret rm0 G base) {x : Nat} {off : Int} (d : decode cc pc = .ok (.ifnull off, 3)) (hn : pc + 3 = pc') (kk : Z κ nL G base mc ms post exc cells slots pc' lv st ws) : Z κ nL G base mc ms post exc cells slots pc lv (.ref x :: st) ws := by
  subst hn
  exact fun ls H locs h hP hD hS => lv_ifnull C.1 C.2.1 d (kk ls H locs h hP hD hS)
theorem z_ifnullN (C : Cx κ cc nL Ts own ret rm0 G base) {off : Int} (d : decode cc pc = .ok (.ifnull off, 3)) (ht : (pc : Int) + off = (pc' : Int)) (kk : Z κ nL G base mc ms post exc cells slots pc' lv st ws) : Z κ nL G base mc ms post exc cells slots pc lv (.null :: st) ws := by
  exact fun ls H locs h hP hD hS => lv_ifnullN C.1 C.2.1 d ht (kk ls H locs h hP hD hS)
theorem z_ifnonnull (C : Cx κ cc nL Ts own ret rm0 G base) {x : Nat} {off : Int} (d : decode cc pc = .ok (.ifnonnull off, 3)) (ht : (pc : Int) + off = (pc' : Int)) (kk : Z κ nL G base mc ms post exc cells slots pc' lv st ws) : Z κ nL G base mc ms post exc cells slots pc lv (.ref x :: st) ws := by
  exact fun ls H locs h hP hD hS => lv_ifnonnull C.1 C.2.1 d ht (kk ls H locs h hP hD hS)
theorem z_ifnonnullN (C : Cx κ cc nL Ts own ret rm0 G base) {off : Int} (d : decode cc pc = .ok (.ifnonnull off, 3)) (hn : pc + 3 = pc') (kk : Z κ nL G base mc ms post exc cells slots pc' lv st ws) : Z κ nL G base mc ms post exc cells slots pc lv (.null :: st) ws := by
  subst hn
  exact fun ls H locs h hP hD hS => lv_ifnonnullN C.1 C.2.1 d (kk ls H locs h hP hD hS)
theorem z_acmp_eq (C : Cx κ cc nL Ts own ret rm0 G base) {off : Int} {pt : Nat} (x y : Option Nat) (d : decode cc pc = .ok (.if_acmp .eq off, 3)) (ht : (pc : Int) + off = (pt : Int)) (hn : pc + 3 = pc') (k1 : x = y → Z κ nL G base mc ms post exc cells slots pt lv st ws) (k2 : ¬ x = y → Z κ nL G base mc ms post exc cells slots pc' lv st ws) : Z κ nL G base mc ms post exc cells slots pc lv (va_rf y :: va_rf x :: st) ws := by
  subst hn
  exact fun ls H locs h hP hD hS => lv_acmp_eq C.1 C.2.1 d ht (fun q => k1 q ls H locs h hP hD hS) (fun q => k2 q ls H locs h hP hD hS)
theorem z_acmp_ne (C : Cx κ cc nL Ts own ret rm0 G base) {off : Int} {pt : Nat} (x y : Option Nat) (d : decode cc pc = .ok (.if_acmp .ne off, 3)) (ht : (pc : Int) + off = (pt : Int)) (hn : pc + 3 = pc') (k1 : ¬ x = y → Z κ nL G base mc ms post exc cells slots pt lv st ws) (k2 : x = y → Z κ nL G base mc ms post exc cells slots pc' lv st ws) : Z κ nL G base mc ms post exc cells slots pc lv (va_rf y :: va_rf x :: st) ws := by
  subst hn
  exact fun ls H locs h hP hD hS => lv_acmp_ne C.1 C.2.1 d ht (fun q => k1 q ls H locs h hP hD hS) (fun q => k2 q ls H locs h hP hD hS)
theorem z_widen {k n : Nat} (h1 : cells ≤ k) (h2 : slots ≤ n) (kk : Z κ nL G base mc ms post exc k n pc lv st ws) : Z κ nL G base mc ms post exc cells slots pc lv st ws := fun ls H locs h hP hD hS => W.widen h1 h2 (kk ls H locs h hP hD hS)
theorem z_sub {lv' : List (Nat × Value)} (js : List Nat) (hl : lv_pick lv js = lv') (kk : Z κ nL G base mc ms post exc cells slots pc lv' st ws) : Z κ nL G base mc ms post exc cells slots pc lv st ws := fun ls H locs h hP hD hS => kk ls H locs (lv_sub h js hl) hP hD hS
theorem z_ws {ws' : va_W} (h : ws = ws') (kk : Z κ nL G base mc ms post exc cells slots pc lv st ws') : Z κ nL G base mc ms post exc cells slots pc lv st ws := by subst h; exact kk
theorem z_iret (C : Cx κ cc nL Ts own ret rm0 G base) {x : Int32} (hr : ret = some .int) (d : decode cc pc = .ok (.ireturn, 1)) (hp : post (some (.int x)) ws) (hc : cells ≤ mc) (hs : slots ≤ ms) : Z κ nL G base mc ms post exc cells slots pc lv [.int x] ws := by
  intro ls H locs h hP hD hS
  refine W.widen hc hs (vx_ret ?_)
  exact W.iret C.1 C.2.1 (by rw [← hr]; exact C.2.2.2.2.2.2.1) (fun t ht hW => ⟨⟨_, ws, rfl, hp, by rw [ht]; exact hP, hD⟩, hS.F ht⟩) hS.2.2 d C.2.2.2.2.2.2.2.1
theorem z_zret (C : Cx κ cc nL Ts own ret rm0 G base) {z : Int} (hr : ret = some .boolean) (hz : z = 0 ∨ z = 1) (d : decode cc pc = .ok (.ireturn, 1)) (hp : post (some (.int (iI z))) ws) (hc : cells ≤ mc) (hs : slots ≤ ms) : Z κ nL G base mc ms post exc cells slots pc lv [.int (iI z)] ws := by
  intro ls H locs h hP hD hS
  refine W.widen hc hs (vx_ret ?_)
  exact W.zret (ty := .boolean) C.1 C.2.1 (by rw [← hr]; exact C.2.2.2.2.2.2.1) (iI_bool hz) (fun t ht hW => ⟨⟨_, ws, rfl, hp, by rw [ht]; exact hP, hD⟩, hS.F ht⟩) hS.2.2 d C.2.2.2.2.2.2.2.1
theorem z_lret (C : Cx κ cc nL Ts own ret rm0 G base) {x : Int64} (hr : ret = some .long) (d : decode cc pc = .ok (.lreturn, 1)) (hp : post (some (.long x)) ws) (hc : cells ≤ mc) (hs : slots ≤ ms) : Z κ nL G base mc ms post exc cells slots pc lv [.long x] ws := by
  intro ls H locs h hP hD hS
  refine W.widen hc hs (vx_ret ?_)
  exact W.lret C.1 C.2.1 (by rw [← hr]; exact C.2.2.2.2.2.2.1) (fun t ht hW => ⟨⟨_, ws, rfl, hp, by rw [ht]; exact hP, hD⟩, hS.F ht⟩) hS.2.2 d C.2.2.2.2.2.2.2.1
theorem z_vret (C : Cx κ cc nL Ts own ret rm0 G base) (hr : ret = none) (d : decode cc pc = .ok (.return_, 1)) (hp : post none ws) (hc : cells ≤ mc) (hs : slots ≤ ms) : Z κ nL G base mc ms post exc cells slots pc lv [] ws := by
  intro ls H locs h hP hD hS
  refine W.widen hc hs (vx_ret ?_)
  exact W.vret C.1 C.2.1 (by rw [← hr]; exact C.2.2.2.2.2.2.1) (fun t ht hW => ⟨⟨_, ws, rfl, hp, by rw [ht]; exact hP, hD⟩, hS.F ht⟩) hS.2.2 d C.2.2.2.2.2.2.2.1
theorem z_aret (C : Cx κ cc nL Ts own ret rm0 G base) {v : Option Nat} {rt : FieldType} (hr : ret = some rt) (hrt : (∃ n, rt = .object n) ∨ ∃ t, rt = .array t) (d : decode cc pc = .ok (.areturn, 1)) (hp : post (some (va_rf v)) ws) (hc : cells ≤ mc) (hs : slots ≤ ms) : Z κ nL G base mc ms post exc cells slots pc lv [va_rf v] ws := by
  intro ls H locs h hP hD hS
  refine W.widen hc hs (vx_ret ?_)
  exact W.aret (v := va_rf v) C.1 C.2.1 (by rw [← hr]; exact C.2.2.2.2.2.2.1) hrt (va_rf_or v) (fun t ht hW => ⟨⟨_, ws, rfl, hp, by rw [ht]; exact hP, hD⟩, hS.F ht⟩) hS.2.2 d C.2.2.2.2.2.2.2.1
end
end
section
theorem va_Duq {A : Nat → Prop} {ws : va_W} (hD : va_D A ws) {i j a : Nat} {e f : va_E} (hi : ws[i]? = some (a, e)) (hj : ws[j]? = some (a, f)) : i = j := hD.1 i j _ _ hi hj rfl
/-- a world with another thing at a's place -/
def wSet (ws : va_W) (a : Nat) (e : va_E) (ws' : va_W) : Prop := ∀ (A : Nat → Prop) (k : Nat) (e0 : va_E), va_D A ws → ws[k]? = some (a, e0) → ws.set k (a, e) = ws'
theorem wSet_at {ws ws' : va_W} {a : Nat} {e e0 : va_E} (k : Nat) (h : ws[k]? = some (a, e0)) (hr : ws.set k (a, e) = ws') : wSet ws a e ws' := fun A k2 e2 hD hk => by
  rw [va_Duq hD hk h]
  exact hr
def wNew (ws : va_W) (a : Nat) (e : va_E) (ws' : va_W) : Prop := (∀ q ∈ ws, q.1 ≠ a) → ws ++ [(a, e)] = ws'
theorem va_Dnew {A : Nat → Prop} {ws : va_W} {a : Nat} {e : va_E} (hD : va_D A (ws ++ [(a, e)])) : ∀ q ∈ ws, q.1 ≠ a := by
  intro q hq hqa
  obtain ⟨i, hi⟩ := List.getElem?_of_mem hq
  have hl : i < ws.length := (List.getElem?_eq_some_iff.mp hi).1
  have h1 : (ws ++ [(a, e)])[i]? = some q := by rw [List.getElem?_append_left hl]; exact hi
  have h2 : (ws ++ [(a, e)])[ws.length]? = some (a, e) := by rw [List.getElem?_append_right (Nat.le_refl _)]; simp
  have := hD.1 i ws.length q (a, e) h1 h2 hqa
  omega
theorem tysG_0 (G : GG) : (tysG G)[0]? = some (G.2.1, .int) := rfl
/-- an array's class by its name is one -/
theorem va_Kcls {D : va_G} {tys : List (ClassId × FieldType)} {U : State} {cA cB : ClassId} {ty : FieldType} (t0 : Nat) (h : va_K D vwCl tys U) (h0 : tys[t0]? = some (cA, ty)) {tys2 : List (ClassId × FieldType)} (h2 : va_K D vwCl tys2 U) (t1 : Nat) (h1 : tys2[t1]? = some (cB, ty)) : cB = cA := by
  have g0 := (h.2 t0 _ h0).2
  have g1 := (h2.2 t1 _ h1).2
  cases ty with
  | object C =>
    obtain ⟨_, _, _, _, _, e0⟩ := g0
    obtain ⟨_, _, _, _, _, e1⟩ := g1
    exact Option.some.inj (e1.symm.trans e0)
  | _ =>
    have e0 : U.vm.findClass _ = some cA := g0
    have e1 : U.vm.findClass _ = some cB := g1
    exact Option.some.inj (e1.symm.trans e0)
section
variable {κ : KxT} {cc : ByteArray} {nL : Nat} {Ts : List Cond} {own : String} {ret : Option FieldType} {rm0 : Room} {G : GG} {base mc ms : Nat} {post : Option Value → va_W → Prop} {exc : String → va_W → Prop} {cells slots pc pc' : Nat} {lv : List (Nat × Value)} {st : List Value} {ws ws' : va_W}
theorem Cx.hts (C : Cx κ cc nL Ts own ret rm0 G base) {w : Cond} (h : w ∈ Ts) : w.before (ka κ) (ks κ) = true := C.2.2.2.2.1 w h
theorem Cx.ev (C : Cx κ cc nL Ts own ret rm0 G base) : Ev G base (ks κ) (ks κ).heap := C.2.2.2.2.2.1
theorem Cx.K (C : Cx κ cc nL Ts own ret rm0 G base) : va_K G.1 vwCl (tysG G) (ks κ) := C.2.2.2.2.2.1.1
theorem Cx.ow (C : Cx κ cc nL Ts own ret rm0 G base) : (ks κ).vm.findClass own = some (km κ).cls := C.2.2.2.1
theorem Cx.bs (C : Cx κ cc nL Ts own ret rm0 G base) : base ≤ (ks κ).heap.size := C.2.2.2.2.2.2.2.2.1
theorem Cx.A (C : Cx κ cc nL Ts own ret rm0 G base) : ∀ q, (ks κ).heap.size ≤ q → Bd base q := fun _ h => Nat.le_trans C.bs h
theorem Cx.R (C : Cx κ cc nL Ts own ret rm0 G base) : kR κ = rm0 := C.2.2.2.2.2.2.2.2.2.2
theorem z_get (C : Cx κ cc nL Ts own ret rm0 G base) {Cn ref : String} {T : u_T} {N ci index a : Nat} {fs : List Value} {v : Value} (he : (a, .inr (ci, fs)) ∈ ws) (hc : vwCl[ci]? = some (Cn, T, N)) (hin : ∀ w ∈ u_ws Cn T N, w ∈ Ts) (k : Nat) (hk : k < N) (hlink : Cond.fieldLink own index ref (T k).2.1 (T k).2.2.1 ∈ Ts) (hr : (T k).1 = ref) (hv : fs[k]? = some v) (d : decode cc pc = .ok (.getfield index, 3)) (hn : pc + 3 = pc')
    (kk : Z κ nL G base mc ms post exc cells slots pc' lv (v :: st) ws) : Z κ nL G base mc ms post exc cells slots pc lv (.ref a :: st) ws := by
  subst hn
  obtain ⟨q0, hq⟩ := List.getElem?_of_mem he
  exact fun ls H locs h hP hD hS => va_get C.1 C.2.1 C.2.2.2.2.1 hin C.ow C.K hP q0 hq hc k hk (C.hts hlink) (fun x hx => by rw [← hr]; exact hx) hv d (kk ls H locs h hP hD hS)
theorem z_put (C : Cx κ cc nL Ts own ret rm0 G base) {Cn ref : String} {T : u_T} {N ci index a : Nat} {fs : List Value} {v : Value} {ty : FieldType} (ty0 : Nat → FieldType) (hty : ∀ k, k < N → parseFieldDescriptor (T k).2.2.1 = some (ty0 k)) (hnm : ∀ a, a < N → ∀ b, b < N → a ≠ b → (T a).2.1 ≠ (T b).2.1) (he : (a, .inr (ci, fs)) ∈ ws) (hc : vwCl[ci]? = some (Cn, T, N)) (hin : ∀ w ∈ u_ws Cn T N, w ∈ Ts) (k : Nat) (hk : k < N) (hlink : Cond.fieldLink own index ref (T k).2.1 (T k).2.2.1 ∈ Ts) (hr : (T k).1 = ref) (hfin : (T k).2.2.2 = false) (hd : ty0 k = ty) (hnr : narrow ty v = v) (hfit : fits ty v = true) (hl : k < fs.length) (d : decode cc pc = .ok (.putfield index, 3)) (hn : pc + 3 = pc') (hs : wSet ws a (.inr (ci, fs.set k v)) ws')
    (kk : Z κ nL G base mc ms post exc cells slots pc' lv st ws') : Z κ nL G base mc ms post exc cells slots pc lv (v :: .ref a :: st) ws := by
  subst hn
  obtain ⟨q0, hq⟩ := List.getElem?_of_mem he
  exact fun ls H locs h hP hD hS => va_put C.1 C.2.1 C.2.2.2.2.1 hin ty0 hty hnm C.ow C.K hP hD hS q0 hq hc k hk (C.hts hlink) (fun x hx => by rw [← hr]; exact hx) hfin (by rw [← hd]; exact hty k hk) hnr hfit hl d (fun H1 locs1 hP1 hD1 hS1 => kk ls H1 locs1 h (by rw [← hs _ q0 _ hD hq]; exact hP1) (by rw [← hs _ q0 _ hD hq]; exact hD1) hS1)
theorem z_putF (C : Cx κ cc nL Ts own ret rm0 G base) (hi : (kM κ).name = "<init>") {Cn : String} {T : u_T} {N ci index a : Nat} {fs : List Value} {v : Value} {ty : FieldType} (ty0 : Nat → FieldType) (hty : ∀ k, k < N → parseFieldDescriptor (T k).2.2.1 = some (ty0 k)) (hnm : ∀ a, a < N → ∀ b, b < N → a ≠ b → (T a).2.1 ≠ (T b).2.1) (he : (a, .inr (ci, fs)) ∈ ws) (hc : vwCl[ci]? = some (Cn, T, N)) (hin : ∀ w ∈ u_ws Cn T N, w ∈ Ts) (k : Nat) (hk : k < N) (hlink : Cond.fieldLink own index own (T k).2.1 (T k).2.2.1 ∈ Ts) (hr : (T k).1 = own) (hfin : (T k).2.2.2 = true) (hd : ty0 k = ty) (hnr : narrow ty v = v) (hfit : fits ty v = true) (hl : k < fs.length) (d : decode cc pc = .ok (.putfield index, 3)) (hn : pc + 3 = pc') (hs : wSet ws a (.inr (ci, fs.set k v)) ws')
    (kk : Z κ nL G base mc ms post exc cells slots pc' lv st ws') : Z κ nL G base mc ms post exc cells slots pc lv (v :: .ref a :: st) ws := by
  subst hn
  obtain ⟨q0, hq⟩ := List.getElem?_of_mem he
  exact fun ls H locs h hP hD hS => va_putF C.1 C.2.1 C.2.2.2.2.1 hin ty0 hty hnm C.ow C.K hP hD hS q0 hq hc k hk (C.hts hlink) (fun x hx => by rw [← hr]; exact hx) hfin hi hr (by rw [← hd]; exact hty k hk) hnr hfit hl d (fun H1 locs1 hP1 hD1 hS1 => kk ls H1 locs1 h (by rw [← hs _ q0 _ hD hq]; exact hP1) (by rw [← hs _ q0 _ hD hq]; exact hD1) hS1)
theorem z_iald (C : Cx κ cc nL Ts own ret rm0 G base) {a n : Nat} {f : Nat → Int32} {z : Int} {x : Int32} (he : (a, .inl (G.2.1, n, .inl f)) ∈ ws) (hz : 0 ≤ z ∧ z < n) (hb : z < 2147483648) (hv : f z.toNat = x) (d : decode cc pc = .ok (.iaload, 1)) (hn : pc + 1 = pc')
    (kk : Z κ nL G base mc ms post exc cells slots pc' lv (.int x :: st) ws) : Z κ nL G base mc ms post exc cells slots pc lv (.int (iI z) :: .ref a :: st) ws := by
  subst hn
  obtain ⟨q0, hq⟩ := List.getElem?_of_mem he
  exact fun ls H locs h hP hD hS => va_iald C.1 C.2.1 C.K hP q0 0 hq rfl (iI_in hz hb) d (by rw [iI_cl ⟨hz.1, hb⟩, hv]; exact kk ls H locs h hP hD hS)
theorem z_zald (C : Cx κ cc nL Ts own ret rm0 G base) {a n : Nat} {f : Nat → Int32} {z : Int} {x : Int32} (he : (a, .inl (G.2.2.1, n, .inl f)) ∈ ws) (hz : 0 ≤ z ∧ z < n) (hb : z < 2147483648) (hv : f z.toNat = x) (d : decode cc pc = .ok (.baload, 1)) (hn : pc + 1 = pc')
    (kk : Z κ nL G base mc ms post exc cells slots pc' lv (.int x :: st) ws) : Z κ nL G base mc ms post exc cells slots pc lv (.int (iI z) :: .ref a :: st) ws := by
  subst hn
  obtain ⟨q0, hq⟩ := List.getElem?_of_mem he
  exact fun ls H locs h hP hD hS => va_zald C.1 C.2.1 C.K hP q0 1 hq rfl (iI_in hz hb) d (by rw [iI_cl ⟨hz.1, hb⟩, hv]; exact kk ls H locs h hP hD hS)
theorem z_aald (C : Cx κ cc nL Ts own ret rm0 G base) {a n : Nat} {f : Nat → Option Nat} {z : Int} {r : Option Nat} (he : (a, .inl (G.2.2.2.1, n, .inr (.inr (.inr (.inr f))))) ∈ ws) (hz : 0 ≤ z ∧ z < n) (hb : z < 2147483648) (hv : f z.toNat = r) (d : decode cc pc = .ok (.aaload, 1)) (hn : pc + 1 = pc')
    (kk : Z κ nL G base mc ms post exc cells slots pc' lv (va_rf r :: st) ws) : Z κ nL G base mc ms post exc cells slots pc lv (.int (iI z) :: .ref a :: st) ws := by
  subst hn
  obtain ⟨q0, hq⟩ := List.getElem?_of_mem he
  exact fun ls H locs h hP hD hS => va_aldq C.1 C.2.1 C.K hP q0 2 hq rfl (iI_in hz hb) d (by rw [iI_cl ⟨hz.1, hb⟩, hv]; exact kk ls H locs h hP hD hS)
theorem z_lald (C : Cx κ cc nL Ts own ret rm0 G base) {a n : Nat} {f : Nat → Int64} {z : Int} {x : Int64} (he : (a, .inl (G.2.2.2.2.1, n, .inr (.inl f))) ∈ ws) (hz : 0 ≤ z ∧ z < n) (hb : z < 2147483648) (hv : f z.toNat = x) (d : decode cc pc = .ok (.laload, 1)) (hn : pc + 1 = pc')
    (kk : Z κ nL G base mc ms post exc cells slots pc' lv (.long x :: st) ws) : Z κ nL G base mc ms post exc cells slots pc lv (.int (iI z) :: .ref a :: st) ws := by
  subst hn
  obtain ⟨q0, hq⟩ := List.getElem?_of_mem he
  exact fun ls H locs h hP hD hS => va_lald C.1 C.2.1 C.K hP q0 3 hq rfl (iI_in hz hb) d (by rw [iI_cl ⟨hz.1, hb⟩, hv]; exact kk ls H locs h hP hD hS)
theorem z_iast (C : Cx κ cc nL Ts own ret rm0 G base) {a n : Nat} {f : Nat → Int32} {z : Int} {x : Int32} (he : (a, .inl (G.2.1, n, .inl f)) ∈ ws) (hz : 0 ≤ z ∧ z < n) (hb : z < 2147483648) (d : decode cc pc = .ok (.iastore, 1)) (hn : pc + 1 = pc') (hs : wSet ws a (.inl (G.2.1, n, .inl (upd f z.toNat x))) ws')
    (kk : Z κ nL G base mc ms post exc cells slots pc' lv st ws') : Z κ nL G base mc ms post exc cells slots pc lv (.int x :: .int (iI z) :: .ref a :: st) ws := by
  subst hn
  obtain ⟨q0, hq⟩ := List.getElem?_of_mem he
  exact fun ls H locs h hP hD hS => va_iast C.1 C.2.1 C.K hP hD hS q0 0 hq rfl (iI_in hz hb) d (fun H1 locs1 hP1 hD1 hS1 => by
    rw [iI_cl ⟨hz.1, hb⟩, hs _ q0 _ hD hq] at hP1 hD1
    exact kk ls H1 locs1 h hP1 hD1 hS1)
theorem z_zast (C : Cx κ cc nL Ts own ret rm0 G base) {a n : Nat} {f : Nat → Int32} {z b : Int} (he : (a, .inl (G.2.2.1, n, .inl f)) ∈ ws) (hz : 0 ≤ z ∧ z < n) (hb : z < 2147483648) (hbb : b = 0 ∨ b = 1) (d : decode cc pc = .ok (.bastore, 1)) (hn : pc + 1 = pc') (hs : wSet ws a (.inl (G.2.2.1, n, .inl (upd f z.toNat (iI b)))) ws')
    (kk : Z κ nL G base mc ms post exc cells slots pc' lv st ws') : Z κ nL G base mc ms post exc cells slots pc lv (.int (iI b) :: .int (iI z) :: .ref a :: st) ws := by
  subst hn
  obtain ⟨q0, hq⟩ := List.getElem?_of_mem he
  exact fun ls H locs h hP hD hS => va_zast C.1 C.2.1 C.K hP hD hS q0 1 hq rfl (iI_in hz hb) d (fun H1 locs1 hP1 hD1 hS1 => by
    rw [iI_cl ⟨hz.1, hb⟩, iI_nar hbb, hs _ q0 _ hD hq] at hP1 hD1
    exact kk ls H1 locs1 h hP1 hD1 hS1)
theorem z_last (C : Cx κ cc nL Ts own ret rm0 G base) {a n : Nat} {f : Nat → Int64} {z : Int} {x : Int64} (he : (a, .inl (G.2.2.2.2.1, n, .inr (.inl f))) ∈ ws) (hz : 0 ≤ z ∧ z < n) (hb : z < 2147483648) (d : decode cc pc = .ok (.lastore, 1)) (hn : pc + 1 = pc') (hs : wSet ws a (.inl (G.2.2.2.2.1, n, .inr (.inl (vp_updL f z.toNat x)))) ws')
    (kk : Z κ nL G base mc ms post exc cells slots pc' lv st ws') : Z κ nL G base mc ms post exc cells slots pc lv (.long x :: .int (iI z) :: .ref a :: st) ws := by
  subst hn
  obtain ⟨q0, hq⟩ := List.getElem?_of_mem he
  exact fun ls H locs h hP hD hS => va_last C.1 C.2.1 C.K hP hD hS q0 3 hq rfl (iI_in hz hb) d (fun H1 locs1 hP1 hD1 hS1 => by
    rw [iI_cl ⟨hz.1, hb⟩, hs _ q0 _ hD hq] at hP1 hD1
    exact kk ls H1 locs1 h hP1 hD1 hS1)
theorem z_aast (C : Cx κ cc nL Ts own ret rm0 G base) {a n v ci : Nat} {r : vw_C} {fs : List Value} {f : Nat → Option Nat} {z : Int} (he : (a, .inl (G.2.2.2.1, n, .inr (.inr (.inr (.inr f))))) ∈ ws) (hv : (v, .inr (ci, fs)) ∈ ws) (hc : vwCl[ci]? = some r) (hca : (r.1, "java/lang/Object") ∈ castL) (hz : 0 ≤ z ∧ z < n) (hb : z < 2147483648) (d : decode cc pc = .ok (.aastore, 1)) (hn : pc + 1 = pc') (hs : wSet ws a (.inl (G.2.2.2.1, n, .inr (.inr (.inr (.inr (va_up f z.toNat (some v))))))) ws')
    (kk : Z κ nL G base mc ms post exc cells slots pc' lv st ws') : Z κ nL G base mc ms post exc cells slots pc lv (.ref v :: .int (iI z) :: .ref a :: st) ws := by
  subst hn
  obtain ⟨q0, hq⟩ := List.getElem?_of_mem he
  obtain ⟨q1, hq1⟩ := List.getElem?_of_mem hv
  exact fun ls H locs h hP hD hS => va_astqO C.1 C.2.1 C.K hP hD hS q0 2 q1 ci hq rfl (C.ev.2.2.2.2.1 _ hca) hq1 hc (iI_in hz hb) d (fun H1 locs1 hP1 hD1 hS1 => by
    rw [iI_cl ⟨hz.1, hb⟩, hs _ q0 _ hD hq] at hP1 hD1
    exact kk ls H1 locs1 h hP1 hD1 hS1)
theorem z_alen (C : Cx κ cc nL Ts own ret rm0 G base) {a : Nat} {cA : ClassId} {x : vp_A} {ty : FieldType} (t0 : Nat) (he : (a, .inl (cA, x)) ∈ ws) (ht : (tysG G)[t0]? = some (cA, ty)) (d : decode cc pc = .ok (.arraylength, 1)) (hn : pc + 1 = pc')
    (kk : Z κ nL G base mc ms post exc cells slots pc' lv (.int (iI (x.1 : Int)) :: st) ws) : Z κ nL G base mc ms post exc cells slots pc lv (.ref a :: st) ws := by
  subst hn
  obtain ⟨q0, hq⟩ := List.getElem?_of_mem he
  exact fun ls H locs h hP hD hS => va_alen C.1 C.2.1 C.K hP q0 t0 hq ht rfl d (kk ls H locs h hP hD hS)
theorem z_new (C : Cx κ cc nL Ts own ret rm0 G base) {Cn : String} {T : u_T} {N ci index : Nat} {fs : List Value} (ty : Nat → FieldType) (hty : ∀ k, k < N → parseFieldDescriptor (T k).2.2.1 = some (ty k)) (hin : ∀ w ∈ u_ws Cn T N, w ∈ Ts) (hcl : Cond.classLink own index Cn ∈ Ts) (hi : Cond.instantiable Cn N ∈ Ts) (hini : Cond.initialized Cn ∈ Ts) (hc : vwCl[ci]? = some (Cn, T, N)) (hfs : ∀ j, j < N → defaultValue (ty j) = vp_V fs j) (h1 : cells + 1 ≤ rm0.cells) (h2 : slots + N ≤ rm0.slots) (d : decode cc pc = .ok (.new index, 3)) (hn : pc + 3 = pc')
    (kk : ∀ q : Nat, (∀ z ∈ ws, z.1 ≠ q) → Z κ nL G base mc ms post exc (cells + 1) (slots + N) pc' lv (.ref q :: st) (ws ++ [(q, .inr (ci, fs))])) : Z κ nL G base mc ms post exc cells slots pc lv st ws := by
  subst hn
  exact fun ls H locs h hP hD hS => va_new C.1 C.2.1 C.2.2.2.2.1 hin ty hty C.ow (C.hts hcl) (C.hts hi) (C.hts hini) C.K hP hD hS C.A hc hfs (by rw [C.R]; exact h1) (by rw [C.R]; exact h2) d (fun q H1 hP1 hD1 hS1 => kk q (va_Dnew hD1) ls H1 locs h hP1 hD1 hS1)
theorem z_newa (C : Cx κ cc nL Ts own ret rm0 G base) {atype : ArrayType} {ty : FieldType} {cA : ClassId} {z : Int} {N' : Nat} {a0 : vp_A} (t0 : Nat) (ht : (tysG G)[t0]? = some (cA, ty)) (harr : Cond.arrayClass (newarray.typeOf atype) ∈ Ts) (hty : newarray.typeOf atype = ty) (ha : ∀ cA : ClassId, vp_cell cA a0 = arrV cA N' (fun _ => defaultValue ty)) (hz : z = (N' : Int)) (hb : N' ≤ 1000000) (hcb : componentBytes ty ≤ 8) (h1 : cells + 1 ≤ rm0.cells) (h2 : slots + N' ≤ rm0.slots) (d : decode cc pc = .ok (.newarray atype, 2)) (hn : pc + 2 = pc')
    (kk : ∀ q : Nat, (∀ z ∈ ws, z.1 ≠ q) → Z κ nL G base mc ms post exc (cells + 1) (slots + N') pc' lv (.ref q :: st) (ws ++ [(q, .inl (cA, a0))])) : Z κ nL G base mc ms post exc cells slots pc lv (.int (iI z) :: st) ws := by
  subst hn
  subst hz
  have hb3 : N' * componentBytes ty ≤ 536870912 := Nat.le_trans (Nat.mul_le_mul hb hcb) (by decide)
  exact fun ls H locs h hP hD hS => va_newa C.1 C.2.1 (C.hts harr) hty C.K hP hD hS C.A ha (by rw [iI_lt0 (by omega)]; omega) (by rw [iI_cl (by omega)]; exact Int.toNat_natCast N') hb3 (by rw [C.R]; exact h1) (by rw [C.R]; exact h2) d (fun q cB H1 hK1 hP1 hD1 hS1 => by
    have e : cB = cA := va_Kcls t0 C.K ht hK1 4 (by show (_ ++ _)[4]? = _; rfl)
    subst e
    exact kk q (va_Dnew hD1) ls H1 locs h hP1 hD1 hS1)
theorem z_newq (C : Cx κ cc nL Ts own ret rm0 G base) {index : Nat} {z : Int} {N' : Nat} (hcl : Cond.classLink own index "java/lang/Object" ∈ Ts) (hz : z = (N' : Int)) (hb : N' ≤ 1000000) (h1 : cells + 1 ≤ rm0.cells) (h2 : slots + N' ≤ rm0.slots) (d : decode cc pc = .ok (.anewarray index, 3)) (hn : pc + 3 = pc')
    (kk : ∀ q : Nat, (∀ z ∈ ws, z.1 ≠ q) → Z κ nL G base mc ms post exc (cells + 1) (slots + N') pc' lv (.ref q :: st) (ws ++ [(q, .inl (G.2.2.2.1, N', .inr (.inr (.inr (.inr (fun _ => none))))))])) : Z κ nL G base mc ms post exc cells slots pc lv (.int (iI z) :: st) ws := by
  subst hn
  subst hz
  exact fun ls H locs h hP hD hS => va_newq C.1 C.2.1 C.ow (C.hts hcl) C.ev.2.2.2.2.2.2.2.2.1 C.K hP hD hS C.A (by rw [iI_lt0 (by omega)]; omega) ((iI_cl (by omega)).trans (Int.toNat_natCast N')) (by omega) (by rw [C.R]; exact h1) (by rw [C.R]; exact h2) d (fun q cB H1 hK1 hP1 hD1 hS1 => by
    have e : cB = G.2.2.2.1 := va_Kcls 2 C.K rfl hK1 4 (by show (_ ++ _)[4]? = _; rfl)
    subst e
    exact kk q (va_Dnew hD1) ls H1 locs h hP1 hD1 hS1)
theorem z_objInit (C : Cx κ cc nL Ts own ret rm0 G base) {idx a : Nat} (hl : Cond.methodLink own idx objectInit ∈ Ts) (hi : Cond.instanceMethod objectInit ∈ Ts) (hcd : Cond.code objectInit ⟨#[0xb1]⟩ 1 none ∈ Ts) (h1 : 1 ≤ rm0.frames) (h2 : (st.map fun v => v.category).sum + 12 ≤ rm0.locals) (d : decode cc pc = .ok (.invokespecial idx, 3)) (hn : pc + 3 = pc')
    (kk : Z κ nL G base mc ms post exc cells slots pc' lv st ws) : Z κ nL G base mc ms post exc cells slots pc lv (.ref a :: st) ws := by
  subst hn
  intro ls H locs h hP hD hS
  refine W.objInit C.1 C.2.1 C.ow (C.hts hl) (C.hts hi) (C.hts hcd) rfl (by rw [C.2.2.1]; exact h.1) rfl d (by rw [C.R]; exact h1) (by rw [C.R]; exact Nat.le_trans (by show 2 * 0 + _ + 12 ≤ _; omega) h2) ?_
  exact W.eq (g2 := F0 (km κ) (pc + 3) ls st) rfl (kk ls H locs h hP hD hS)
/-- a cast to the object's own class -/
theorem z_cast (C : Cx κ cc nL Ts own ret rm0 G base) {a ci index : Nat} {fs : List Value} {Cn : String} {T : u_T} {N : Nat} (he : (a, .inr (ci, fs)) ∈ ws) (hc : vwCl[ci]? = some (Cn, T, N)) (hlink : Cond.classLink own index Cn ∈ Ts) (d : decode cc pc = .ok (.checkcast index, 3)) (hn : pc + 3 = pc')
    (kk : Z κ nL G base mc ms post exc cells slots pc' lv (.ref a :: st) ws) : Z κ nL G base mc ms post exc cells slots pc lv (.ref a :: st) ws := by
  subst hn
  obtain ⟨q0, hq⟩ := List.getElem?_of_mem he
  exact fun ls H locs h hP hD hS => va_castS C.1 C.2.1 C.ow (C.hts hlink) ((C.K.1 ci _ hc).2) (va_recv C.K hP hc hq) d (kk ls H locs h hP hD hS)
theorem z_gets (C : Cx κ cc nL Ts own ret rm0 G base) {index : Nat} (hlink : Cond.fieldLink own index RJx4a65c "DEFAULTCAPACITY_EMPTY_ELEMENTDATA" "[Ljava/lang/Object;" ∈ Ts) (d : decode cc pc = .ok (.getstatic index, 3)) (hn : pc + 3 = pc')
    (kk : Z κ nL G base mc ms post exc cells slots pc' lv (.ref (gde G) :: st) ws) : Z κ nL G base mc ms post exc cells slots pc lv st ws := by
  subst hn
  exact fun ls H locs h hP hD hS => va_gets C.1 C.2.1 C.ev.2.2.2.2.2.2.2.2.2.1 hS C.ow (C.hts hlink) (fun x hx => hx) d (kk ls H locs h hP hD hS)
theorem z_delen (C : Cx κ cc nL Ts own ret rm0 G base) (d : decode cc pc = .ok (.arraylength, 1)) (hn : pc + 1 = pc')
    (kk : Z κ nL G base mc ms post exc cells slots pc' lv (.int (iI 0) :: st) ws) : Z κ nL G base mc ms post exc cells slots pc lv (.ref (gde G) :: st) ws := by
  subst hn
  exact fun ls H locs h hP hD hS => va_tlen C.1 C.2.1 C.ev.2.2.2.2.2.2.2.2.2.2 hS rfl d (kk ls H locs h hP hD hS)
theorem z_mmax (C : Cx κ cc nL Ts own ret rm0 G base) {index : Nat} {x y : Int32} (hl : Cond.methodLink own index Lib.Math.max.name ∈ Ts) (hst : Cond.static Lib.Math.max.name ∈ Ts) (hi : Cond.initialized "java/lang/Math" ∈ Ts) (hcd : Cond.code Lib.Math.max.name Lib.Math.max.code 2 (some .int) ∈ Ts) (h1 : 1 ≤ rm0.frames) (h2 : (st.map fun v => v.category).sum + 13 ≤ rm0.locals) (h3 : cells ≤ rm0.cells) (h4 : slots ≤ rm0.slots) (d : decode cc pc = .ok (.invokestatic index, 3)) (hn : pc + 3 = pc')
    (kk : Z κ nL G base mc ms post exc cells slots pc' lv (.int (if x < y then y else x) :: st) ws) : Z κ nL G base mc ms post exc cells slots pc lv (.int y :: .int x :: st) ws := by
  subst hn
  exact fun ls H locs h hP hD hS => va_mmax C.1 C.2.1 (C.2.2.1.trans h.1.symm) C.ow (C.hts hl) (C.hts hst) (C.hts hi) (C.hts hcd) (by rw [C.R]; exact h1) (by rw [C.R]; exact h2) (by rw [C.R]; exact h3) (by rw [C.R]; exact h4) d (kk ls H locs h hP hD hS)
theorem z_mmin (C : Cx κ cc nL Ts own ret rm0 G base) {index : Nat} {x y : Int32} (hl : Cond.methodLink own index Lib.Math.min.name ∈ Ts) (hst : Cond.static Lib.Math.min.name ∈ Ts) (hi : Cond.initialized "java/lang/Math" ∈ Ts) (hcd : Cond.code Lib.Math.min.name Lib.Math.min.code 2 (some .int) ∈ Ts) (h1 : 1 ≤ rm0.frames) (h2 : (st.map fun v => v.category).sum + 13 ≤ rm0.locals) (h3 : cells ≤ rm0.cells) (h4 : slots ≤ rm0.slots) (d : decode cc pc = .ok (.invokestatic index, 3)) (hn : pc + 3 = pc')
    (kk : Z κ nL G base mc ms post exc cells slots pc' lv (.int (if y < x then y else x) :: st) ws) : Z κ nL G base mc ms post exc cells slots pc lv (.int y :: .int x :: st) ws := by
  subst hn
  exact fun ls H locs h hP hD hS => va_mmin C.1 C.2.1 (C.2.2.1.trans h.1.symm) C.ow (C.hts hl) (C.hts hst) (C.hts hi) (C.hts hcd) (by rw [C.R]; exact h1) (by rw [C.R]; exact h2) (by rw [C.R]; exact h3) (by rw [C.R]; exact h4) d (kk ls H locs h hP hD hS)
theorem z_copyi (C : Cx κ cc nL Ts own ret rm0 G base) {index a a0 n0 n1 : Nat} {f g : Nat → Int32} {z : Int} (hl : Cond.methodLink own index arraycopyName ∈ Ts) (hnt : Cond.native arraycopyName ∈ Ts) (hst : Cond.static arraycopyName ∈ Ts) (hi : Cond.initialized "java/lang/System" ∈ Ts) (he0 : (a0, .inl (G.2.1, n0, .inl f)) ∈ ws) (he1 : (a, .inl (G.2.1, n1, .inl g)) ∈ ws) (hz : 0 ≤ z ∧ z ≤ n0 ∧ z ≤ n1) (hb : z < 2147483648) (h1 : 1 ≤ rm0.frames) (h2 : (st.map fun v => v.category).sum + (nativeFrameWords "java/lang/System" "arraycopy" 5 + 11) ≤ rm0.locals) (d : decode cc pc = .ok (.invokestatic index, 3)) (hn : pc + 3 = pc') (hs : wSet ws a (.inl (G.2.1, n1, .inl (va_cpy f g 0 0 z.toNat))) ws')
    (kk : Z κ nL G base mc ms post exc cells slots pc' lv st ws') : Z κ nL G base mc ms post exc cells slots pc lv (.int (iI z) :: .int (iI 0) :: .ref a :: .int (iI 0) :: .ref a0 :: st) ws := by
  subst hn
  obtain ⟨q0, hq0⟩ := List.getElem?_of_mem he0
  obtain ⟨q1, hq1⟩ := List.getElem?_of_mem he1
  have e0 : (iI 0).toNatClampNeg = 0 := by decide
  have ez : (iI z).toNatClampNeg = z.toNat := iI_cl ⟨hz.1, hb⟩
  exact fun ls H locs h hP hD hS => va_copyi C.1 C.2.1 (C.2.2.1.trans h.1.symm) C.ow (C.hts hl) (C.hts hnt) (C.hts hst) (C.hts hi) C.K hP hD hS q0 q1 0 0 hq0 hq1 rfl rfl rfl (by decide) (by decide) (by rw [iI_lt0 (by omega)]; omega) (by rw [e0, ez]; omega) (by rw [e0, ez]; omega) (fun _ _ => rfl) (by rw [C.R]; exact h1) (by rw [C.R]; exact h2) d (fun H1 locs1 hP1 hD1 hS1 => by
    rw [e0, ez, hs _ q1 _ hD hq1] at hP1 hD1
    exact kk ls H1 locs1 h hP1 hD1 hS1)
end
end
section
section VXIA
variable {p : Program} {l : Launch} {e : Env} {R : Room} {s : State} {m : MethodId} {args : Array Value} {below : List Frame} {meth : Method} {c : Code} {T : State} {locs : List Loc} {cells slots : Nat}
theorem vx_callI (X : Stand p l e R s m args below meth c T locs cells slots) (hexec : p.tables.exec = Jvm.exec) {own : String} {index : Nat} {y : MethodName} {bytes : ByteArray} {maxL : Nat}
    (hown : s.vm.findClass own = some m.cls) (hy1 : y.name = "<init>") (hlink : (Cond.methodLink own index y).before args s = true) (hinst : (Cond.instanceMethod y).before args s = true)
    (hcode : (Cond.code y bytes maxL none).before args s = true) (hy : y.cls ≠ "java/lang/invoke/MethodHandle" ∧ y.cls ≠ "java/lang/invoke/VarHandle")
    {W9 : Nat} {Pre : Pt → Array Value → Prop} {Post : Pt → Array Value → Option Value → Pt → Prop} {PostX : Pt → Array Value → Addr → Pt → Prop} (hK : vx_Back l R p e below s args y 3 W9 Pre Post PostX)
    {g : JFrame} (hg : g.method = m) (hsize : g.locals.size = c.maxLocals) {a : Addr} {argsL rest : List Value} (hlen : ∀ sig, parseMethodDescriptor y.desc = some sig → argsL.length = sig.parameters.length)
    (hstack : g.stack = argsL.reverse ++ .ref a :: rest) (hW : 2 * g.monitorRoom + (rest.map fun v => v.category).sum ≤ W9) (hdg : decode c.code g.pc = .ok (.invokespecial index, 3))
    (hpre : ∀ vm₁, s.WarmedH vm₁ → Pre ⟨T.setVm vm₁, locs, cells, slots⟩ (Value.ref a :: argsL).toArray) :
    (∃ (v : Option Value) (vm₁ : Vm) (B : Pt), s.WarmedH vm₁ ∧ Stand p l e R s m args below meth c B.U B.locs B.cells B.slots ∧ Post ⟨T.setVm vm₁, locs, cells, slots⟩ (Value.ref a :: argsL).toArray v B ∧
      ∀ target, Steps p.tables e below (B.U.setTop { g with pc := g.pc + 3, stack := v.toList ++ rest }) target → Steps p.tables e below (T.setTop g) target) ∨
    (∃ (q : Addr) (vm₁ : Vm) (B : Pt), s.WarmedH vm₁ ∧ Stand p l e R s m args below meth c B.U B.locs B.cells B.slots ∧ PostX ⟨T.setVm vm₁, locs, cells, slots⟩ (Value.ref a :: argsL).toArray q B ∧
      Steps p.tables e below (T.setTop g) ((B.U.setTop { g with stack := rest }).pushFrame (.throwing q))) := by
  subst hg
  have hpl : e.platform.magicAccessors = ({} : Platform).magicAccessors := by rw [X.admits.platform]
  obtain ⟨mk, methM, cM, kP, vm₁, hnamed, hmethM, hcodeM, -, hlocalsM, -, hkP, -, hW₁, hstep₁⟩ := Steps.initColdArgs (e := e) X.here hexec X.warmed hpl hown hy1 hy hlink hinst hcode (f := g) rfl hlen hstack hdg
  have X₁ := X.noted hW₁
  rcases hK g.method meth c ⟨T.setVm vm₁, locs, cells, slots⟩ { g with stack := rest } (.invokespecial index) mk (Value.ref a :: argsL).toArray X₁ rfl hsize hdg hW (X₁.named hnamed) (hpre vm₁ X₁.warmed) with ⟨v, B, X', hpost, hsteps⟩ | ⟨q, B, X', hpost, hsteps⟩
  · exact Or.inl ⟨v, vm₁, B, X₁.warmed, X', hpost, fun target h => hstep₁ _ fun acts => by rw [doInvoke_state]; exact hsteps.trans h⟩
  · exact Or.inr ⟨q, vm₁, B, X₁.warmed, X', hpost, hstep₁ _ fun acts => by rw [doInvoke_state]; exact hsteps⟩
end VXIA
section VXIB
variable {p : Program} {l : Launch} {e : Env} {R : Room} {s : State} {m : MethodId} {args : Array Value} {below : List Frame} {meth : Method} {c : Code} {H : Heap} {locs : List Loc} {cells slots : Nat}
variable {y : MethodName} {bytes cc : ByteArray} {maxL nL mc ms n index : Nat} {ret : Option FieldType} {ws : List Cond} {rm : Room} {Pc : Array Value → State → Prop} {Qc : Array Value → State → Outcome → State → Prop} {XC : String → State → State → Prop} {free : Addr → Prop} {Ts : List Cond} {own C : String} {b : Addr} {As rest : List Value} {g : JFrame}
theorem vx_runI (S : CallFix p m c cc nL s args Ts own) (hM : vx_Met l y ws rm Pc Qc XC mc ms free) (cw : CallB R s args own index y bytes maxL none ws rm mc ms n ∧ y.name = "<init>" ∧ (Cond.instanceMethod y).before args s = true) (hp : PreS s H Pc (.ref b :: As))
    (hg : g.method = m) (hn : As.length = n) (hsize : g.locals.size = nL) (hstack : g.stack = As.reverse ++ .ref b :: rest) (hW : 2 * g.monitorRoom + (rest.map fun v => v.category).sum ≤ 8) (hdg : decode cc g.pc = .ok (.invokespecial index, 3)) (hf : cells + mc ≤ R.cells ∧ slots + ms ≤ R.slots) :
    vx_Run p l e R s m args below meth c H locs cells slots mc ms g rest (Qc (Value.ref b :: As).toArray) XC free := by
  have hK : vx_Back l R p e below s args y 3 8 (PreOf R mc ms Pc) (PostOf Qc mc ms free) (vx_Post XC mc ms free) := vx_callBack cw.1 hM hp.1
  obtain ⟨⟨-, -, -, -, -, -, hcode, -, hy, hlen, hl⟩, hy1, hin⟩ := cw
  obtain ⟨hx, hb, hml, ho, -⟩ := S
  have hPc := hp.2
  intro T hT X
  rcases vx_callI X hx (bytes := bytes) (maxL := maxL) ho hy1 hl hin hcode hy hK hg (hsize.trans hml.symm) (a := b) (argsL := As) (rest := rest) (fun sig h => hn.trans (hlen sig h)) hstack hW (by rw [hb]; exact hdg)
    (fun vm₁ hW₁ => ⟨hf.1, hf.2, hPc (T.setVm vm₁) hT hW₁⟩) with ⟨v, vm₁, ⟨U', l2, c2, s2⟩, hW₁, X', ⟨g', mk, t, L, e1, e2, hq, h1, hL, h2, h3⟩, st⟩ | ⟨q, vm₁, ⟨U', l2, c2, s2⟩, hW₁, X', ⟨g', mk, t, L, E, ce, e1, e2, hq, hce, hcv, hcl, h1, hL, h2, h3⟩, st⟩
  · dsimp only [Pt.U, Pt.locs, Pt.cells, Pt.slots] at X' e1 e2 h1 h2 h3 st
    subst h1; subst h2; subst h3
    exact Or.inl ⟨v, (T.setVm vm₁).calling g' mk (Value.ref b :: As).toArray, t, U', L, hT, X', hL, e1, e2, hq, st⟩
  · dsimp only [Pt.U, Pt.locs, Pt.cells, Pt.slots] at X' e1 e2 h1 h2 h3 st hcl
    subst h1; subst h2; subst h3
    exact Or.inr ⟨q, (T.setVm vm₁).calling g' mk (Value.ref b :: As).toArray, t, U', L, E, ce, hT, X', hL, e1, e2, hq, hce, hcv, vx_cls hW₁ hcl, st⟩
end VXIB
/-- a throw under way: an exception of class E over the method's frame -/
def ZX (κ : KxT) (nL : Nat) (G : GG) (base mc ms : Nat) (post : Option Value → va_W → Prop) (exc : String → va_W → Prop) (cells slots pc : Nat) (lv : List (Nat × Value)) (st : List Value) (ws : va_W) (E : String) : Prop :=
  ∀ (ls : Array Slot) (H : Heap) (locs : List Loc) (q : Addr) (ce : Cell), lv_has ls nL lv → va_P G.1 vwCl ws H → va_D (Bd base) ws → va_S (Bd base) (ks κ).heap H locs → H[q]? = some ce → ce.vm = .none → (ks κ).vm.findClass E = some ce.cls →
    vx_W (kp κ) (kl κ) (ke κ) (kR κ) (ks κ) (km κ) (ka κ) (kb κ) (kM κ) (kc κ) H locs cells slots (vx_MQ (kb κ) (QR G base post) (QX G base exc) (ka κ) (ks κ) mc ms (Bd base)) (F0 (km κ) pc ls st) q
/-- words of a throw of X by the class ModelCopies, beside the good ones -/
def nbWs : List Cond := [.castable "java/lang/IllegalArgumentException" "java/lang/IllegalArgumentException", .castable "java/lang/IllegalStateException" "java/lang/IllegalStateException", .castable "java/lang/IndexOutOfBoundsException" "java/lang/IndexOutOfBoundsException", .declares (Bundle.initS "java/lang/RuntimeException"), .declares (Bundle.initS "java/lang/Exception"), .declares (Bundle.initS Bundle.tN), .laysStatic Bundle.tN "UNASSIGNED_STACK" Bundle.steD, .laysStatic Bundle.tN "SUPPRESSED_SENTINEL" Bundle.listD]
section
variable {κ : KxT} {cc : ByteArray} {nL : Nat} {Ts : List Cond} {own : String} {ret : Option FieldType} {rm0 : Room} {G : GG} {base mc ms : Nat} {post : Option Value → va_W → Prop} {exc : String → va_W → Prop} {cells slots pc pc' : Nat} {lv : List (Nat × Value)} {st : List Value} {ws ws' : va_W}
theorem Cx.nb (C : Cx κ cc nL Ts own ret rm0 G base) : ∀ w ∈ nbWs, w.before (ka κ) (ks κ) = true := by
  obtain ⟨h1, h2, h3, h4, h5, h6, h7⟩ := C.ev
  have hc : ∀ q ∈ castL, (Cond.castable q.1 q.2).before (ka κ) (ks κ) = true := fun q hq => va_Nw.use rfl (h5 q hq)
  have hd : ∀ x ∈ declL, (Cond.declares x).before (ka κ) (ks κ) = true := fun x hx => va_Nw.use rfl (h6 x hx)
  refine vx_c (hc (_, _) (List.mem_of_getElem? (i := 4) rfl)) (vx_c (hc (_, _) (List.mem_of_getElem? (i := 5) rfl)) (vx_c (hc (_, _) (List.mem_of_getElem? (i := 6) rfl)) (vx_c (hd _ (List.mem_of_getElem? (i := 0) rfl)) (vx_c (hd _ (List.mem_of_getElem? (i := 1) rfl)) (vx_c (hd _ (List.mem_of_getElem? (i := 2) rfl)) (vx_c h2.2.word (vx_c h3.2.word vx_n)))))))
theorem z_out (C : Cx κ cc nL Ts own ret rm0 G base) (hT : NoTb κ) {E : String} (hx : exc E ws) (hc : cells ≤ mc) (hs : slots ≤ ms) : ZX κ nL G base mc ms post exc cells slots pc lv st ws E := by
  intro ls H locs q ce h hP hD hS hq hv hcl
  exact vx_out (fun x hx => (hT x hx).elim) C.2.2.2.2.2.2.2.1 hq hv hcl (fun t ht hvm => ⟨⟨ws, hx, by rw [ht]; exact hP, hD⟩, hS.F ht⟩) hS.2.2 hc hs
/-- behind a call -/
theorem z_run {mc' ms' : Nat} {postC : Option Value → va_W → Prop} {excC : String → va_W → Prop} {st0 : List Value} {a : Array Value}
    (hr : ∀ (ls : Array Slot) (H : Heap) (locs : List Loc), lv_has ls nL lv → va_P G.1 vwCl ws H → va_D (Bd base) ws → va_S (Bd base) (ks κ).heap H locs → vx_Run (kp κ) (kl κ) (ke κ) (kR κ) (ks κ) (km κ) (ka κ) (kb κ) (kM κ) (kc κ) H locs cells slots mc' ms' (F0 (km κ) pc ls st0) st (QR G base postC a) (QX G base excC) (Bd base))
    (kx : ∀ E w, excC E w → ZX κ nL G base mc ms post exc (cells + mc') (slots + ms') pc lv st w E)
    (kk : ∀ v w, postC v w → Z κ nL G base mc ms post exc (cells + mc') (slots + ms') (pc + 3) lv (v.toList ++ st) w) : Z κ nL G base mc ms post exc cells slots pc lv st0 ws := by
  intro ls H locs h hP hD hS T hT X
  rcases hr ls H locs h hP hD hS T hT X with ⟨v, st₀, t, T', L, h0, X', hL, e1, e2, ⟨⟨v', w, hv, hp, hP1, hD1⟩, hF⟩, st⟩ | ⟨q, st₀, t, T', L, E, ce, h0, X', hL, e1, e2, ⟨⟨w, hp, hP1, hD1⟩, hF⟩, hce, hcv, hcl, st⟩
  · cases hv
    obtain ⟨-, -, k3⟩ := vx_keep h0 e1 hS (fun _ _ h => h) (fun _ h => h) hL hF
    obtain ⟨t2, a1, b1⟩ := kk v w hp ls T'.heap (locs ++ L) h (by rw [e1]; exact hP1) hD1 k3 T' rfl X'
    exact ⟨t2, st t2 a1, b1⟩
  · obtain ⟨-, -, k3⟩ := vx_keep h0 e1 hS (fun _ _ h => h) (fun _ h => h) hL hF
    obtain ⟨t2, a1, b1⟩ := kx E w hp ls T'.heap (locs ++ L) q ce h (by rw [e1]; exact hP1) hD1 k3 (by rw [e1]; exact hce) hcv hcl T' rfl X'
    exact ⟨t2, st.trans a1, b1⟩
theorem Cx.pre (C : Cx κ cc nL Ts own ret rm0 G base) {H : Heap} {locs : List Loc} (hP : va_P G.1 vwCl ws H) (hD : va_D (Bd base) ws) (hS : va_S (Bd base) (ks κ).heap H locs) {U : State} (hU : U.heap = H) (hW : (ks κ).WarmedH U.vm) : Pre G base ws U :=
  ⟨by rw [hU]; exact Nat.le_trans C.bs hS.1, by rw [hU]; exact hP, hD, C.ev.to hW hU hS⟩
theorem z_callV (C : Cx κ cc nL Ts own ret rm0 G base) {Cn : String} {T : u_T} {N ci index maxL n b : Nat} {fs : List Value} {y : MethodName} {bytes : ByteArray} {rY : Option FieldType} {wy wy' : List Cond} {rm : Room} {As : List Value} {postC : Option Value → va_W → Prop} {excC : String → va_W → Prop} (cells' slots' : Nat)
    (hM : MC (kl κ) y wy rm G base (.ref b :: As) ws postC excC) (hT : GoodIn Ts (wsV own index Cn y wy)) (hw : wy = Cond.code y bytes maxL rY :: wy') (hd : y.cls = Cn ∧ y.cls ≠ "java/lang/invoke/MethodHandle" ∧ y.cls ≠ "java/lang/invoke/VarHandle" ∧ (parseMethodDescriptor y.desc).map (fun d => d.parameters.length) = some n) (hR : rm.frames + 1 ≤ rm0.frames ∧ 8 + (maxL + 11) + rm.locals ≤ rm0.locals)
    (he : (b, .inr (ci, fs)) ∈ ws) (hc : vwCl[ci]? = some (Cn, T, N)) (hn : As.length = n) (hst : (st.map fun v => v.category).sum ≤ 8) (d : decode cc pc = .ok (.invokevirtual index, 3)) (hp : pc + 3 = pc') (h1 : cells + rm.cells = cells') (h2 : slots + rm.slots = slots') (h3 : cells' ≤ rm0.cells ∧ slots' ≤ rm0.slots)
    (kx : ∀ E w, excC E w → ZX κ nL G base mc ms post exc cells' slots' pc lv st w E)
    (kk : ∀ v w, postC v w → Z κ nL G base mc ms post exc cells' slots' pc' lv (v.toList ++ st) w) {st0 : List Value} (hs0 : st0 = As.reverse ++ .ref b :: st) : Z κ nL G base mc ms post exc cells slots pc lv st0 ws := by
  subst hp h1 h2 hs0
  obtain ⟨q0, hq⟩ := List.getElem?_of_mem he
  refine z_run (a := (Value.ref b :: As).toArray) (fun ls H locs h hP hD hS => ?_) kx kk
  exact vx_runV ⟨C.1, C.2.1, C.2.2.1, C.ow, C.2.2.2.2.1⟩ (hM C.2.2.2.2.2.2.2.2.2.1) (cwV n C.2.2.2.2.1 hT hw rfl rfl hd (by rw [C.R]; exact hR)) ⟨Pre.blind, va_recv C.K hP hc hq, fun U hU hW => ⟨rfl, C.pre hP hD hS hU hW⟩⟩ rfl hn h.1 rfl (lv_room hst) d (by rw [C.R]; exact h3)
theorem z_callS (C : Cx κ cc nL Ts own ret rm0 G base) {index maxL n : Nat} {y : MethodName} {bytes : ByteArray} {rY : Option FieldType} {wy wy' : List Cond} {rm : Room} {As : List Value} {postC : Option Value → va_W → Prop} {excC : String → va_W → Prop} (cells' slots' : Nat)
    (hM : MC (kl κ) y wy rm G base As ws postC excC) (hT : GoodIn Ts (va_wsS own index y wy)) (hw : wy = Cond.code y bytes maxL rY :: wy') (hd : y.cls ≠ "java/lang/invoke/MethodHandle" ∧ y.cls ≠ "java/lang/invoke/VarHandle" ∧ (parseMethodDescriptor y.desc).map (fun d => d.parameters.length) = some n) (hR : rm.frames + 1 ≤ rm0.frames ∧ 8 + (maxL + 11) + rm.locals ≤ rm0.locals)
    (hn : As.length = n) (hst : (st.map fun v => v.category).sum ≤ 8) (d : decode cc pc = .ok (.invokestatic index, 3)) (hp : pc + 3 = pc') (h1 : cells + rm.cells = cells') (h2 : slots + rm.slots = slots') (h3 : cells' ≤ rm0.cells ∧ slots' ≤ rm0.slots)
    (kx : ∀ E w, excC E w → ZX κ nL G base mc ms post exc cells' slots' pc lv st w E)
    (kk : ∀ v w, postC v w → Z κ nL G base mc ms post exc cells' slots' pc' lv (v.toList ++ st) w) {st0 : List Value} (hs0 : st0 = As.reverse ++ st) : Z κ nL G base mc ms post exc cells slots pc lv st0 ws := by
  subst hp h1 h2 hs0
  refine z_run (a := As.toArray) (fun ls H locs h hP hD hS => ?_) kx kk
  exact vx_runS ⟨C.1, C.2.1, C.2.2.1, C.ow, C.2.2.2.2.1⟩ (hM C.2.2.2.2.2.2.2.2.2.1) (va_cwS n C.2.2.2.2.1 hT hw rfl rfl hd (by rw [C.R]; exact hR)) ⟨Pre.blind, fun U hU hW => ⟨rfl, C.pre hP hD hS hU hW⟩⟩ rfl hn h.1 rfl (lv_room hst) d (by rw [C.R]; exact h3)
theorem z_callI (C : Cx κ cc nL Ts own ret rm0 G base) {index maxL n b : Nat} {y : MethodName} {bytes : ByteArray} {wy wy' : List Cond} {rm : Room} {As : List Value} {postC : Option Value → va_W → Prop} {excC : String → va_W → Prop} (cells' slots' : Nat)
    (hM : MC (kl κ) y wy rm G base (.ref b :: As) ws postC excC) (hG : GoodIn Ts wy) (hw : wy = Cond.code y bytes maxL none :: wy') (hini : Cond.initialized y.cls ∈ Ts) (hl : Cond.methodLink own index y ∈ Ts) (hin : Cond.instanceMethod y ∈ Ts) (hy1 : y.name = "<init>") (hd : y.cls ≠ "java/lang/invoke/MethodHandle" ∧ y.cls ≠ "java/lang/invoke/VarHandle" ∧ (parseMethodDescriptor y.desc).map (fun d => d.parameters.length) = some n) (hR : rm.frames + 1 ≤ rm0.frames ∧ 8 + (maxL + 11) + rm.locals ≤ rm0.locals)
    (hn : As.length = n) (hst : (st.map fun v => v.category).sum ≤ 8) (d : decode cc pc = .ok (.invokespecial index, 3)) (hp : pc + 3 = pc') (h1 : cells + rm.cells = cells') (h2 : slots + rm.slots = slots') (h3 : cells' ≤ rm0.cells ∧ slots' ≤ rm0.slots)
    (kx : ∀ E w, excC E w → ZX κ nL G base mc ms post exc cells' slots' pc lv st w E)
    (kk : ∀ v w, postC v w → Z κ nL G base mc ms post exc cells' slots' pc' lv (v.toList ++ st) w) {st0 : List Value} (hs0 : st0 = As.reverse ++ .ref b :: st) : Z κ nL G base mc ms post exc cells slots pc lv st0 ws := by
  subst hp h1 h2 hs0
  refine z_run (a := (Value.ref b :: As).toArray) (fun ls H locs h hP hD hS => ?_) kx kk
  exact vx_runI ⟨C.1, C.2.1, C.2.2.1, C.ow, C.2.2.2.2.1⟩ (hM C.2.2.2.2.2.2.2.2.2.1) (cwI n C.2.2.2.2.1 hG hw rfl rfl (C.hts hini) (C.hts hl) (C.hts hin) hy1 hd (by rw [C.R]; exact hR)) ⟨Pre.blind, fun U hU hW => ⟨rfl, C.pre hP hD hS hU hW⟩⟩ rfl hn h.1 rfl (lv_room hst) d (by rw [C.R]; exact h3)
/-- throw new X("text") in the class ModelCopies -/
theorem z_throw (C : Cx κ cc nL Ts RX5 ret rm0 G base) (hT : NoTb κ) {cls text : String} {ik is ic : Nat} (hcls : Bundle.fit cls = true) (hk : Cond.classLink RX5 ik cls ∈ Ts) (hini : Cond.initialized cls ∈ Ts) (hstr : (is, text) ∈ strL)
    (hg1 : ∀ w ∈ (vx_atS RX5 ic cls ["java/lang/RuntimeException", "java/lang/Exception"]).filter goodWord, w ∈ Ts) (hg2 : ∀ w ∈ (vx_atS RX5 ic cls ["java/lang/RuntimeException", "java/lang/Exception"]).filter (fun w => !goodWord w), w ∈ nbWs) (hgood : ∀ w ∈ Cond.classLink RX5 ik cls :: Cond.initialized cls :: vx_atS RX5 ic cls ["java/lang/RuntimeException", "java/lang/Exception"], vx_ot w = true)
    (d0 : decode cc pc = .ok (.new ik, 3)) (d3 : decode cc (pc + 3) = .ok (.dup, 1)) (d4 : decode cc (pc + 4) = .ok (.ldc is, 2)) (d6 : decode cc (pc + 6) = .ok (.invokespecial ic, 3)) (d9 : decode cc (pc + 9) = .ok (.athrow, 1))
    (h1 : 5 < rm0.frames) (h2 : (st.map fun v => v.category).sum + 82 ≤ rm0.locals) (h3 : cells + 1 ≤ rm0.cells) (h4 : slots + 6 ≤ rm0.slots) (hc : cells + 1 ≤ mc) (hs : slots + 6 ≤ ms) (hx : exc cls ws) : Z κ nL G base mc ms post exc cells slots pc lv st ws := by
  obtain ⟨sa, hsa⟩ := C.ev.2.2.2.1 _ hstr
  intro ls H locs h hP hD hS
  refine vx_throwS C.1 C.2.1 C.2.2.2.2.2.2.2.2.2.1 C.ow hcls (by decide) (C.hts hk) (C.hts hini) hsa (vx_hat (fun w hw => C.hts (hg1 w hw)) hg2 C.nb) hgood C.ev.2.1 C.ev.2.2.1 hS (h.1.trans C.2.2.1.symm) d0 d3 d4 d6 d9 (fun x hx => (hT x hx).elim) (by rw [C.R]; exact h1) (by rw [C.R]; exact h2) (by rw [C.R]; exact h3) (by rw [C.R]; exact h4) C.2.2.2.2.2.2.2.1 (fun t hvm hsz hk => ?_) hS.2.2 hc hs
  exact ⟨⟨ws, hx, hP.kept (fun k q hq => hk q.1 (hP k q hq).lt), hD⟩, ⟨Nat.le_trans hS.1 hsz, fun q h1 h2 => by rw [hk q (Nat.lt_of_lt_of_le h1 hS.1)]; exact hS.2.1 q h1 h2⟩⟩
theorem z_throwW (C : Cx κ cc nL Ts RX5 ret rm0 G base) (hT : NoTb κ) {cls text : String} {ik is ic : Nat} (hcls : Bundle.fit cls = true) (hk : Cond.classLink RX5 ik cls ∈ Ts) (hini : Cond.initialized cls ∈ Ts) (hstr : (is, text) ∈ strL)
    (hg1 : ∀ w ∈ (vx_atS RX5 ic cls ["java/lang/RuntimeException", "java/lang/Exception"]).filter goodWord, w ∈ Ts) (hg2 : ∀ w ∈ (vx_atS RX5 ic cls ["java/lang/RuntimeException", "java/lang/Exception"]).filter (fun w => !goodWord w), w ∈ nbWs) (hgood : ∀ w ∈ Cond.classLink RX5 ik cls :: Cond.initialized cls :: vx_atS RX5 ic cls ["java/lang/RuntimeException", "java/lang/Exception"], vx_ot w = true)
    (d0 : decode cc pc = .ok (.new ik, 3)) (d3 : decode cc (pc + 3) = .ok (.dup, 1)) (d4 : decode cc (pc + 4) = .ok (.ldc_w is, 3)) (d7 : decode cc (pc + 7) = .ok (.invokespecial ic, 3)) (d10 : decode cc (pc + 10) = .ok (.athrow, 1))
    (h1 : 5 < rm0.frames) (h2 : (st.map fun v => v.category).sum + 82 ≤ rm0.locals) (h3 : cells + 1 ≤ rm0.cells) (h4 : slots + 6 ≤ rm0.slots) (hc : cells + 1 ≤ mc) (hs : slots + 6 ≤ ms) (hx : exc cls ws) : Z κ nL G base mc ms post exc cells slots pc lv st ws := by
  obtain ⟨sa, hsa⟩ := C.ev.2.2.2.1 _ hstr
  intro ls H locs h hP hD hS
  refine vx_throwSW C.1 C.2.1 C.2.2.2.2.2.2.2.2.2.1 C.ow hcls (by decide) (C.hts hk) (C.hts hini) hsa (vx_hat (fun w hw => C.hts (hg1 w hw)) hg2 C.nb) hgood C.ev.2.1 C.ev.2.2.1 hS (h.1.trans C.2.2.1.symm) d0 d3 d4 d7 d10 (fun x hx => (hT x hx).elim) (by rw [C.R]; exact h1) (by rw [C.R]; exact h2) (by rw [C.R]; exact h3) (by rw [C.R]; exact h4) C.2.2.2.2.2.2.2.1 (fun t hvm hsz hk => ?_) hS.2.2 hc hs
  exact ⟨⟨ws, hx, hP.kept (fun k q hq => hk q.1 (hP k q hq).lt), hD⟩, ⟨Nat.le_trans hS.1 hsz, fun q h1 h2 => by rw [hk q (Nat.lt_of_lt_of_le h1 hS.1)]; exact hS.2.1 q h1 h2⟩⟩
end
/-- the words of the three throws, once -/
theorem thG_IOB : ∀ w ∈ Cond.classLink RX5 284 "java/lang/IndexOutOfBoundsException" :: Cond.initialized "java/lang/IndexOutOfBoundsException" :: vx_atS RX5 288 "java/lang/IndexOutOfBoundsException" ["java/lang/RuntimeException", "java/lang/Exception"], vx_ot w = true := by decide +kernel
theorem thN_IOB : ∀ w ∈ (vx_atS RX5 288 "java/lang/IndexOutOfBoundsException" ["java/lang/RuntimeException", "java/lang/Exception"]).filter (fun w => !goodWord w), w ∈ nbWs := by decide +kernel
theorem thG_IAE : ∀ w ∈ Cond.classLink RX5 57 "java/lang/IllegalArgumentException" :: Cond.initialized "java/lang/IllegalArgumentException" :: vx_atS RX5 61 "java/lang/IllegalArgumentException" ["java/lang/RuntimeException", "java/lang/Exception"], vx_ot w = true := by decide +kernel
theorem thN_IAE : ∀ w ∈ (vx_atS RX5 61 "java/lang/IllegalArgumentException" ["java/lang/RuntimeException", "java/lang/Exception"]).filter (fun w => !goodWord w), w ∈ nbWs := by decide +kernel
theorem thG_ISE : ∀ w ∈ Cond.classLink RX5 68 "java/lang/IllegalStateException" :: Cond.initialized "java/lang/IllegalStateException" :: vx_atS RX5 72 "java/lang/IllegalStateException" ["java/lang/RuntimeException", "java/lang/Exception"], vx_ot w = true := by decide +kernel
theorem thN_ISE : ∀ w ∈ (vx_atS RX5 72 "java/lang/IllegalStateException" ["java/lang/RuntimeException", "java/lang/Exception"]).filter (fun w => !goodWord w), w ∈ nbWs := by decide +kernel
end
section
/-! the class's world: objects and arrays by their addresses; I c a: the number in field c of the object a; F c a: the reference; R, N: rows of numbers and their lengths; O: rows of references -/
abbrev up2 {α : Type} (f : Nat → Nat → α) (c a : Nat) (v : α) : Nat → Nat → α := va_up f c (va_up (f c) a v)
def pwF (G : GG) (K : Nat → Nat) (I : Nat → Nat → Int) (F : Nat → Nat → Option Nat) (R : Nat → Nat → Int) (N : Nat → Nat) (O : Nat → Nat → Option Nat) : Nat → va_E := fun a => if K a = 0 then .inr (1, [.int (iI (I 0 a)), va_rf (F 0 a), va_rf (F 1 a), va_rf (F 2 a), va_rf (F 3 a), .int (iI (I 1 a)), .int (iI (I 2 a))]) else if K a = 1 then .inr (2, [va_rf (F 4 a), .int (iI (I 3 a))]) else if K a = 2 then .inr (3, [.int (iI (I 4 a)), va_rf (F 5 a), .int (iI (I 5 a)), .int (iI (I 6 a))]) else if K a = 3 then .inr (4, [.int (iI (I 7 a)), .int (iI (I 8 a)), .int (iI (I 9 a))]) else if K a = 4 then .inr (5, [va_rf (F 6 a), va_rf (F 7 a), .int (iI (I 10 a)), .int (iI (I 11 a)), .int (iI (I 12 a)), .int (iI (I 13 a))]) else if K a = 5 then .inr (6, [va_rf (F 8 a), va_rf (F 9 a), va_rf (F 10 a), va_rf (F 11 a), va_rf (F 12 a), va_rf (F 13 a), .int (iI (I 14 a))]) else if K a = 6 then .inr (0, [.int (iI (I 15 a)), va_rf (F 14 a), .int (iI (I 16 a))]) else if K a = 7 then .inl (G.2.1, N a, .inl (fun j => iI (R a j))) else if K a = 8 then .inl (G.2.2.1, N a, .inl (fun j => iI (R a j))) else .inl (G.2.2.2.1, N a, .inr (.inr (.inr (.inr (O a)))))
def pw (G : GG) (X : va_W) (L : List Nat) (K : Nat → Nat) (I : Nat → Nat → Int) (F : Nat → Nat → Option Nat) (R : Nat → Nat → Int) (N : Nat → Nat) (O : Nat → Nat → Option Nat) : va_W := X ++ va_pl L (pwF G K I F R N O)
theorem pl_wSet {X : va_W} {L : List Nat} {f f' : Nat → va_E} {a : Nat} {e : va_E} (hL : a ∈ L) (hf : ∀ b, va_up f a e b = f' b) : wSet (X ++ va_pl L f) a e (X ++ va_pl L f') := fun A k e0 hD hk => by
  obtain ⟨k', hk'⟩ := va_pl_get (X := X) (f := f) hL
  have h := va_Duq hD hk hk'
  subst h
  rw [va_pl_set hD hL hk']
  exact congrArg (fun l => X ++ l) (va_pl_congr hf)
theorem pl_new {X : va_W} {L : List Nat} {f f' : Nat → va_E} {q : Nat} {e : va_E} (hq : ∀ z ∈ X ++ va_pl L f, z.1 ≠ q) (hf : ∀ b, va_up f q e b = f' b) : (X ++ va_pl L f) ++ [(q, e)] = X ++ va_pl (L ++ [q]) f' := by
  have hL : q ∉ L := fun h => hq (q, f q) (List.mem_append_right _ (List.mem_map.mpr ⟨q, h, rfl⟩)) rfl
  rw [List.append_assoc, va_pl_push hL]
  exact congrArg (fun l => X ++ l) (va_pl_congr hf)
section
variable {G : GG} {X : va_W} {L : List Nat} {K : Nat → Nat} {I : Nat → Nat → Int} {F : Nat → Nat → Option Nat} {R : Nat → Nat → Int} {N : Nat → Nat} {O : Nat → Nat → Option Nat} {a q : Nat}
theorem pw_fresh (hq : ∀ z ∈ pw G X L K I F R N O, z.1 ≠ q) : q ∉ L := fun h => hq (q, pwF G K I F R N O q) (List.mem_append_right _ (List.mem_map.mpr ⟨q, h, rfl⟩)) rfl
theorem pw_mem {e : va_E} (hL : a ∈ L) (he : pwF G K I F R N O a = e) : (a, e) ∈ pw G X L K I F R N O := by
  rw [← he]
  exact List.mem_append_right _ (List.mem_map.mpr ⟨a, hL, rfl⟩)
theorem pwm_Copy (hL : a ∈ L) (hK : K a = 0) : (a, .inr (1, [.int (iI (I 0 a)), va_rf (F 0 a), va_rf (F 1 a), va_rf (F 2 a), va_rf (F 3 a), .int (iI (I 1 a)), .int (iI (I 2 a))])) ∈ pw G X L K I F R N O := pw_mem hL (by simp [pwF, hK])
theorem pwm_Draft (hL : a ∈ L) (hK : K a = 1) : (a, .inr (2, [va_rf (F 4 a), .int (iI (I 3 a))])) ∈ pw G X L K I F R N O := pw_mem hL (by simp [pwF, hK])
theorem pwm_House (hL : a ∈ L) (hK : K a = 2) : (a, .inr (3, [.int (iI (I 4 a)), va_rf (F 5 a), .int (iI (I 5 a)), .int (iI (I 6 a))])) ∈ pw G X L K I F R N O := pw_mem hL (by simp [pwF, hK])
theorem pwm_Letter (hL : a ∈ L) (hK : K a = 3) : (a, .inr (4, [.int (iI (I 7 a)), .int (iI (I 8 a)), .int (iI (I 9 a))])) ∈ pw G X L K I F R N O := pw_mem hL (by simp [pwF, hK])
theorem pwm_Loan (hL : a ∈ L) (hK : K a = 4) : (a, .inr (5, [va_rf (F 6 a), va_rf (F 7 a), .int (iI (I 10 a)), .int (iI (I 11 a)), .int (iI (I 12 a)), .int (iI (I 13 a))])) ∈ pw G X L K I F R N O := pw_mem hL (by simp [pwF, hK])
theorem pwm_MC (hL : a ∈ L) (hK : K a = 5) : (a, .inr (6, [va_rf (F 8 a), va_rf (F 9 a), va_rf (F 10 a), va_rf (F 11 a), va_rf (F 12 a), va_rf (F 13 a), .int (iI (I 14 a))])) ∈ pw G X L K I F R N O := pw_mem hL (by simp [pwF, hK])
theorem pwm_AL (hL : a ∈ L) (hK : K a = 6) : (a, .inr (0, [.int (iI (I 15 a)), va_rf (F 14 a), .int (iI (I 16 a))])) ∈ pw G X L K I F R N O := pw_mem hL (by simp [pwF, hK])
theorem pwm_I (hL : a ∈ L) (hK : K a = 7) : (a, .inl (G.2.1, N a, .inl (fun j => iI (R a j)))) ∈ pw G X L K I F R N O := pw_mem hL (by simp [pwF, hK])
theorem pwm_Z (hL : a ∈ L) (hK : K a = 8) : (a, .inl (G.2.2.1, N a, .inl (fun j => iI (R a j)))) ∈ pw G X L K I F R N O := pw_mem hL (by simp [pwF, hK])
theorem pwm_O (hL : a ∈ L) (hK : K a = 9) : (a, .inl (G.2.2.2.1, N a, .inr (.inr (.inr (.inr (O a)))))) ∈ pw G X L K I F R N O := pw_mem hL (by simp [pwF, hK])
theorem pws_Copy_number {z : Int} (hL : a ∈ L) (hK : K a = 0) : wSet (pw G X L K I F R N O) a (.inr (1, [.int (iI z), va_rf (F 0 a), va_rf (F 1 a), va_rf (F 2 a), va_rf (F 3 a), .int (iI (I 1 a)), .int (iI (I 2 a))])) (pw G X L K (up2 I 0 a z) F R N O) := pl_wSet hL (fun b => by
  by_cases hb : b = a
  · subst hb; simp [va_up, pwF, up2, hK]
  · simp [va_up, pwF, up2, hb])
theorem pws_Copy_model {z : Option Nat} (hL : a ∈ L) (hK : K a = 0) : wSet (pw G X L K I F R N O) a (.inr (1, [.int (iI (I 0 a)), va_rf z, va_rf (F 1 a), va_rf (F 2 a), va_rf (F 3 a), .int (iI (I 1 a)), .int (iI (I 2 a))])) (pw G X L K I (up2 F 0 a z) R N O) := pl_wSet hL (fun b => by
  by_cases hb : b = a
  · subst hb; simp [va_up, pwF, up2, hK]
  · simp [va_up, pwF, up2, hb])
theorem pws_Copy_owner {z : Option Nat} (hL : a ∈ L) (hK : K a = 0) : wSet (pw G X L K I F R N O) a (.inr (1, [.int (iI (I 0 a)), va_rf (F 0 a), va_rf z, va_rf (F 2 a), va_rf (F 3 a), .int (iI (I 1 a)), .int (iI (I 2 a))])) (pw G X L K I (up2 F 1 a z) R N O) := pl_wSet hL (fun b => by
  by_cases hb : b = a
  · subst hb; simp [va_up, pwF, up2, hK]
  · simp [va_up, pwF, up2, hb])
theorem pws_Copy_readings {z : Option Nat} (hL : a ∈ L) (hK : K a = 0) : wSet (pw G X L K I F R N O) a (.inr (1, [.int (iI (I 0 a)), va_rf (F 0 a), va_rf (F 1 a), va_rf z, va_rf (F 3 a), .int (iI (I 1 a)), .int (iI (I 2 a))])) (pw G X L K I (up2 F 2 a z) R N O) := pl_wSet hL (fun b => by
  by_cases hb : b = a
  · subst hb; simp [va_up, pwF, up2, hK]
  · simp [va_up, pwF, up2, hb])
theorem pws_Copy_house {z : Option Nat} (hL : a ∈ L) (hK : K a = 0) : wSet (pw G X L K I F R N O) a (.inr (1, [.int (iI (I 0 a)), va_rf (F 0 a), va_rf (F 1 a), va_rf (F 2 a), va_rf z, .int (iI (I 1 a)), .int (iI (I 2 a))])) (pw G X L K I (up2 F 3 a z) R N O) := pl_wSet hL (fun b => by
  by_cases hb : b = a
  · subst hb; simp [va_up, pwF, up2, hK]
  · simp [va_up, pwF, up2, hb])
theorem pws_Copy_isTold {z : Int} (hL : a ∈ L) (hK : K a = 0) : wSet (pw G X L K I F R N O) a (.inr (1, [.int (iI (I 0 a)), va_rf (F 0 a), va_rf (F 1 a), va_rf (F 2 a), va_rf (F 3 a), .int (iI z), .int (iI (I 2 a))])) (pw G X L K (up2 I 1 a z) F R N O) := pl_wSet hL (fun b => by
  by_cases hb : b = a
  · subst hb; simp [va_up, pwF, up2, hK]
  · simp [va_up, pwF, up2, hb])
theorem pws_Copy_family {z : Int} (hL : a ∈ L) (hK : K a = 0) : wSet (pw G X L K I F R N O) a (.inr (1, [.int (iI (I 0 a)), va_rf (F 0 a), va_rf (F 1 a), va_rf (F 2 a), va_rf (F 3 a), .int (iI (I 1 a)), .int (iI z)])) (pw G X L K (up2 I 2 a z) F R N O) := pl_wSet hL (fun b => by
  by_cases hb : b = a
  · subst hb; simp [va_up, pwF, up2, hK]
  · simp [va_up, pwF, up2, hb])
theorem pwn_Copy (hq : ∀ z ∈ pw G X L K I F R N O, z.1 ≠ q) : pw G X L K I F R N O ++ [(q, .inr (1, [.int 0, .null, .null, .null, .null, .int 0, .int 0]))] = pw G X (L ++ [q]) (va_up K q 0) (up2 (up2 (up2 I 0 q 0) 1 q 0) 2 q 0) (up2 (up2 (up2 (up2 F 0 q none) 1 q none) 2 q none) 3 q none) R N O := pl_new hq (fun b => by
  by_cases hb : b = q
  · subst hb; simp [va_up, pwF, up2, va_rf]; rfl
  · simp [va_up, pwF, up2, hb])
theorem pws_Draft_readings {z : Option Nat} (hL : a ∈ L) (hK : K a = 1) : wSet (pw G X L K I F R N O) a (.inr (2, [va_rf z, .int (iI (I 3 a))])) (pw G X L K I (up2 F 4 a z) R N O) := pl_wSet hL (fun b => by
  by_cases hb : b = a
  · subst hb; simp [va_up, pwF, up2, hK]
  · simp [va_up, pwF, up2, hb])
theorem pws_Draft_filled {z : Int} (hL : a ∈ L) (hK : K a = 1) : wSet (pw G X L K I F R N O) a (.inr (2, [va_rf (F 4 a), .int (iI z)])) (pw G X L K (up2 I 3 a z) F R N O) := pl_wSet hL (fun b => by
  by_cases hb : b = a
  · subst hb; simp [va_up, pwF, up2, hK]
  · simp [va_up, pwF, up2, hb])
theorem pwn_Draft (hq : ∀ z ∈ pw G X L K I F R N O, z.1 ≠ q) : pw G X L K I F R N O ++ [(q, .inr (2, [.null, .int 0]))] = pw G X (L ++ [q]) (va_up K q 1) (up2 I 3 q 0) (up2 F 4 q none) R N O := pl_new hq (fun b => by
  by_cases hb : b = q
  · subst hb; simp [va_up, pwF, up2, va_rf]; rfl
  · simp [va_up, pwF, up2, hb])
theorem pws_House_number {z : Int} (hL : a ∈ L) (hK : K a = 2) : wSet (pw G X L K I F R N O) a (.inr (3, [.int (iI z), va_rf (F 5 a), .int (iI (I 5 a)), .int (iI (I 6 a))])) (pw G X L K (up2 I 4 a z) F R N O) := pl_wSet hL (fun b => by
  by_cases hb : b = a
  · subst hb; simp [va_up, pwF, up2, hK]
  · simp [va_up, pwF, up2, hb])
theorem pws_House_held {z : Option Nat} (hL : a ∈ L) (hK : K a = 2) : wSet (pw G X L K I F R N O) a (.inr (3, [.int (iI (I 4 a)), va_rf z, .int (iI (I 5 a)), .int (iI (I 6 a))])) (pw G X L K I (up2 F 5 a z) R N O) := pl_wSet hL (fun b => by
  by_cases hb : b = a
  · subst hb; simp [va_up, pwF, up2, hK]
  · simp [va_up, pwF, up2, hb])
theorem pws_House_coins {z : Int} (hL : a ∈ L) (hK : K a = 2) : wSet (pw G X L K I F R N O) a (.inr (3, [.int (iI (I 4 a)), va_rf (F 5 a), .int (iI z), .int (iI (I 6 a))])) (pw G X L K (up2 I 5 a z) F R N O) := pl_wSet hL (fun b => by
  by_cases hb : b = a
  · subst hb; simp [va_up, pwF, up2, hK]
  · simp [va_up, pwF, up2, hb])
theorem pws_House_laidDown {z : Int} (hL : a ∈ L) (hK : K a = 2) : wSet (pw G X L K I F R N O) a (.inr (3, [.int (iI (I 4 a)), va_rf (F 5 a), .int (iI (I 5 a)), .int (iI z)])) (pw G X L K (up2 I 6 a z) F R N O) := pl_wSet hL (fun b => by
  by_cases hb : b = a
  · subst hb; simp [va_up, pwF, up2, hK]
  · simp [va_up, pwF, up2, hb])
theorem pwn_House (hq : ∀ z ∈ pw G X L K I F R N O, z.1 ≠ q) : pw G X L K I F R N O ++ [(q, .inr (3, [.int 0, .null, .int 0, .int 0]))] = pw G X (L ++ [q]) (va_up K q 2) (up2 (up2 (up2 I 4 q 0) 5 q 0) 6 q 0) (up2 F 5 q none) R N O := pl_new hq (fun b => by
  by_cases hb : b = q
  · subst hb; simp [va_up, pwF, up2, va_rf]; rfl
  · simp [va_up, pwF, up2, hb])
theorem pws_Letter_place {z : Int} (hL : a ∈ L) (hK : K a = 3) : wSet (pw G X L K I F R N O) a (.inr (4, [.int (iI z), .int (iI (I 8 a)), .int (iI (I 9 a))])) (pw G X L K (up2 I 7 a z) F R N O) := pl_wSet hL (fun b => by
  by_cases hb : b = a
  · subst hb; simp [va_up, pwF, up2, hK]
  · simp [va_up, pwF, up2, hb])
theorem pws_Letter_was {z : Int} (hL : a ∈ L) (hK : K a = 3) : wSet (pw G X L K I F R N O) a (.inr (4, [.int (iI (I 7 a)), .int (iI z), .int (iI (I 9 a))])) (pw G X L K (up2 I 8 a z) F R N O) := pl_wSet hL (fun b => by
  by_cases hb : b = a
  · subst hb; simp [va_up, pwF, up2, hK]
  · simp [va_up, pwF, up2, hb])
theorem pws_Letter_now {z : Int} (hL : a ∈ L) (hK : K a = 3) : wSet (pw G X L K I F R N O) a (.inr (4, [.int (iI (I 7 a)), .int (iI (I 8 a)), .int (iI z)])) (pw G X L K (up2 I 9 a z) F R N O) := pl_wSet hL (fun b => by
  by_cases hb : b = a
  · subst hb; simp [va_up, pwF, up2, hK]
  · simp [va_up, pwF, up2, hb])
theorem pwn_Letter (hq : ∀ z ∈ pw G X L K I F R N O, z.1 ≠ q) : pw G X L K I F R N O ++ [(q, .inr (4, [.int 0, .int 0, .int 0]))] = pw G X (L ++ [q]) (va_up K q 3) (up2 (up2 (up2 I 7 q 0) 8 q 0) 9 q 0) F R N O := pl_new hq (fun b => by
  by_cases hb : b = q
  · subst hb; simp [va_up, pwF, up2, va_rf]; rfl
  · simp [va_up, pwF, up2, hb])
theorem pws_Loan_copy {z : Option Nat} (hL : a ∈ L) (hK : K a = 4) : wSet (pw G X L K I F R N O) a (.inr (5, [va_rf z, va_rf (F 7 a), .int (iI (I 10 a)), .int (iI (I 11 a)), .int (iI (I 12 a)), .int (iI (I 13 a))])) (pw G X L K I (up2 F 6 a z) R N O) := pl_wSet hL (fun b => by
  by_cases hb : b = a
  · subst hb; simp [va_up, pwF, up2, hK]
  · simp [va_up, pwF, up2, hb])
theorem pws_Loan_borrower {z : Option Nat} (hL : a ∈ L) (hK : K a = 4) : wSet (pw G X L K I F R N O) a (.inr (5, [va_rf (F 6 a), va_rf z, .int (iI (I 10 a)), .int (iI (I 11 a)), .int (iI (I 12 a)), .int (iI (I 13 a))])) (pw G X L K I (up2 F 7 a z) R N O) := pl_wSet hL (fun b => by
  by_cases hb : b = a
  · subst hb; simp [va_up, pwF, up2, hK]
  · simp [va_up, pwF, up2, hb])
theorem pws_Loan_lastDay {z : Int} (hL : a ∈ L) (hK : K a = 4) : wSet (pw G X L K I F R N O) a (.inr (5, [va_rf (F 6 a), va_rf (F 7 a), .int (iI z), .int (iI (I 11 a)), .int (iI (I 12 a)), .int (iI (I 13 a))])) (pw G X L K (up2 I 10 a z) F R N O) := pl_wSet hL (fun b => by
  by_cases hb : b = a
  · subst hb; simp [va_up, pwF, up2, hK]
  · simp [va_up, pwF, up2, hb])
theorem pws_Loan_pledge {z : Int} (hL : a ∈ L) (hK : K a = 4) : wSet (pw G X L K I F R N O) a (.inr (5, [va_rf (F 6 a), va_rf (F 7 a), .int (iI (I 10 a)), .int (iI z), .int (iI (I 12 a)), .int (iI (I 13 a))])) (pw G X L K (up2 I 11 a z) F R N O) := pl_wSet hL (fun b => by
  by_cases hb : b = a
  · subst hb; simp [va_up, pwF, up2, hK]
  · simp [va_up, pwF, up2, hb])
theorem pws_Loan_isBack {z : Int} (hL : a ∈ L) (hK : K a = 4) : wSet (pw G X L K I F R N O) a (.inr (5, [va_rf (F 6 a), va_rf (F 7 a), .int (iI (I 10 a)), .int (iI (I 11 a)), .int (iI z), .int (iI (I 13 a))])) (pw G X L K (up2 I 12 a z) F R N O) := pl_wSet hL (fun b => by
  by_cases hb : b = a
  · subst hb; simp [va_up, pwF, up2, hK]
  · simp [va_up, pwF, up2, hb])
theorem pws_Loan_daysLateAtEnd {z : Int} (hL : a ∈ L) (hK : K a = 4) : wSet (pw G X L K I F R N O) a (.inr (5, [va_rf (F 6 a), va_rf (F 7 a), .int (iI (I 10 a)), .int (iI (I 11 a)), .int (iI (I 12 a)), .int (iI z)])) (pw G X L K (up2 I 13 a z) F R N O) := pl_wSet hL (fun b => by
  by_cases hb : b = a
  · subst hb; simp [va_up, pwF, up2, hK]
  · simp [va_up, pwF, up2, hb])
theorem pwn_Loan (hq : ∀ z ∈ pw G X L K I F R N O, z.1 ≠ q) : pw G X L K I F R N O ++ [(q, .inr (5, [.null, .null, .int 0, .int 0, .int 0, .int 0]))] = pw G X (L ++ [q]) (va_up K q 4) (up2 (up2 (up2 (up2 I 10 q 0) 11 q 0) 12 q 0) 13 q 0) (up2 (up2 F 6 q none) 7 q none) R N O := pl_new hq (fun b => by
  by_cases hb : b = q
  · subst hb; simp [va_up, pwF, up2, va_rf]; rfl
  · simp [va_up, pwF, up2, hb])
theorem pws_MC_houses {z : Option Nat} (hL : a ∈ L) (hK : K a = 5) : wSet (pw G X L K I F R N O) a (.inr (6, [va_rf z, va_rf (F 9 a), va_rf (F 10 a), va_rf (F 11 a), va_rf (F 12 a), va_rf (F 13 a), .int (iI (I 14 a))])) (pw G X L K I (up2 F 8 a z) R N O) := pl_wSet hL (fun b => by
  by_cases hb : b = a
  · subst hb; simp [va_up, pwF, up2, hK]
  · simp [va_up, pwF, up2, hb])
theorem pws_MC_copies {z : Option Nat} (hL : a ∈ L) (hK : K a = 5) : wSet (pw G X L K I F R N O) a (.inr (6, [va_rf (F 8 a), va_rf z, va_rf (F 10 a), va_rf (F 11 a), va_rf (F 12 a), va_rf (F 13 a), .int (iI (I 14 a))])) (pw G X L K I (up2 F 9 a z) R N O) := pl_wSet hL (fun b => by
  by_cases hb : b = a
  · subst hb; simp [va_up, pwF, up2, hK]
  · simp [va_up, pwF, up2, hb])
theorem pws_MC_letters {z : Option Nat} (hL : a ∈ L) (hK : K a = 5) : wSet (pw G X L K I F R N O) a (.inr (6, [va_rf (F 8 a), va_rf (F 9 a), va_rf z, va_rf (F 11 a), va_rf (F 12 a), va_rf (F 13 a), .int (iI (I 14 a))])) (pw G X L K I (up2 F 10 a z) R N O) := pl_wSet hL (fun b => by
  by_cases hb : b = a
  · subst hb; simp [va_up, pwF, up2, hK]
  · simp [va_up, pwF, up2, hb])
theorem pws_MC_loans {z : Option Nat} (hL : a ∈ L) (hK : K a = 5) : wSet (pw G X L K I F R N O) a (.inr (6, [va_rf (F 8 a), va_rf (F 9 a), va_rf (F 10 a), va_rf z, va_rf (F 12 a), va_rf (F 13 a), .int (iI (I 14 a))])) (pw G X L K I (up2 F 11 a z) R N O) := pl_wSet hL (fun b => by
  by_cases hb : b = a
  · subst hb; simp [va_up, pwF, up2, hK]
  · simp [va_up, pwF, up2, hb])
theorem pws_MC_slips {z : Option Nat} (hL : a ∈ L) (hK : K a = 5) : wSet (pw G X L K I F R N O) a (.inr (6, [va_rf (F 8 a), va_rf (F 9 a), va_rf (F 10 a), va_rf (F 11 a), va_rf z, va_rf (F 13 a), .int (iI (I 14 a))])) (pw G X L K I (up2 F 12 a z) R N O) := pl_wSet hL (fun b => by
  by_cases hb : b = a
  · subst hb; simp [va_up, pwF, up2, hK]
  · simp [va_up, pwF, up2, hb])
theorem pws_MC_draft {z : Option Nat} (hL : a ∈ L) (hK : K a = 5) : wSet (pw G X L K I F R N O) a (.inr (6, [va_rf (F 8 a), va_rf (F 9 a), va_rf (F 10 a), va_rf (F 11 a), va_rf (F 12 a), va_rf z, .int (iI (I 14 a))])) (pw G X L K I (up2 F 13 a z) R N O) := pl_wSet hL (fun b => by
  by_cases hb : b = a
  · subst hb; simp [va_up, pwF, up2, hK]
  · simp [va_up, pwF, up2, hb])
theorem pws_MC_today {z : Int} (hL : a ∈ L) (hK : K a = 5) : wSet (pw G X L K I F R N O) a (.inr (6, [va_rf (F 8 a), va_rf (F 9 a), va_rf (F 10 a), va_rf (F 11 a), va_rf (F 12 a), va_rf (F 13 a), .int (iI z)])) (pw G X L K (up2 I 14 a z) F R N O) := pl_wSet hL (fun b => by
  by_cases hb : b = a
  · subst hb; simp [va_up, pwF, up2, hK]
  · simp [va_up, pwF, up2, hb])
theorem pwn_MC (hq : ∀ z ∈ pw G X L K I F R N O, z.1 ≠ q) : pw G X L K I F R N O ++ [(q, .inr (6, [.null, .null, .null, .null, .null, .null, .int 0]))] = pw G X (L ++ [q]) (va_up K q 5) (up2 I 14 q 0) (up2 (up2 (up2 (up2 (up2 (up2 F 8 q none) 9 q none) 10 q none) 11 q none) 12 q none) 13 q none) R N O := pl_new hq (fun b => by
  by_cases hb : b = q
  · subst hb; simp [va_up, pwF, up2, va_rf]; rfl
  · simp [va_up, pwF, up2, hb])
theorem pws_AL_modCount {z : Int} (hL : a ∈ L) (hK : K a = 6) : wSet (pw G X L K I F R N O) a (.inr (0, [.int (iI z), va_rf (F 14 a), .int (iI (I 16 a))])) (pw G X L K (up2 I 15 a z) F R N O) := pl_wSet hL (fun b => by
  by_cases hb : b = a
  · subst hb; simp [va_up, pwF, up2, hK]
  · simp [va_up, pwF, up2, hb])
theorem pws_AL_elementData {z : Option Nat} (hL : a ∈ L) (hK : K a = 6) : wSet (pw G X L K I F R N O) a (.inr (0, [.int (iI (I 15 a)), va_rf z, .int (iI (I 16 a))])) (pw G X L K I (up2 F 14 a z) R N O) := pl_wSet hL (fun b => by
  by_cases hb : b = a
  · subst hb; simp [va_up, pwF, up2, hK]
  · simp [va_up, pwF, up2, hb])
theorem pws_AL_size {z : Int} (hL : a ∈ L) (hK : K a = 6) : wSet (pw G X L K I F R N O) a (.inr (0, [.int (iI (I 15 a)), va_rf (F 14 a), .int (iI z)])) (pw G X L K (up2 I 16 a z) F R N O) := pl_wSet hL (fun b => by
  by_cases hb : b = a
  · subst hb; simp [va_up, pwF, up2, hK]
  · simp [va_up, pwF, up2, hb])
theorem pwn_AL (hq : ∀ z ∈ pw G X L K I F R N O, z.1 ≠ q) : pw G X L K I F R N O ++ [(q, .inr (0, [.int 0, .null, .int 0]))] = pw G X (L ++ [q]) (va_up K q 6) (up2 (up2 I 15 q 0) 16 q 0) (up2 F 14 q none) R N O := pl_new hq (fun b => by
  by_cases hb : b = q
  · subst hb; simp [va_up, pwF, up2, va_rf]; rfl
  · simp [va_up, pwF, up2, hb])
theorem pwt_I {i : Nat} {z : Int} (hL : a ∈ L) (hK : K a = 7) : wSet (pw G X L K I F R N O) a (.inl (G.2.1, N a, .inl (upd (fun j => iI (R a j)) i (iI z)))) (pw G X L K I F (up2 R a i z) N O) := pl_wSet hL (fun b => by
  by_cases hb : b = a
  · subst hb
    have e : upd (fun j => iI (R b j)) i (iI z) = fun j => iI (up2 R b i z b j) := by
      funext j
      by_cases hj : j = i <;> simp [upd, up2, va_up, hj]
    rw [e]
    simp [va_up, pwF, hK]
  · simp [va_up, pwF, up2, hb])
theorem pwf_I {f : Nat → Int} (hL : a ∈ L) (hK : K a = 7) : wSet (pw G X L K I F R N O) a (.inl (G.2.1, N a, .inl (fun j => iI (f j)))) (pw G X L K I F (va_up R a f) N O) := pl_wSet hL (fun b => by
  by_cases hb : b = a
  · subst hb; simp [va_up, pwF, hK]
  · simp [va_up, pwF, up2, hb])
theorem pwn_I {n : Nat} (hq : ∀ z ∈ pw G X L K I F R N O, z.1 ≠ q) : pw G X L K I F R N O ++ [(q, .inl (G.2.1, n, .inl (fun _ => 0)))] = pw G X (L ++ [q]) (va_up K q 7) I F (va_up R q (fun _ => 0)) (va_up N q n) O := pl_new hq (fun b => by
  by_cases hb : b = q
  · subst hb; simp [va_up, pwF]; rfl
  · simp [va_up, pwF, up2, hb])
theorem pwt_Z {i : Nat} {z : Int} (hL : a ∈ L) (hK : K a = 8) : wSet (pw G X L K I F R N O) a (.inl (G.2.2.1, N a, .inl (upd (fun j => iI (R a j)) i (iI z)))) (pw G X L K I F (up2 R a i z) N O) := pl_wSet hL (fun b => by
  by_cases hb : b = a
  · subst hb
    have e : upd (fun j => iI (R b j)) i (iI z) = fun j => iI (up2 R b i z b j) := by
      funext j
      by_cases hj : j = i <;> simp [upd, up2, va_up, hj]
    rw [e]
    simp [va_up, pwF, hK]
  · simp [va_up, pwF, up2, hb])
theorem pwf_Z {f : Nat → Int} (hL : a ∈ L) (hK : K a = 8) : wSet (pw G X L K I F R N O) a (.inl (G.2.2.1, N a, .inl (fun j => iI (f j)))) (pw G X L K I F (va_up R a f) N O) := pl_wSet hL (fun b => by
  by_cases hb : b = a
  · subst hb; simp [va_up, pwF, hK]
  · simp [va_up, pwF, up2, hb])
theorem pwn_Z {n : Nat} (hq : ∀ z ∈ pw G X L K I F R N O, z.1 ≠ q) : pw G X L K I F R N O ++ [(q, .inl (G.2.2.1, n, .inl (fun _ => 0)))] = pw G X (L ++ [q]) (va_up K q 8) I F (va_up R q (fun _ => 0)) (va_up N q n) O := pl_new hq (fun b => by
  by_cases hb : b = q
  · subst hb; simp [va_up, pwF]; rfl
  · simp [va_up, pwF, up2, hb])
theorem pwt_O {i : Nat} {z : Option Nat} (hL : a ∈ L) (hK : K a = 9) : wSet (pw G X L K I F R N O) a (.inl (G.2.2.2.1, N a, .inr (.inr (.inr (.inr (va_up (O a) i z)))))) (pw G X L K I F R N (up2 O a i z)) := pl_wSet hL (fun b => by
  by_cases hb : b = a
  · subst hb; simp [va_up, pwF, up2, hK]
  · simp [va_up, pwF, up2, hb])
theorem pwf_O {f : Nat → Option Nat} (hL : a ∈ L) (hK : K a = 9) : wSet (pw G X L K I F R N O) a (.inl (G.2.2.2.1, N a, .inr (.inr (.inr (.inr f))))) (pw G X L K I F R N (va_up O a f)) := pl_wSet hL (fun b => by
  by_cases hb : b = a
  · subst hb; simp [va_up, pwF, up2, hK]
  · simp [va_up, pwF, up2, hb])
theorem pwn_O {n : Nat} (hq : ∀ z ∈ pw G X L K I F R N O, z.1 ≠ q) : pw G X L K I F R N O ++ [(q, .inl (G.2.2.2.1, n, .inr (.inr (.inr (.inr (fun _ => none))))))] = pw G X (L ++ [q]) (va_up K q 9) I F R (va_up N q n) (va_up O q (fun _ => none)) := pl_new hq (fun b => by
  by_cases hb : b = q
  · subst hb; simp [va_up, pwF]
  · simp [va_up, pwF, up2, hb])
end
end
section
/-! the reference's world: its object at q 30, the row of its field k at q k; V k: what the row holds (V k 0: what the number holds) -/
def xm (G : GG) (q : Nat → Nat) (V : Nat → Nat → Int) : va_W := [(q 30, .inr (7, [.ref (q 0), .ref (q 1), .ref (q 2), .ref (q 3), .ref (q 4), .int (iI (V 5 0)), .ref (q 6), .int (iI (V 7 0)), .ref (q 8), .int (iI (V 9 0)), .ref (q 10), .ref (q 11), .ref (q 12), .ref (q 13), .int (iI (V 14 0)), .ref (q 15), .ref (q 16), .ref (q 17), .ref (q 18), .ref (q 19), .ref (q 20), .int (iI (V 21 0)), .ref (q 22), .ref (q 23), .ref (q 24), .int (iI (V 25 0))])), (q 0, .inl (G.2.1, 960, .inl (fun j => iI (V 0 j)))), (q 1, .inl (G.2.1, 40, .inl (fun j => iI (V 1 j)))), (q 2, .inl (G.2.2.1, 40, .inl (fun j => iI (V 2 j)))), (q 3, .inl (G.2.1, 40, .inl (fun j => iI (V 3 j)))), (q 4, .inl (G.2.1, 40, .inl (fun j => iI (V 4 j)))), (q 6, .inl (G.2.1, 24, .inl (fun j => iI (V 6 j)))), (q 8, .inl (G.2.1, 6, .inl (fun j => iI (V 8 j)))), (q 10, .inl (G.2.1, 60, .inl (fun j => iI (V 10 j)))), (q 11, .inl (G.2.1, 60, .inl (fun j => iI (V 11 j)))), (q 12, .inl (G.2.1, 60, .inl (fun j => iI (V 12 j)))), (q 13, .inl (G.2.2.1, 300, .inl (fun j => iI (V 13 j)))), (q 15, .inl (G.2.1, 40, .inl (fun j => iI (V 15 j)))), (q 16, .inl (G.2.1, 40, .inl (fun j => iI (V 16 j)))), (q 17, .inl (G.2.1, 40, .inl (fun j => iI (V 17 j)))), (q 18, .inl (G.2.1, 40, .inl (fun j => iI (V 18 j)))), (q 19, .inl (G.2.1, 40, .inl (fun j => iI (V 19 j)))), (q 20, .inl (G.2.2.1, 40, .inl (fun j => iI (V 20 j)))), (q 22, .inl (G.2.1, 5, .inl (fun j => iI (V 22 j)))), (q 23, .inl (G.2.1, 5, .inl (fun j => iI (V 23 j)))), (q 24, .inl (G.2.1, 40, .inl (fun j => iI (V 24 j))))]
section
variable {G : GG} {q : Nat → Nat} {V : Nat → Nat → Int} {Y : va_W}
theorem xmm : (q 30, .inr (7, [.ref (q 0), .ref (q 1), .ref (q 2), .ref (q 3), .ref (q 4), .int (iI (V 5 0)), .ref (q 6), .int (iI (V 7 0)), .ref (q 8), .int (iI (V 9 0)), .ref (q 10), .ref (q 11), .ref (q 12), .ref (q 13), .int (iI (V 14 0)), .ref (q 15), .ref (q 16), .ref (q 17), .ref (q 18), .ref (q 19), .ref (q 20), .int (iI (V 21 0)), .ref (q 22), .ref (q 23), .ref (q 24), .int (iI (V 25 0))])) ∈ xm G q V ++ Y := List.mem_of_getElem? (i := 0) rfl
theorem xmm_0 : (q 0, .inl (G.2.1, 960, .inl (fun j => iI (V 0 j)))) ∈ xm G q V ++ Y := List.mem_of_getElem? (i := 1) rfl
theorem xms_0 {i : Nat} {z : Int} : wSet (xm G q V ++ Y) (q 0) (.inl (G.2.1, 960, .inl (upd (fun j => iI (V 0 j)) i (iI z)))) (xm G q (up2 V 0 i z) ++ Y) := by
  have e : upd (fun j => iI (V 0 j)) i (iI z) = fun j => iI (up2 V 0 i z 0 j) := by
    funext j
    by_cases hj : j = i <;> simp [upd, up2, va_up, hj]
  rw [e]
  exact wSet_at 1 rfl rfl
theorem xmm_1 : (q 1, .inl (G.2.1, 40, .inl (fun j => iI (V 1 j)))) ∈ xm G q V ++ Y := List.mem_of_getElem? (i := 2) rfl
theorem xms_1 {i : Nat} {z : Int} : wSet (xm G q V ++ Y) (q 1) (.inl (G.2.1, 40, .inl (upd (fun j => iI (V 1 j)) i (iI z)))) (xm G q (up2 V 1 i z) ++ Y) := by
  have e : upd (fun j => iI (V 1 j)) i (iI z) = fun j => iI (up2 V 1 i z 1 j) := by
    funext j
    by_cases hj : j = i <;> simp [upd, up2, va_up, hj]
  rw [e]
  exact wSet_at 2 rfl rfl
theorem xmm_2 : (q 2, .inl (G.2.2.1, 40, .inl (fun j => iI (V 2 j)))) ∈ xm G q V ++ Y := List.mem_of_getElem? (i := 3) rfl
theorem xms_2 {i : Nat} {z : Int} : wSet (xm G q V ++ Y) (q 2) (.inl (G.2.2.1, 40, .inl (upd (fun j => iI (V 2 j)) i (iI z)))) (xm G q (up2 V 2 i z) ++ Y) := by
  have e : upd (fun j => iI (V 2 j)) i (iI z) = fun j => iI (up2 V 2 i z 2 j) := by
    funext j
    by_cases hj : j = i <;> simp [upd, up2, va_up, hj]
  rw [e]
  exact wSet_at 3 rfl rfl
theorem xmm_3 : (q 3, .inl (G.2.1, 40, .inl (fun j => iI (V 3 j)))) ∈ xm G q V ++ Y := List.mem_of_getElem? (i := 4) rfl
theorem xms_3 {i : Nat} {z : Int} : wSet (xm G q V ++ Y) (q 3) (.inl (G.2.1, 40, .inl (upd (fun j => iI (V 3 j)) i (iI z)))) (xm G q (up2 V 3 i z) ++ Y) := by
  have e : upd (fun j => iI (V 3 j)) i (iI z) = fun j => iI (up2 V 3 i z 3 j) := by
    funext j
    by_cases hj : j = i <;> simp [upd, up2, va_up, hj]
  rw [e]
  exact wSet_at 4 rfl rfl
theorem xmm_4 : (q 4, .inl (G.2.1, 40, .inl (fun j => iI (V 4 j)))) ∈ xm G q V ++ Y := List.mem_of_getElem? (i := 5) rfl
theorem xms_4 {i : Nat} {z : Int} : wSet (xm G q V ++ Y) (q 4) (.inl (G.2.1, 40, .inl (upd (fun j => iI (V 4 j)) i (iI z)))) (xm G q (up2 V 4 i z) ++ Y) := by
  have e : upd (fun j => iI (V 4 j)) i (iI z) = fun j => iI (up2 V 4 i z 4 j) := by
    funext j
    by_cases hj : j = i <;> simp [upd, up2, va_up, hj]
  rw [e]
  exact wSet_at 5 rfl rfl
theorem xmm_6 : (q 6, .inl (G.2.1, 24, .inl (fun j => iI (V 6 j)))) ∈ xm G q V ++ Y := List.mem_of_getElem? (i := 6) rfl
theorem xms_6 {i : Nat} {z : Int} : wSet (xm G q V ++ Y) (q 6) (.inl (G.2.1, 24, .inl (upd (fun j => iI (V 6 j)) i (iI z)))) (xm G q (up2 V 6 i z) ++ Y) := by
  have e : upd (fun j => iI (V 6 j)) i (iI z) = fun j => iI (up2 V 6 i z 6 j) := by
    funext j
    by_cases hj : j = i <;> simp [upd, up2, va_up, hj]
  rw [e]
  exact wSet_at 6 rfl rfl
theorem xmm_8 : (q 8, .inl (G.2.1, 6, .inl (fun j => iI (V 8 j)))) ∈ xm G q V ++ Y := List.mem_of_getElem? (i := 7) rfl
theorem xms_8 {i : Nat} {z : Int} : wSet (xm G q V ++ Y) (q 8) (.inl (G.2.1, 6, .inl (upd (fun j => iI (V 8 j)) i (iI z)))) (xm G q (up2 V 8 i z) ++ Y) := by
  have e : upd (fun j => iI (V 8 j)) i (iI z) = fun j => iI (up2 V 8 i z 8 j) := by
    funext j
    by_cases hj : j = i <;> simp [upd, up2, va_up, hj]
  rw [e]
  exact wSet_at 7 rfl rfl
theorem xmm_10 : (q 10, .inl (G.2.1, 60, .inl (fun j => iI (V 10 j)))) ∈ xm G q V ++ Y := List.mem_of_getElem? (i := 8) rfl
theorem xms_10 {i : Nat} {z : Int} : wSet (xm G q V ++ Y) (q 10) (.inl (G.2.1, 60, .inl (upd (fun j => iI (V 10 j)) i (iI z)))) (xm G q (up2 V 10 i z) ++ Y) := by
  have e : upd (fun j => iI (V 10 j)) i (iI z) = fun j => iI (up2 V 10 i z 10 j) := by
    funext j
    by_cases hj : j = i <;> simp [upd, up2, va_up, hj]
  rw [e]
  exact wSet_at 8 rfl rfl
theorem xmm_11 : (q 11, .inl (G.2.1, 60, .inl (fun j => iI (V 11 j)))) ∈ xm G q V ++ Y := List.mem_of_getElem? (i := 9) rfl
theorem xms_11 {i : Nat} {z : Int} : wSet (xm G q V ++ Y) (q 11) (.inl (G.2.1, 60, .inl (upd (fun j => iI (V 11 j)) i (iI z)))) (xm G q (up2 V 11 i z) ++ Y) := by
  have e : upd (fun j => iI (V 11 j)) i (iI z) = fun j => iI (up2 V 11 i z 11 j) := by
    funext j
    by_cases hj : j = i <;> simp [upd, up2, va_up, hj]
  rw [e]
  exact wSet_at 9 rfl rfl
theorem xmm_12 : (q 12, .inl (G.2.1, 60, .inl (fun j => iI (V 12 j)))) ∈ xm G q V ++ Y := List.mem_of_getElem? (i := 10) rfl
theorem xms_12 {i : Nat} {z : Int} : wSet (xm G q V ++ Y) (q 12) (.inl (G.2.1, 60, .inl (upd (fun j => iI (V 12 j)) i (iI z)))) (xm G q (up2 V 12 i z) ++ Y) := by
  have e : upd (fun j => iI (V 12 j)) i (iI z) = fun j => iI (up2 V 12 i z 12 j) := by
    funext j
    by_cases hj : j = i <;> simp [upd, up2, va_up, hj]
  rw [e]
  exact wSet_at 10 rfl rfl
theorem xmm_13 : (q 13, .inl (G.2.2.1, 300, .inl (fun j => iI (V 13 j)))) ∈ xm G q V ++ Y := List.mem_of_getElem? (i := 11) rfl
theorem xms_13 {i : Nat} {z : Int} : wSet (xm G q V ++ Y) (q 13) (.inl (G.2.2.1, 300, .inl (upd (fun j => iI (V 13 j)) i (iI z)))) (xm G q (up2 V 13 i z) ++ Y) := by
  have e : upd (fun j => iI (V 13 j)) i (iI z) = fun j => iI (up2 V 13 i z 13 j) := by
    funext j
    by_cases hj : j = i <;> simp [upd, up2, va_up, hj]
  rw [e]
  exact wSet_at 11 rfl rfl
theorem xmm_15 : (q 15, .inl (G.2.1, 40, .inl (fun j => iI (V 15 j)))) ∈ xm G q V ++ Y := List.mem_of_getElem? (i := 12) rfl
theorem xms_15 {i : Nat} {z : Int} : wSet (xm G q V ++ Y) (q 15) (.inl (G.2.1, 40, .inl (upd (fun j => iI (V 15 j)) i (iI z)))) (xm G q (up2 V 15 i z) ++ Y) := by
  have e : upd (fun j => iI (V 15 j)) i (iI z) = fun j => iI (up2 V 15 i z 15 j) := by
    funext j
    by_cases hj : j = i <;> simp [upd, up2, va_up, hj]
  rw [e]
  exact wSet_at 12 rfl rfl
theorem xmm_16 : (q 16, .inl (G.2.1, 40, .inl (fun j => iI (V 16 j)))) ∈ xm G q V ++ Y := List.mem_of_getElem? (i := 13) rfl
theorem xms_16 {i : Nat} {z : Int} : wSet (xm G q V ++ Y) (q 16) (.inl (G.2.1, 40, .inl (upd (fun j => iI (V 16 j)) i (iI z)))) (xm G q (up2 V 16 i z) ++ Y) := by
  have e : upd (fun j => iI (V 16 j)) i (iI z) = fun j => iI (up2 V 16 i z 16 j) := by
    funext j
    by_cases hj : j = i <;> simp [upd, up2, va_up, hj]
  rw [e]
  exact wSet_at 13 rfl rfl
theorem xmm_17 : (q 17, .inl (G.2.1, 40, .inl (fun j => iI (V 17 j)))) ∈ xm G q V ++ Y := List.mem_of_getElem? (i := 14) rfl
theorem xms_17 {i : Nat} {z : Int} : wSet (xm G q V ++ Y) (q 17) (.inl (G.2.1, 40, .inl (upd (fun j => iI (V 17 j)) i (iI z)))) (xm G q (up2 V 17 i z) ++ Y) := by
  have e : upd (fun j => iI (V 17 j)) i (iI z) = fun j => iI (up2 V 17 i z 17 j) := by
    funext j
    by_cases hj : j = i <;> simp [upd, up2, va_up, hj]
  rw [e]
  exact wSet_at 14 rfl rfl
theorem xmm_18 : (q 18, .inl (G.2.1, 40, .inl (fun j => iI (V 18 j)))) ∈ xm G q V ++ Y := List.mem_of_getElem? (i := 15) rfl
theorem xms_18 {i : Nat} {z : Int} : wSet (xm G q V ++ Y) (q 18) (.inl (G.2.1, 40, .inl (upd (fun j => iI (V 18 j)) i (iI z)))) (xm G q (up2 V 18 i z) ++ Y) := by
  have e : upd (fun j => iI (V 18 j)) i (iI z) = fun j => iI (up2 V 18 i z 18 j) := by
    funext j
    by_cases hj : j = i <;> simp [upd, up2, va_up, hj]
  rw [e]
  exact wSet_at 15 rfl rfl
theorem xmm_19 : (q 19, .inl (G.2.1, 40, .inl (fun j => iI (V 19 j)))) ∈ xm G q V ++ Y := List.mem_of_getElem? (i := 16) rfl
theorem xms_19 {i : Nat} {z : Int} : wSet (xm G q V ++ Y) (q 19) (.inl (G.2.1, 40, .inl (upd (fun j => iI (V 19 j)) i (iI z)))) (xm G q (up2 V 19 i z) ++ Y) := by
  have e : upd (fun j => iI (V 19 j)) i (iI z) = fun j => iI (up2 V 19 i z 19 j) := by
    funext j
    by_cases hj : j = i <;> simp [upd, up2, va_up, hj]
  rw [e]
  exact wSet_at 16 rfl rfl
theorem xmm_20 : (q 20, .inl (G.2.2.1, 40, .inl (fun j => iI (V 20 j)))) ∈ xm G q V ++ Y := List.mem_of_getElem? (i := 17) rfl
theorem xms_20 {i : Nat} {z : Int} : wSet (xm G q V ++ Y) (q 20) (.inl (G.2.2.1, 40, .inl (upd (fun j => iI (V 20 j)) i (iI z)))) (xm G q (up2 V 20 i z) ++ Y) := by
  have e : upd (fun j => iI (V 20 j)) i (iI z) = fun j => iI (up2 V 20 i z 20 j) := by
    funext j
    by_cases hj : j = i <;> simp [upd, up2, va_up, hj]
  rw [e]
  exact wSet_at 17 rfl rfl
theorem xmm_22 : (q 22, .inl (G.2.1, 5, .inl (fun j => iI (V 22 j)))) ∈ xm G q V ++ Y := List.mem_of_getElem? (i := 18) rfl
theorem xms_22 {i : Nat} {z : Int} : wSet (xm G q V ++ Y) (q 22) (.inl (G.2.1, 5, .inl (upd (fun j => iI (V 22 j)) i (iI z)))) (xm G q (up2 V 22 i z) ++ Y) := by
  have e : upd (fun j => iI (V 22 j)) i (iI z) = fun j => iI (up2 V 22 i z 22 j) := by
    funext j
    by_cases hj : j = i <;> simp [upd, up2, va_up, hj]
  rw [e]
  exact wSet_at 18 rfl rfl
theorem xmm_23 : (q 23, .inl (G.2.1, 5, .inl (fun j => iI (V 23 j)))) ∈ xm G q V ++ Y := List.mem_of_getElem? (i := 19) rfl
theorem xms_23 {i : Nat} {z : Int} : wSet (xm G q V ++ Y) (q 23) (.inl (G.2.1, 5, .inl (upd (fun j => iI (V 23 j)) i (iI z)))) (xm G q (up2 V 23 i z) ++ Y) := by
  have e : upd (fun j => iI (V 23 j)) i (iI z) = fun j => iI (up2 V 23 i z 23 j) := by
    funext j
    by_cases hj : j = i <;> simp [upd, up2, va_up, hj]
  rw [e]
  exact wSet_at 19 rfl rfl
theorem xmm_24 : (q 24, .inl (G.2.1, 40, .inl (fun j => iI (V 24 j)))) ∈ xm G q V ++ Y := List.mem_of_getElem? (i := 20) rfl
theorem xms_24 {i : Nat} {z : Int} : wSet (xm G q V ++ Y) (q 24) (.inl (G.2.1, 40, .inl (upd (fun j => iI (V 24 j)) i (iI z)))) (xm G q (up2 V 24 i z) ++ Y) := by
  have e : upd (fun j => iI (V 24 j)) i (iI z) = fun j => iI (up2 V 24 i z 24 j) := by
    funext j
    by_cases hj : j = i <;> simp [upd, up2, va_up, hj]
  rw [e]
  exact wSet_at 20 rfl rfl
theorem xms_5 {z : Int} : wSet (xm G q V ++ Y) (q 30) (.inr (7, [.ref (q 0), .ref (q 1), .ref (q 2), .ref (q 3), .ref (q 4), .int (iI z), .ref (q 6), .int (iI (V 7 0)), .ref (q 8), .int (iI (V 9 0)), .ref (q 10), .ref (q 11), .ref (q 12), .ref (q 13), .int (iI (V 14 0)), .ref (q 15), .ref (q 16), .ref (q 17), .ref (q 18), .ref (q 19), .ref (q 20), .int (iI (V 21 0)), .ref (q 22), .ref (q 23), .ref (q 24), .int (iI (V 25 0))])) (xm G q (up2 V 5 0 z) ++ Y) := wSet_at 0 rfl rfl
theorem xms_7 {z : Int} : wSet (xm G q V ++ Y) (q 30) (.inr (7, [.ref (q 0), .ref (q 1), .ref (q 2), .ref (q 3), .ref (q 4), .int (iI (V 5 0)), .ref (q 6), .int (iI z), .ref (q 8), .int (iI (V 9 0)), .ref (q 10), .ref (q 11), .ref (q 12), .ref (q 13), .int (iI (V 14 0)), .ref (q 15), .ref (q 16), .ref (q 17), .ref (q 18), .ref (q 19), .ref (q 20), .int (iI (V 21 0)), .ref (q 22), .ref (q 23), .ref (q 24), .int (iI (V 25 0))])) (xm G q (up2 V 7 0 z) ++ Y) := wSet_at 0 rfl rfl
theorem xms_9 {z : Int} : wSet (xm G q V ++ Y) (q 30) (.inr (7, [.ref (q 0), .ref (q 1), .ref (q 2), .ref (q 3), .ref (q 4), .int (iI (V 5 0)), .ref (q 6), .int (iI (V 7 0)), .ref (q 8), .int (iI z), .ref (q 10), .ref (q 11), .ref (q 12), .ref (q 13), .int (iI (V 14 0)), .ref (q 15), .ref (q 16), .ref (q 17), .ref (q 18), .ref (q 19), .ref (q 20), .int (iI (V 21 0)), .ref (q 22), .ref (q 23), .ref (q 24), .int (iI (V 25 0))])) (xm G q (up2 V 9 0 z) ++ Y) := wSet_at 0 rfl rfl
theorem xms_14 {z : Int} : wSet (xm G q V ++ Y) (q 30) (.inr (7, [.ref (q 0), .ref (q 1), .ref (q 2), .ref (q 3), .ref (q 4), .int (iI (V 5 0)), .ref (q 6), .int (iI (V 7 0)), .ref (q 8), .int (iI (V 9 0)), .ref (q 10), .ref (q 11), .ref (q 12), .ref (q 13), .int (iI z), .ref (q 15), .ref (q 16), .ref (q 17), .ref (q 18), .ref (q 19), .ref (q 20), .int (iI (V 21 0)), .ref (q 22), .ref (q 23), .ref (q 24), .int (iI (V 25 0))])) (xm G q (up2 V 14 0 z) ++ Y) := wSet_at 0 rfl rfl
theorem xms_21 {z : Int} : wSet (xm G q V ++ Y) (q 30) (.inr (7, [.ref (q 0), .ref (q 1), .ref (q 2), .ref (q 3), .ref (q 4), .int (iI (V 5 0)), .ref (q 6), .int (iI (V 7 0)), .ref (q 8), .int (iI (V 9 0)), .ref (q 10), .ref (q 11), .ref (q 12), .ref (q 13), .int (iI (V 14 0)), .ref (q 15), .ref (q 16), .ref (q 17), .ref (q 18), .ref (q 19), .ref (q 20), .int (iI z), .ref (q 22), .ref (q 23), .ref (q 24), .int (iI (V 25 0))])) (xm G q (up2 V 21 0 z) ++ Y) := wSet_at 0 rfl rfl
theorem xms_25 {z : Int} : wSet (xm G q V ++ Y) (q 30) (.inr (7, [.ref (q 0), .ref (q 1), .ref (q 2), .ref (q 3), .ref (q 4), .int (iI (V 5 0)), .ref (q 6), .int (iI (V 7 0)), .ref (q 8), .int (iI (V 9 0)), .ref (q 10), .ref (q 11), .ref (q 12), .ref (q 13), .int (iI (V 14 0)), .ref (q 15), .ref (q 16), .ref (q 17), .ref (q 18), .ref (q 19), .ref (q 20), .int (iI (V 21 0)), .ref (q 22), .ref (q 23), .ref (q 24), .int (iI z)])) (xm G q (up2 V 25 0 z) ++ Y) := wSet_at 0 rfl rfl
end
end
section
/-! counting -/
def shc (f g : Nat → Int) : Nat → Int
  | 0 => 0
  | n + 1 => shc f g n + if f n ≠ 0 ∧ f n = g n then 1 else 0
theorem shc_rng (f g : Nat → Int) : ∀ n : Nat, 0 ≤ shc f g n ∧ shc f g n ≤ n
  | 0 => ⟨Int.le_refl 0, Int.le_refl 0⟩
  | n + 1 => by
    have h := shc_rng f g n
    simp only [shc]
    split <;> omega
theorem shc_cong {f g f' g' : Nat → Int} : ∀ n : Nat, (∀ k, k < n → f k = f' k ∧ g k = g' k) → shc f g n = shc f' g' n
  | 0, _ => rfl
  | n + 1, h => by
    have e := shc_cong n (fun k hk => h k (by omega))
    have h1 := h n (by omega)
    simp only [shc, e, h1.1, h1.2]
theorem shc_pos {f g : Nat → Int} : ∀ n : Nat, 0 < shc f g n ↔ ∃ k, k < n ∧ f k ≠ 0 ∧ f k = g k
  | 0 => by simp [shc]
  | n + 1 => by
    have e := shc_pos (f := f) (g := g) n
    have r := shc_rng f g n
    simp only [shc]
    constructor
    · intro h
      by_cases hc : f n ≠ 0 ∧ f n = g n
      · exact ⟨n, by omega, hc⟩
      · rw [if_neg hc] at h
        obtain ⟨k, hk, h2⟩ := e.mp (by omega)
        exact ⟨k, by omega, h2⟩
    · intro ⟨k, hk, h2⟩
      by_cases hkn : k = n
      · subst hkn
        rw [if_pos h2]
        omega
      · have := e.mpr ⟨k, by omega, h2⟩
        split <;> omega
/-- the copy at a, whose readings lie in the row r -/
def isC (L : List Nat) (K : Nat → Nat) (F : Nat → Nat → Option Nat) (N : Nat → Nat) (a r : Nat) : Prop := a ∈ L ∧ K a = 0 ∧ F 2 a = some r ∧ r ∈ L ∧ K r = 7 ∧ N r = 24
def rg9 (f : Nat → Int) : Prop := ∀ k, k < 24 → 0 ≤ f k ∧ f k ≤ 9
/-- a list of the class: its cell a, its row e, cnt elements ad 0 .. -/
def LST (L : List Nat) (K : Nat → Nat) (I : Nat → Nat → Int) (F : Nat → Nat → Option Nat) (N : Nat → Nat) (O : Nat → Nat → Option Nat) (de a e cnt : Nat) (ad : Nat → Nat) : Prop :=
  a ∈ L ∧ K a = 6 ∧ I 16 a = (cnt : Int) ∧ F 14 a = some e ∧ ((cnt = 0 ∧ e = de) ∨ (e ∈ L ∧ K e = 9 ∧ cnt ≤ N e ∧ 2 ≤ N e ∧ N e ≤ 200 ∧ ∀ i, i < cnt → O e i = some (ad i)))
end
