theorem va_Duq {A : Nat → Prop} {ws : va_W} (hD : va_D A ws) {i j a : Nat} {e f : va_E} (hi : ws[i]? = some (a, e)) (hj : ws[j]? = some (a, f)) : i = j := hD.1 i j _ _ hi hj rfl
/-- a world with another thing at a's place -/
def wSet (ws : va_W) (a : Nat) (e : va_E) (ws' : va_W) : Prop := ∀ (A : Nat → Prop) (k : Nat) (e0 : va_E), va_D A ws → ws[k]? = some (a, e0) → ws.set k (a, e) = ws'
theorem wSet_at {ws ws' : va_W} {a : Nat} {e e0 : va_E} (k : Nat) (h : ws[k]? = some (a, e0)) (hr : ws.set k (a, e) = ws') : wSet ws a e ws' := fun A k2 e2 hD hk => by
  rw [va_Duq hD hk h]
  exact hr
def wNew (ws : va_W) (a : Nat) (e : va_E) (ws' : va_W) : Prop := (∀ q ∈ ws, q.1 ≠ a) → ws ++ [(a, e)] = ws'
theorem va_Dnew {A : Nat → Prop} {ws : va_W} {a : Nat} {e : va_E} (hD : va_D A (ws ++ [(a, e)])) : ∀ q ∈ ws, q.1 ≠ a := by
  intro q hq hqa
  obtain ⟨i, hi⟩ := List.getElem?_of_mem hq
  have hl : i < ws.length := (List.getElem?_eq_some_iff.mp hi).1
  have h1 : (ws ++ [(a, e)])[i]? = some q := by rw [List.getElem?_append_left hl]; exact hi
  have h2 : (ws ++ [(a, e)])[ws.length]? = some (a, e) := by rw [List.getElem?_append_right (Nat.le_refl _)]; simp
  have := hD.1 i ws.length q (a, e) h1 h2 hqa
  omega
theorem tysG_0 (G : GG) : (tysG G)[0]? = some (G.2.1, .int) := rfl
/-- an array's class by its name is one -/
theorem va_Kcls {D : va_G} {tys : List (ClassId × FieldType)} {U : State} {cA cB : ClassId} {ty : FieldType} (t0 : Nat) (h : va_K D vwCl tys U) (h0 : tys[t0]? = some (cA, ty)) {tys2 : List (ClassId × FieldType)} (h2 : va_K D vwCl tys2 U) (t1 : Nat) (h1 : tys2[t1]? = some (cB, ty)) : cB = cA := by
  have g0 := (h.2 t0 _ h0).2
  have g1 := (h2.2 t1 _ h1).2
  cases ty with
  | object C =>
    obtain ⟨_, _, _, _, _, e0⟩ := g0
    obtain ⟨_, _, _, _, _, e1⟩ := g1
    exact Option.some.inj (e1.symm.trans e0)
  | _ =>
    have e0 : U.vm.findClass _ = some cA := g0
    have e1 : U.vm.findClass _ = some cB := g1
    exact Option.some.inj (e1.symm.trans e0)
section
variable {κ : KxT} {cc : ByteArray} {nL : Nat} {Ts : List Cond} {own : String} {ret : Option FieldType} {rm0 : Room} {G : GG} {base mc ms : Nat} {post : Option Value → va_W → Prop} {exc : String → va_W → Prop} {cells slots pc pc' : Nat} {lv : List (Nat × Value)} {st : List Value} {ws ws' : va_W}
theorem Cx.hts (C : Cx κ cc nL Ts own ret rm0 G base) {w : Cond} (h : w ∈ Ts) : w.before (ka κ) (ks κ) = true := C.2.2.2.2.1 w h
theorem Cx.ev (C : Cx κ cc nL Ts own ret rm0 G base) : Ev G base (ks κ) (ks κ).heap := C.2.2.2.2.2.1
theorem Cx.K (C : Cx κ cc nL Ts own ret rm0 G base) : va_K G.1 vwCl (tysG G) (ks κ) := C.2.2.2.2.2.1.1
theorem Cx.ow (C : Cx κ cc nL Ts own ret rm0 G base) : (ks κ).vm.findClass own = some (km κ).cls := C.2.2.2.1
theorem Cx.bs (C : Cx κ cc nL Ts own ret rm0 G base) : base ≤ (ks κ).heap.size := C.2.2.2.2.2.2.2.2.1
theorem Cx.A (C : Cx κ cc nL Ts own ret rm0 G base) : ∀ q, (ks κ).heap.size ≤ q → Bd base q := fun _ h => Nat.le_trans C.bs h
theorem Cx.R (C : Cx κ cc nL Ts own ret rm0 G base) : kR κ = rm0 := C.2.2.2.2.2.2.2.2.2.2
theorem z_get (C : Cx κ cc nL Ts own ret rm0 G base) {Cn ref : String} {T : u_T} {N ci index a : Nat} {fs : List Value} {v : Value} (he : (a, .inr (ci, fs)) ∈ ws) (hc : vwCl[ci]? = some (Cn, T, N)) (hin : ∀ w ∈ u_ws Cn T N, w ∈ Ts) (k : Nat) (hk : k < N) (hlink : Cond.fieldLink own index ref (T k).2.1 (T k).2.2.1 ∈ Ts) (hr : (T k).1 = ref) (hv : fs[k]? = some v) (d : decode cc pc = .ok (.getfield index, 3)) (hn : pc + 3 = pc')
    (kk : Z κ nL G base mc ms post exc cells slots pc' lv (v :: st) ws) : Z κ nL G base mc ms post exc cells slots pc lv (.ref a :: st) ws := by
  subst hn
  obtain ⟨q0, hq⟩ := List.getElem?_of_mem he
  exact fun ls H locs h hP hD hS => va_get C.1 C.2.1 C.2.2.2.2.1 hin C.ow C.K hP q0 hq hc k hk (C.hts hlink) (fun x hx => by rw [← hr]; exact hx) hv d (kk ls H locs h hP hD hS)
theorem z_put (C : Cx κ cc nL Ts own ret rm0 G base) {Cn ref : String} {T : u_T} {N ci index a : Nat} {fs : List Value} {v : Value} {ty : FieldType} (ty0 : Nat → FieldType) (hty : ∀ k, k < N → parseFieldDescriptor (T k).2.2.1 = some (ty0 k)) (hnm : ∀ a, a < N → ∀ b, b < N → a ≠ b → (T a).2.1 ≠ (T b).2.1) (he : (a, .inr (ci, fs)) ∈ ws) (hc : vwCl[ci]? = some (Cn, T, N)) (hin : ∀ w ∈ u_ws Cn T N, w ∈ Ts) (k : Nat) (hk : k < N) (hlink : Cond.fieldLink own index ref (T k).2.1 (T k).2.2.1 ∈ Ts) (hr : (T k).1 = ref) (hfin : (T k).2.2.2 = false) (hd : ty0 k = ty) (hnr : narrow ty v = v) (hfit : fits ty v = true) (hl : k < fs.length) (d : decode cc pc = .ok (.putfield index, 3)) (hn : pc + 3 = pc') (hs : wSet ws a (.inr (ci, fs.set k v)) ws')
    (kk : Z κ nL G base mc ms post exc cells slots pc' lv st ws') : Z κ nL G base mc ms post exc cells slots pc lv (v :: .ref a :: st) ws := by
  subst hn
  obtain ⟨q0, hq⟩ := List.getElem?_of_mem he
  exact fun ls H locs h hP hD hS => va_put C.1 C.2.1 C.2.2.2.2.1 hin ty0 hty hnm C.ow C.K hP hD hS q0 hq hc k hk (C.hts hlink) (fun x hx => by rw [← hr]; exact hx) hfin (by rw [← hd]; exact hty k hk) hnr hfit hl d (fun H1 locs1 hP1 hD1 hS1 => kk ls H1 locs1 h (by rw [← hs _ q0 _ hD hq]; exact hP1) (by rw [← hs _ q0 _ hD hq]; exact hD1) hS1)
theorem z_putF (C : Cx κ cc nL Ts own ret rm0 G base) (hi : (kM κ).name = "<init>") {Cn : String} {T : u_T} {N ci index a : Nat} {fs : List Value} {v : Value} {ty : FieldType} (ty0 : Nat → FieldType) (hty : ∀ k, k < N → parseFieldDescriptor (T k).2.2.1 = some (ty0 k)) (hnm : ∀ a, a < N → ∀ b, b < N → a ≠ b → (T a).2.1 ≠ (T b).2.1) (he : (a, .inr (ci, fs)) ∈ ws) (hc : vwCl[ci]? = some (Cn, T, N)) (hin : ∀ w ∈ u_ws Cn T N, w ∈ Ts) (k : Nat) (hk : k < N) (hlink : Cond.fieldLink own index own (T k).2.1 (T k).2.2.1 ∈ Ts) (hr : (T k).1 = own) (hfin : (T k).2.2.2 = true) (hd : ty0 k = ty) (hnr : narrow ty v = v) (hfit : fits ty v = true) (hl : k < fs.length) (d : decode cc pc = .ok (.putfield index, 3)) (hn : pc + 3 = pc') (hs : wSet ws a (.inr (ci, fs.set k v)) ws')
    (kk : Z κ nL G base mc ms post exc cells slots pc' lv st ws') : Z κ nL G base mc ms post exc cells slots pc lv (v :: .ref a :: st) ws := by
  subst hn
  obtain ⟨q0, hq⟩ := List.getElem?_of_mem he
  exact fun ls H locs h hP hD hS => va_putF C.1 C.2.1 C.2.2.2.2.1 hin ty0 hty hnm C.ow C.K hP hD hS q0 hq hc k hk (C.hts hlink) (fun x hx => by rw [← hr]; exact hx) hfin hi hr (by rw [← hd]; exact hty k hk) hnr hfit hl d (fun H1 locs1 hP1 hD1 hS1 => kk ls H1 locs1 h (by rw [← hs _ q0 _ hD hq]; exact hP1) (by rw [← hs _ q0 _ hD hq]; exact hD1) hS1)
theorem z_iald (C : Cx κ cc nL Ts own ret rm0 G base) {a n : Nat} {f : Nat → Int32} {z : Int} {x : Int32} (he : (a, .inl (G.2.1, n, .inl f)) ∈ ws) (hz : 0 ≤ z ∧ z < n) (hb : z < 2147483648) (hv : f z.toNat = x) (d : decode cc pc = .ok (.iaload, 1)) (hn : pc + 1 = pc')
    (kk : Z κ nL G base mc ms post exc cells slots pc' lv (.int x :: st) ws) : Z κ nL G base mc ms post exc cells slots pc lv (.int (iI z) :: .ref a :: st) ws := by
  subst hn
  obtain ⟨q0, hq⟩ := List.getElem?_of_mem he
  exact fun ls H locs h hP hD hS => va_iald C.1 C.2.1 C.K hP q0 0 hq rfl (iI_in hz hb) d (by rw [iI_cl ⟨hz.1, hb⟩, hv]; exact kk ls H locs h hP hD hS)
theorem z_zald (C : Cx κ cc nL Ts own ret rm0 G base) {a n : Nat} {f : Nat → Int32} {z : Int} {x : Int32} (he : (a, .inl (G.2.2.1, n, .inl f)) ∈ ws) (hz : 0 ≤ z ∧ z < n) (hb : z < 2147483648) (hv : f z.toNat = x) (d : decode cc pc = .ok (.baload, 1)) (hn : pc + 1 = pc')
    (kk : Z κ nL G base mc ms post exc cells slots pc' lv (.int x :: st) ws) : Z κ nL G base mc ms post exc cells slots pc lv (.int (iI z) :: .ref a :: st) ws := by
  subst hn
  obtain ⟨q0, hq⟩ := List.getElem?_of_mem he
  exact fun ls H locs h hP hD hS => va_zald C.1 C.2.1 C.K hP q0 1 hq rfl (iI_in hz hb) d (by rw [iI_cl ⟨hz.1, hb⟩, hv]; exact kk ls H locs h hP hD hS)
theorem z_aald (C : Cx κ cc nL Ts own ret rm0 G base) {a n : Nat} {f : Nat → Option Nat} {z : Int} {r : Option Nat} (he : (a, .inl (G.2.2.2.1, n, .inr (.inr (.inr (.inr f))))) ∈ ws) (hz : 0 ≤ z ∧ z < n) (hb : z < 2147483648) (hv : f z.toNat = r) (d : decode cc pc = .ok (.aaload, 1)) (hn : pc + 1 = pc')
    (kk : Z κ nL G base mc ms post exc cells slots pc' lv (va_rf r :: st) ws) : Z κ nL G base mc ms post exc cells slots pc lv (.int (iI z) :: .ref a :: st) ws := by
  subst hn
  obtain ⟨q0, hq⟩ := List.getElem?_of_mem he
  exact fun ls H locs h hP hD hS => va_aldq C.1 C.2.1 C.K hP q0 2 hq rfl (iI_in hz hb) d (by rw [iI_cl ⟨hz.1, hb⟩, hv]; exact kk ls H locs h hP hD hS)
theorem z_lald (C : Cx κ cc nL Ts own ret rm0 G base) {a n : Nat} {f : Nat → Int64} {z : Int} {x : Int64} (he : (a, .inl (G.2.2.2.2.1, n, .inr (.inl f))) ∈ ws) (hz : 0 ≤ z ∧ z < n) (hb : z < 2147483648) (hv : f z.toNat = x) (d : decode cc pc = .ok (.laload, 1)) (hn : pc + 1 = pc')
    (kk : Z κ nL G base mc ms post exc cells slots pc' lv (.long x :: st) ws) : Z κ nL G base mc ms post exc cells slots pc lv (.int (iI z) :: .ref a :: st) ws := by
  subst hn
  obtain ⟨q0, hq⟩ := List.getElem?_of_mem he
  exact fun ls H locs h hP hD hS => va_lald C.1 C.2.1 C.K hP q0 3 hq rfl (iI_in hz hb) d (by rw [iI_cl ⟨hz.1, hb⟩, hv]; exact kk ls H locs h hP hD hS)
theorem z_iast (C : Cx κ cc nL Ts own ret rm0 G base) {a n : Nat} {f : Nat → Int32} {z : Int} {x : Int32} (he : (a, .inl (G.2.1, n, .inl f)) ∈ ws) (hz : 0 ≤ z ∧ z < n) (hb : z < 2147483648) (d : decode cc pc = .ok (.iastore, 1)) (hn : pc + 1 = pc') (hs : wSet ws a (.inl (G.2.1, n, .inl (upd f z.toNat x))) ws')
    (kk : Z κ nL G base mc ms post exc cells slots pc' lv st ws') : Z κ nL G base mc ms post exc cells slots pc lv (.int x :: .int (iI z) :: .ref a :: st) ws := by
  subst hn
  obtain ⟨q0, hq⟩ := List.getElem?_of_mem he
  exact fun ls H locs h hP hD hS => va_iast C.1 C.2.1 C.K hP hD hS q0 0 hq rfl (iI_in hz hb) d (fun H1 locs1 hP1 hD1 hS1 => by
    rw [iI_cl ⟨hz.1, hb⟩, hs _ q0 _ hD hq] at hP1 hD1
    exact kk ls H1 locs1 h hP1 hD1 hS1)
theorem z_zast (C : Cx κ cc nL Ts own ret rm0 G base) {a n : Nat} {f : Nat → Int32} {z b : Int} (he : (a, .inl (G.2.2.1, n, .inl f)) ∈ ws) (hz : 0 ≤ z ∧ z < n) (hb : z < 2147483648) (hbb : b = 0 ∨ b = 1) (d : decode cc pc = .ok (.bastore, 1)) (hn : pc + 1 = pc') (hs : wSet ws a (.inl (G.2.2.1, n, .inl (upd f z.toNat (iI b)))) ws')
    (kk : Z κ nL G base mc ms post exc cells slots pc' lv st ws') : Z κ nL G base mc ms post exc cells slots pc lv (.int (iI b) :: .int (iI z) :: .ref a :: st) ws := by
  subst hn
  obtain ⟨q0, hq⟩ := List.getElem?_of_mem he
  exact fun ls H locs h hP hD hS => va_zast C.1 C.2.1 C.K hP hD hS q0 1 hq rfl (iI_in hz hb) d (fun H1 locs1 hP1 hD1 hS1 => by
    rw [iI_cl ⟨hz.1, hb⟩, iI_nar hbb, hs _ q0 _ hD hq] at hP1 hD1
    exact kk ls H1 locs1 h hP1 hD1 hS1)
theorem z_last (C : Cx κ cc nL Ts own ret rm0 G base) {a n : Nat} {f : Nat → Int64} {z : Int} {x : Int64} (he : (a, .inl (G.2.2.2.2.1, n, .inr (.inl f))) ∈ ws) (hz : 0 ≤ z ∧ z < n) (hb : z < 2147483648) (d : decode cc pc = .ok (.lastore, 1)) (hn : pc + 1 = pc') (hs : wSet ws a (.inl (G.2.2.2.2.1, n, .inr (.inl (vp_updL f z.toNat x)))) ws')
    (kk : Z κ nL G base mc ms post exc cells slots pc' lv st ws') : Z κ nL G base mc ms post exc cells slots pc lv (.long x :: .int (iI z) :: .ref a :: st) ws := by
  subst hn
  obtain ⟨q0, hq⟩ := List.getElem?_of_mem he
  exact fun ls H locs h hP hD hS => va_last C.1 C.2.1 C.K hP hD hS q0 3 hq rfl (iI_in hz hb) d (fun H1 locs1 hP1 hD1 hS1 => by
    rw [iI_cl ⟨hz.1, hb⟩, hs _ q0 _ hD hq] at hP1 hD1
    exact kk ls H1 locs1 h hP1 hD1 hS1)
theorem z_aast (C : Cx κ cc nL Ts own ret rm0 G base) {a n v ci : Nat} {r : vw_C} {fs : List Value} {f : Nat → Option Nat} {z : Int} (he : (a, .inl (G.2.2.2.1, n, .inr (.inr (.inr (.inr f))))) ∈ ws) (hv : (v, .inr (ci, fs)) ∈ ws) (hc : vwCl[ci]? = some r) (hca : (r.1, "java/lang/Object") ∈ castL) (hz : 0 ≤ z ∧ z < n) (hb : z < 2147483648) (d : decode cc pc = .ok (.aastore, 1)) (hn : pc + 1 = pc') (hs : wSet ws a (.inl (G.2.2.2.1, n, .inr (.inr (.inr (.inr (va_up f z.toNat (some v))))))) ws')
    (kk : Z κ nL G base mc ms post exc cells slots pc' lv st ws') : Z κ nL G base mc ms post exc cells slots pc lv (.ref v :: .int (iI z) :: .ref a :: st) ws := by
  subst hn
  obtain ⟨q0, hq⟩ := List.getElem?_of_mem he
  obtain ⟨q1, hq1⟩ := List.getElem?_of_mem hv
  exact fun ls H locs h hP hD hS => va_astqO C.1 C.2.1 C.K hP hD hS q0 2 q1 ci hq rfl (C.ev.2.2.2.2.1 _ hca) hq1 hc (iI_in hz hb) d (fun H1 locs1 hP1 hD1 hS1 => by
    rw [iI_cl ⟨hz.1, hb⟩, hs _ q0 _ hD hq] at hP1 hD1
    exact kk ls H1 locs1 h hP1 hD1 hS1)
theorem z_alen (C : Cx κ cc nL Ts own ret rm0 G base) {a : Nat} {cA : ClassId} {x : vp_A} {ty : FieldType} (t0 : Nat) (he : (a, .inl (cA, x)) ∈ ws) (ht : (tysG G)[t0]? = some (cA, ty)) (d : decode cc pc = .ok (.arraylength, 1)) (hn : pc + 1 = pc')
    (kk : Z κ nL G base mc ms post exc cells slots pc' lv (.int (iI (x.1 : Int)) :: st) ws) : Z κ nL G base mc ms post exc cells slots pc lv (.ref a :: st) ws := by
  subst hn
  obtain ⟨q0, hq⟩ := List.getElem?_of_mem he
  exact fun ls H locs h hP hD hS => va_alen C.1 C.2.1 C.K hP q0 t0 hq ht rfl d (kk ls H locs h hP hD hS)
theorem z_new (C : Cx κ cc nL Ts own ret rm0 G base) {Cn : String} {T : u_T} {N ci index : Nat} {fs : List Value} (ty : Nat → FieldType) (hty : ∀ k, k < N → parseFieldDescriptor (T k).2.2.1 = some (ty k)) (hin : ∀ w ∈ u_ws Cn T N, w ∈ Ts) (hcl : Cond.classLink own index Cn ∈ Ts) (hi : Cond.instantiable Cn N ∈ Ts) (hini : Cond.initialized Cn ∈ Ts) (hc : vwCl[ci]? = some (Cn, T, N)) (hfs : ∀ j, j < N → defaultValue (ty j) = vp_V fs j) (h1 : cells + 1 ≤ rm0.cells) (h2 : slots + N ≤ rm0.slots) (d : decode cc pc = .ok (.new index, 3)) (hn : pc + 3 = pc')
    (kk : ∀ q : Nat, (∀ z ∈ ws, z.1 ≠ q) → Z κ nL G base mc ms post exc (cells + 1) (slots + N) pc' lv (.ref q :: st) (ws ++ [(q, .inr (ci, fs))])) : Z κ nL G base mc ms post exc cells slots pc lv st ws := by
  subst hn
  exact fun ls H locs h hP hD hS => va_new C.1 C.2.1 C.2.2.2.2.1 hin ty hty C.ow (C.hts hcl) (C.hts hi) (C.hts hini) C.K hP hD hS C.A hc hfs (by rw [C.R]; exact h1) (by rw [C.R]; exact h2) d (fun q H1 hP1 hD1 hS1 => kk q (va_Dnew hD1) ls H1 locs h hP1 hD1 hS1)
theorem z_newa (C : Cx κ cc nL Ts own ret rm0 G base) {atype : ArrayType} {ty : FieldType} {cA : ClassId} {z : Int} {N' : Nat} {a0 : vp_A} (t0 : Nat) (ht : (tysG G)[t0]? = some (cA, ty)) (harr : Cond.arrayClass (newarray.typeOf atype) ∈ Ts) (hty : newarray.typeOf atype = ty) (ha : ∀ cA : ClassId, vp_cell cA a0 = arrV cA N' (fun _ => defaultValue ty)) (hz : z = (N' : Int)) (hb : N' ≤ 1000000) (hcb : componentBytes ty ≤ 8) (h1 : cells + 1 ≤ rm0.cells) (h2 : slots + N' ≤ rm0.slots) (d : decode cc pc = .ok (.newarray atype, 2)) (hn : pc + 2 = pc')
    (kk : ∀ q : Nat, (∀ z ∈ ws, z.1 ≠ q) → Z κ nL G base mc ms post exc (cells + 1) (slots + N') pc' lv (.ref q :: st) (ws ++ [(q, .inl (cA, a0))])) : Z κ nL G base mc ms post exc cells slots pc lv (.int (iI z) :: st) ws := by
  subst hn
  subst hz
  have hb3 : N' * componentBytes ty ≤ 536870912 := Nat.le_trans (Nat.mul_le_mul hb hcb) (by decide)
  exact fun ls H locs h hP hD hS => va_newa C.1 C.2.1 (C.hts harr) hty C.K hP hD hS C.A ha (by rw [iI_lt0 (by omega)]; omega) (by rw [iI_cl (by omega)]; exact Int.toNat_natCast N') hb3 (by rw [C.R]; exact h1) (by rw [C.R]; exact h2) d (fun q cB H1 hK1 hP1 hD1 hS1 => by
    have e : cB = cA := va_Kcls t0 C.K ht hK1 4 (by show (_ ++ _)[4]? = _; rfl)
    subst e
    exact kk q (va_Dnew hD1) ls H1 locs h hP1 hD1 hS1)
theorem z_newq (C : Cx κ cc nL Ts own ret rm0 G base) {index : Nat} {z : Int} {N' : Nat} (hcl : Cond.classLink own index "java/lang/Object" ∈ Ts) (hz : z = (N' : Int)) (hb : N' ≤ 1000000) (h1 : cells + 1 ≤ rm0.cells) (h2 : slots + N' ≤ rm0.slots) (d : decode cc pc = .ok (.anewarray index, 3)) (hn : pc + 3 = pc')
    (kk : ∀ q : Nat, (∀ z ∈ ws, z.1 ≠ q) → Z κ nL G base mc ms post exc (cells + 1) (slots + N') pc' lv (.ref q :: st) (ws ++ [(q, .inl (G.2.2.2.1, N', .inr (.inr (.inr (.inr (fun _ => none))))))])) : Z κ nL G base mc ms post exc cells slots pc lv (.int (iI z) :: st) ws := by
  subst hn
  subst hz
  exact fun ls H locs h hP hD hS => va_newq C.1 C.2.1 C.ow (C.hts hcl) C.ev.2.2.2.2.2.2.2.2.1 C.K hP hD hS C.A (by rw [iI_lt0 (by omega)]; omega) ((iI_cl (by omega)).trans (Int.toNat_natCast N')) (by omega) (by rw [C.R]; exact h1) (by rw [C.R]; exact h2) d (fun q cB H1 hK1 hP1 hD1 hS1 => by
    have e : cB = G.2.2.2.1 := va_Kcls 2 C.K rfl hK1 4 (by show (_ ++ _)[4]? = _; rfl)
    subst e
    exact kk q (va_Dnew hD1) ls H1 locs h hP1 hD1 hS1)
theorem z_objInit (C : Cx κ cc nL Ts own ret rm0 G base) {idx a : Nat} (hl : Cond.methodLink own idx objectInit ∈ Ts) (hi : Cond.instanceMethod objectInit ∈ Ts) (hcd : Cond.code objectInit ⟨#[0xb1]⟩ 1 none ∈ Ts) (h1 : 1 ≤ rm0.frames) (h2 : (st.map fun v => v.category).sum + 12 ≤ rm0.locals) (d : decode cc pc = .ok (.invokespecial idx, 3)) (hn : pc + 3 = pc')
    (kk : Z κ nL G base mc ms post exc cells slots pc' lv st ws) : Z κ nL G base mc ms post exc cells slots pc lv (.ref a :: st) ws := by
  subst hn
  intro ls H locs h hP hD hS
  refine W.objInit C.1 C.2.1 C.ow (C.hts hl) (C.hts hi) (C.hts hcd) rfl (by rw [C.2.2.1]; exact h.1) rfl d (by rw [C.R]; exact h1) (by rw [C.R]; exact Nat.le_trans (by show 2 * 0 + _ + 12 ≤ _; omega) h2) ?_
  exact W.eq (g2 := F0 (km κ) (pc + 3) ls st) rfl (kk ls H locs h hP hD hS)
/-- a cast to the object's own class -/
theorem z_cast (C : Cx κ cc nL Ts own ret rm0 G base) {a ci index : Nat} {fs : List Value} {Cn : String} {T : u_T} {N : Nat} (he : (a, .inr (ci, fs)) ∈ ws) (hc : vwCl[ci]? = some (Cn, T, N)) (hlink : Cond.classLink own index Cn ∈ Ts) (d : decode cc pc = .ok (.checkcast index, 3)) (hn : pc + 3 = pc')
    (kk : Z κ nL G base mc ms post exc cells slots pc' lv (.ref a :: st) ws) : Z κ nL G base mc ms post exc cells slots pc lv (.ref a :: st) ws := by
  subst hn
  obtain ⟨q0, hq⟩ := List.getElem?_of_mem he
  exact fun ls H locs h hP hD hS => va_castS C.1 C.2.1 C.ow (C.hts hlink) ((C.K.1 ci _ hc).2) (va_recv C.K hP hc hq) d (kk ls H locs h hP hD hS)
theorem z_gets (C : Cx κ cc nL Ts own ret rm0 G base) {index : Nat} (hlink : Cond.fieldLink own index RJx4a65c "DEFAULTCAPACITY_EMPTY_ELEMENTDATA" "[Ljava/lang/Object;" ∈ Ts) (d : decode cc pc = .ok (.getstatic index, 3)) (hn : pc + 3 = pc')
    (kk : Z κ nL G base mc ms post exc cells slots pc' lv (.ref (gde G) :: st) ws) : Z κ nL G base mc ms post exc cells slots pc lv st ws := by
  subst hn
  exact fun ls H locs h hP hD hS => va_gets C.1 C.2.1 C.ev.2.2.2.2.2.2.2.2.2.1 hS C.ow (C.hts hlink) (fun x hx => hx) d (kk ls H locs h hP hD hS)
theorem z_delen (C : Cx κ cc nL Ts own ret rm0 G base) (d : decode cc pc = .ok (.arraylength, 1)) (hn : pc + 1 = pc')
    (kk : Z κ nL G base mc ms post exc cells slots pc' lv (.int (iI 0) :: st) ws) : Z κ nL G base mc ms post exc cells slots pc lv (.ref (gde G) :: st) ws := by
  subst hn
  exact fun ls H locs h hP hD hS => va_tlen C.1 C.2.1 C.ev.2.2.2.2.2.2.2.2.2.2 hS rfl d (kk ls H locs h hP hD hS)
theorem z_mmax (C : Cx κ cc nL Ts own ret rm0 G base) {index : Nat} {x y : Int32} (hl : Cond.methodLink own index Lib.Math.max.name ∈ Ts) (hst : Cond.static Lib.Math.max.name ∈ Ts) (hi : Cond.initialized "java/lang/Math" ∈ Ts) (hcd : Cond.code Lib.Math.max.name Lib.Math.max.code 2 (some .int) ∈ Ts) (h1 : 1 ≤ rm0.frames) (h2 : (st.map fun v => v.category).sum + 13 ≤ rm0.locals) (h3 : cells ≤ rm0.cells) (h4 : slots ≤ rm0.slots) (d : decode cc pc = .ok (.invokestatic index, 3)) (hn : pc + 3 = pc')
    (kk : Z κ nL G base mc ms post exc cells slots pc' lv (.int (if x < y then y else x) :: st) ws) : Z κ nL G base mc ms post exc cells slots pc lv (.int y :: .int x :: st) ws := by
  subst hn
  exact fun ls H locs h hP hD hS => va_mmax C.1 C.2.1 (C.2.2.1.trans h.1.symm) C.ow (C.hts hl) (C.hts hst) (C.hts hi) (C.hts hcd) (by rw [C.R]; exact h1) (by rw [C.R]; exact h2) (by rw [C.R]; exact h3) (by rw [C.R]; exact h4) d (kk ls H locs h hP hD hS)
theorem z_mmin (C : Cx κ cc nL Ts own ret rm0 G base) {index : Nat} {x y : Int32} (hl : Cond.methodLink own index Lib.Math.min.name ∈ Ts) (hst : Cond.static Lib.Math.min.name ∈ Ts) (hi : Cond.initialized "java/lang/Math" ∈ Ts) (hcd : Cond.code Lib.Math.min.name Lib.Math.min.code 2 (some .int) ∈ Ts) (h1 : 1 ≤ rm0.frames) (h2 : (st.map fun v => v.category).sum + 13 ≤ rm0.locals) (h3 : cells ≤ rm0.cells) (h4 : slots ≤ rm0.slots) (d : decode cc pc = .ok (.invokestatic index, 3)) (hn : pc + 3 = pc')
    (kk : Z κ nL G base mc ms post exc cells slots pc' lv (.int (if y < x then y else x) :: st) ws) : Z κ nL G base mc ms post exc cells slots pc lv (.int y :: .int x :: st) ws := by
  subst hn
  exact fun ls H locs h hP hD hS => va_mmin C.1 C.2.1 (C.2.2.1.trans h.1.symm) C.ow (C.hts hl) (C.hts hst) (C.hts hi) (C.hts hcd) (by rw [C.R]; exact h1) (by rw [C.R]; exact h2) (by rw [C.R]; exact h3) (by rw [C.R]; exact h4) d (kk ls H locs h hP hD hS)
theorem z_copyi (C : Cx κ cc nL Ts own ret rm0 G base) {index a a0 n0 n1 : Nat} {f g : Nat → Int32} {z : Int} (hl : Cond.methodLink own index arraycopyName ∈ Ts) (hnt : Cond.native arraycopyName ∈ Ts) (hst : Cond.static arraycopyName ∈ Ts) (hi : Cond.initialized "java/lang/System" ∈ Ts) (he0 : (a0, .inl (G.2.1, n0, .inl f)) ∈ ws) (he1 : (a, .inl (G.2.1, n1, .inl g)) ∈ ws) (hz : 0 ≤ z ∧ z ≤ n0 ∧ z ≤ n1) (hb : z < 2147483648) (h1 : 1 ≤ rm0.frames) (h2 : (st.map fun v => v.category).sum + (nativeFrameWords "java/lang/System" "arraycopy" 5 + 11) ≤ rm0.locals) (d : decode cc pc = .ok (.invokestatic index, 3)) (hn : pc + 3 = pc') (hs : wSet ws a (.inl (G.2.1, n1, .inl (va_cpy f g 0 0 z.toNat))) ws')
    (kk : Z κ nL G base mc ms post exc cells slots pc' lv st ws') : Z κ nL G base mc ms post exc cells slots pc lv (.int (iI z) :: .int (iI 0) :: .ref a :: .int (iI 0) :: .ref a0 :: st) ws := by
  subst hn
  obtain ⟨q0, hq0⟩ := List.getElem?_of_mem he0
  obtain ⟨q1, hq1⟩ := List.getElem?_of_mem he1
  have e0 : (iI 0).toNatClampNeg = 0 := by decide
  have ez : (iI z).toNatClampNeg = z.toNat := iI_cl ⟨hz.1, hb⟩
  exact fun ls H locs h hP hD hS => va_copyi C.1 C.2.1 (C.2.2.1.trans h.1.symm) C.ow (C.hts hl) (C.hts hnt) (C.hts hst) (C.hts hi) C.K hP hD hS q0 q1 0 0 hq0 hq1 rfl rfl rfl (by decide) (by decide) (by rw [iI_lt0 (by omega)]; omega) (by rw [e0, ez]; omega) (by rw [e0, ez]; omega) (fun _ _ => rfl) (by rw [C.R]; exact h1) (by rw [C.R]; exact h2) d (fun H1 locs1 hP1 hD1 hS1 => by
    rw [e0, ez, hs _ q1 _ hD hq1] at hP1 hD1
    exact kk ls H1 locs1 h hP1 hD1 hS1)
end
section
variable {κ : KxT} {cc : ByteArray} {nL : Nat} {Ts : List Cond} {own : String} {ret : Option FieldType} {rm0 : Room} {G : GG} {base mc ms : Nat} {post : Option Value → va_W → Prop} {exc : String → va_W → Prop} {cells slots pc pc' : Nat} {lv : List (Nat × Value)} {st : List Value} {ws ws' : va_W}
theorem z_ldcM (C : Cx κ cc nL Ts own ret rm0 G base) {index : Nat} (hl : Cond.classLink own index "[Ljava/lang/Object;" ∈ Ts) (d : decode cc pc = .ok (.ldc index, 2)) (hn : pc + 2 = pc')
    (kk : Z κ nL G base mc ms post exc cells slots pc' lv (.ref (gmi G) :: st) ws) : Z κ nL G base mc ms post exc cells slots pc lv st ws := by
  subst hn
  exact fun ls H locs h hP hD hS => va_ldcM C.1 C.2.1 C.ow (C.hts hl) C.ev.2.2.2.2.2.2.1 d (kk ls H locs h hP hD hS)
theorem z_getC (C : Cx κ cc nL Ts own ret rm0 G base) {index a : Nat} {x : vp_A} (hl : Cond.methodLink own index ⟨"java/lang/Object", "getClass", "()Ljava/lang/Class;"⟩ ∈ Ts) (hsel : Cond.selects "[Ljava/lang/Object;" ⟨"java/lang/Object", "getClass", "()Ljava/lang/Class;"⟩ ⟨"java/lang/Object", "getClass", "()Ljava/lang/Class;"⟩ ∈ Ts) (hi : Cond.instanceMethod ⟨"java/lang/Object", "getClass", "()Ljava/lang/Class;"⟩ ∈ Ts) (hnt : Cond.native ⟨"java/lang/Object", "getClass", "()Ljava/lang/Class;"⟩ ∈ Ts)
    (he : (a, .inl (G.2.2.2.1, x)) ∈ ws) (h1 : 1 ≤ rm0.frames) (h2 : (st.map fun v => v.category).sum + 14 ≤ rm0.locals) (d : decode cc pc = .ok (.invokevirtual index, 3)) (hn : pc + 3 = pc')
    (kk : Z κ nL G base mc ms post exc cells slots pc' lv (.ref (gmi G) :: st) ws) : Z κ nL G base mc ms post exc cells slots pc lv (.ref a :: st) ws := by
  subst hn
  obtain ⟨q0, hq⟩ := List.getElem?_of_mem he
  refine fun ls H locs h hP hD hS => va_getC C.1 C.2.1 (C.2.2.1.trans h.1.symm) C.ow (C.hts hl) (va_Dc.use C.ev.2.2.2.2.2.2.2.1) (C.hts hsel) (C.hts hi) (C.hts hnt) C.ev.2.2.2.2.2.2.1 ?_ (by rw [C.R]; exact h1) (by rw [C.R]; exact h2) d (kk ls H locs h hP hD hS)
  have hc : H[a]? = some (vp_cell G.2.2.2.1 x) := hP q0 _ hq
  have hn : (ks κ).vm.findClass "[Ljava/lang/Object;" = some G.2.2.2.1 := va_nmO (C.K.2 2 _ rfl).2 (by decide)
  refine ⟨_, hc, ?_, ?_⟩
  · obtain ⟨n, f | f | f | f | f⟩ := x <;> rfl
  · rw [hn]
    obtain ⟨n, f | f | f | f | f⟩ := x <;> rfl
theorem z_copyq (C : Cx κ cc nL Ts own ret rm0 G base) {index a a0 n0 n1 : Nat} {f g : Nat → Option Nat} {z : Int} (Cn : String) (hl : Cond.methodLink own index arraycopyName ∈ Ts) (hnt : Cond.native arraycopyName ∈ Ts) (hst : Cond.static arraycopyName ∈ Ts) (hi : Cond.initialized "java/lang/System" ∈ Ts) (he0 : (a0, .inl (G.2.2.2.1, n0, .inr (.inr (.inr (.inr f))))) ∈ ws) (he1 : (a, .inl (G.2.2.2.1, n1, .inr (.inr (.inr (.inr g))))) ∈ ws) (hz : 0 ≤ z ∧ z ≤ n0 ∧ z ≤ n1) (hb : z < 2147483648)
    (hca : (Cn, "java/lang/Object") ∈ castL) (hel : ∀ i : Nat, (i : Int) < z → ∀ y : Nat, f i = some y → ∃ ci fs T N, (y, .inr (ci, fs)) ∈ ws ∧ vwCl[ci]? = some (Cn, T, N)) (h1 : 1 ≤ rm0.frames) (h2 : (st.map fun v => v.category).sum + (nativeFrameWords "java/lang/System" "arraycopy" 5 + 11) ≤ rm0.locals) (d : decode cc pc = .ok (.invokestatic index, 3)) (hn : pc + 3 = pc') (hs : wSet ws a (.inl (G.2.2.2.1, n1, .inr (.inr (.inr (.inr (va_cpy f g 0 0 z.toNat)))))) ws')
    (kk : Z κ nL G base mc ms post exc cells slots pc' lv st ws') : Z κ nL G base mc ms post exc cells slots pc lv (.int (iI z) :: .int (iI 0) :: .ref a :: .int (iI 0) :: .ref a0 :: st) ws := by
  subst hn
  obtain ⟨q0, hq0⟩ := List.getElem?_of_mem he0
  obtain ⟨q1, hq1⟩ := List.getElem?_of_mem he1
  have e0 : (iI 0).toNatClampNeg = 0 := by decide
  have ez : (iI z).toNatClampNeg = z.toNat := iI_cl ⟨hz.1, hb⟩
  refine fun ls H locs h hP hD hS => va_copyq (C := Cn) C.1 C.2.1 (C.2.2.1.trans h.1.symm) C.ow (C.hts hl) (C.hts hnt) (C.hts hst) (C.hts hi) C.K hP hD hS q0 q1 2 2 hq0 hq1 rfl rfl (by decide) (by decide) (by rw [iI_lt0 (by omega)]; omega) (by rw [e0, ez]; omega) (by rw [e0, ez]; omega) (fun i hi y hy => ?_) (vb_asgC (C.ev.2.2.2.2.1 _ hca)) (by rw [C.R]; exact h1) (by rw [C.R]; exact h2) d (fun H1 locs1 hP1 hD1 hS1 => by
    rw [e0, ez, hs _ q1 _ hD hq1] at hP1 hD1
    exact kk ls H1 locs1 h hP1 hD1 hS1)
  rw [ez] at hi
  rw [e0, Nat.zero_add] at hy
  obtain ⟨ci, fs, T, N, hm, hc⟩ := hel i (by omega) y hy
  obtain ⟨q2, hq2⟩ := List.getElem?_of_mem hm
  exact va_recv C.K hP hc hq2
theorem z_getB (C : Cx κ cc nL Ts own ret rm0 G base) {Cn ref : String} {T : u_T} {N ci index a : Nat} {fs : List Value} {v : Value} (he : (a, .inr (ci, fs)) ∈ ws) (hc : vwCl[ci]? = some (Cn, T, N)) (hin : ∀ w ∈ u_ws Cn T N, w ∈ Ts) (k : Nat) (hk : k < N) (hlink : Cond.fieldLink own index ref (T k).2.1 (T k).2.2.1 ∈ Ts) (hr : Cond.sameField ref (T k).1 (T k).2.1 (T k).2.2.1 ∈ Ts) (hv : fs[k]? = some v) (d : decode cc pc = .ok (.getfield index, 3)) (hn : pc + 3 = pc')
    (kk : Z κ nL G base mc ms post exc cells slots pc' lv (v :: st) ws) : Z κ nL G base mc ms post exc cells slots pc lv (.ref a :: st) ws := by
  subst hn
  obtain ⟨q0, hq⟩ := List.getElem?_of_mem he
  exact fun ls H locs h hP hD hS => va_get C.1 C.2.1 C.2.2.2.2.1 hin C.ow C.K hP q0 hq hc k hk (C.hts hlink) (fun x hx => u_same (C.hts hr) x hx) hv d (kk ls H locs h hP hD hS)
theorem z_putB (C : Cx κ cc nL Ts own ret rm0 G base) {Cn ref : String} {T : u_T} {N ci index a : Nat} {fs : List Value} {v : Value} {ty : FieldType} (ty0 : Nat → FieldType) (hty : ∀ k, k < N → parseFieldDescriptor (T k).2.2.1 = some (ty0 k)) (hnm : ∀ a, a < N → ∀ b, b < N → a ≠ b → (T a).2.1 ≠ (T b).2.1) (he : (a, .inr (ci, fs)) ∈ ws) (hc : vwCl[ci]? = some (Cn, T, N)) (hin : ∀ w ∈ u_ws Cn T N, w ∈ Ts) (k : Nat) (hk : k < N) (hlink : Cond.fieldLink own index ref (T k).2.1 (T k).2.2.1 ∈ Ts) (hr : Cond.sameField ref (T k).1 (T k).2.1 (T k).2.2.1 ∈ Ts) (hfin : (T k).2.2.2 = false) (hd : ty0 k = ty) (hnr : narrow ty v = v) (hfit : fits ty v = true) (hl : k < fs.length) (d : decode cc pc = .ok (.putfield index, 3)) (hn : pc + 3 = pc') (hs : wSet ws a (.inr (ci, fs.set k v)) ws')
    (kk : Z κ nL G base mc ms post exc cells slots pc' lv st ws') : Z κ nL G base mc ms post exc cells slots pc lv (v :: .ref a :: st) ws := by
  subst hn
  obtain ⟨q0, hq⟩ := List.getElem?_of_mem he
  exact fun ls H locs h hP hD hS => va_put C.1 C.2.1 C.2.2.2.2.1 hin ty0 hty hnm C.ow C.K hP hD hS q0 hq hc k hk (C.hts hlink) (fun x hx => u_same (C.hts hr) x hx) hfin (by rw [← hd]; exact hty k hk) hnr hfit hl d (fun H1 locs1 hP1 hD1 hS1 => kk ls H1 locs1 h (by rw [← hs _ q0 _ hD hq]; exact hP1) (by rw [← hs _ q0 _ hD hq]; exact hD1) hS1)
end
