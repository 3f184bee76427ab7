section
variable {κ : KxT} {cc : ByteArray} {nL : Nat} {Ts : List Cond} {own : String} {ret : Option FieldType} {rm0 : Room} {G : GG} {base mc ms : Nat} {post : Option Value → va_W → Prop} {exc : String → va_W → Prop} {cells slots pc pc' : Nat} {lv : List (Nat × Value)} {st : List Value} {ws : va_W}
theorem z_irem (C : Cx κ cc nL Ts own ret rm0 G base) {a b c : Int} (ha : 0 ≤ a ∧ a < 2147483648) (hb : 0 < b ∧ b < 2147483648) (hc : a % b = c) (d : decode cc pc = .ok (.irem, 1)) (hn : pc + 1 = pc') (kk : Z κ nL G base mc ms post exc cells slots pc' lv (.int (iI c) :: st) ws) : Z κ nL G base mc ms post exc cells slots pc lv (.int (iI b) :: .int (iI a) :: st) ws := by
  subst hn; subst hc
  have e : iI a - iI a / iI b * iI b = iI (a % b) := by
    obtain ⟨n, rfl⟩ : ∃ n : Nat, a = (n : Int) := ⟨a.toNat, by omega⟩
    obtain ⟨k, rfl⟩ : ∃ k : Nat, b = (k : Int) := ⟨b.toNat, by omega⟩
    exact pk_rem (a := n) (d := k) (by omega) (by omega) (by omega)
  exact fun ls H locs h hP hD hS => lv_irem C.1 C.2.1 d (iI_ne0 hb) (by rw [e]; exact kk ls H locs h hP hD hS)
theorem z_iquo (C : Cx κ cc nL Ts own ret rm0 G base) {a b c : Int} (ha : 0 ≤ a ∧ a < 2147483648) (hb : 0 < b ∧ b < 2147483648) (hc : a / b = c) (d : decode cc pc = .ok (.idiv, 1)) (hn : pc + 1 = pc') (kk : Z κ nL G base mc ms post exc cells slots pc' lv (.int (iI c) :: st) ws) : Z κ nL G base mc ms post exc cells slots pc lv (.int (iI b) :: .int (iI a) :: st) ws := by
  subst hn; subst hc
  exact fun ls H locs h hP hD hS => lv_idiv C.1 C.2.1 d (iI_ne0 hb) (by rw [iI_quo ha hb]; exact kk ls H locs h hP hD hS)
theorem z_ior (C : Cx κ cc nL Ts own ret rm0 G base) {x y : Int32} (d : decode cc pc = .ok (.ior, 1)) (hn : pc + 1 = pc') (kk : Z κ nL G base mc ms post exc cells slots pc' lv (.int (x ||| y) :: st) ws) : Z κ nL G base mc ms post exc cells slots pc lv (.int y :: .int x :: st) ws := by
  subst hn
  exact fun ls H locs h hP hD hS => lv_ior C.1 C.2.1 d (kk ls H locs h hP hD hS)
theorem z_ixor (C : Cx κ cc nL Ts own ret rm0 G base) {x y : Int32} (d : decode cc pc = .ok (.ixor, 1)) (hn : pc + 1 = pc') (kk : Z κ nL G base mc ms post exc cells slots pc' lv (.int (x ^^^ y) :: st) ws) : Z κ nL G base mc ms post exc cells slots pc lv (.int y :: .int x :: st) ws := by
  subst hn
  exact fun ls H locs h hP hD hS => lv_ixor C.1 C.2.1 d (kk ls H locs h hP hD hS)
theorem z_ishl (C : Cx κ cc nL Ts own ret rm0 G base) {x y : Int32} (d : decode cc pc = .ok (.ishl, 1)) (hn : pc + 1 = pc') (kk : Z κ nL G base mc ms post exc cells slots pc' lv (.int (x <<< (y &&& 31)) :: st) ws) : Z κ nL G base mc ms post exc cells slots pc lv (.int y :: .int x :: st) ws := by
  subst hn
  exact fun ls H locs h hP hD hS => lv_ishl C.1 C.2.1 d (kk ls H locs h hP hD hS)
theorem z_iastN (C : Cx κ cc nL Ts own ret rm0 G base) {a n i : Nat} {f : Nat → Int32} {z : Int} {x : Int32} {ws' : va_W} (he : (a, .inl (G.2.1, n, .inl f)) ∈ ws) (hz : 0 ≤ z ∧ z < n) (hb : z < 2147483648) (hi : z.toNat = i) (d : decode cc pc = .ok (.iastore, 1)) (hn : pc + 1 = pc') (hs : wSet ws a (.inl (G.2.1, n, .inl (upd f i x))) ws') (kk : Z κ nL G base mc ms post exc cells slots pc' lv st ws') : Z κ nL G base mc ms post exc cells slots pc lv (.int x :: .int (iI z) :: .ref a :: st) ws := by
  subst hi
  exact z_iast C he hz hb d hn hs kk
theorem z_lastN (C : Cx κ cc nL Ts own ret rm0 G base) {a n i : Nat} {f : Nat → Int64} {z : Int} {x : Int64} {ws' : va_W} (he : (a, .inl (G.2.2.2.2.1, n, .inr (.inl f))) ∈ ws) (hz : 0 ≤ z ∧ z < n) (hb : z < 2147483648) (hi : z.toNat = i) (d : decode cc pc = .ok (.lastore, 1)) (hn : pc + 1 = pc') (hs : wSet ws a (.inl (G.2.2.2.2.1, n, .inr (.inl (vp_updL f i x)))) ws') (kk : Z κ nL G base mc ms post exc cells slots pc' lv st ws') : Z κ nL G base mc ms post exc cells slots pc lv (.long x :: .int (iI z) :: .ref a :: st) ws := by
  subst hi
  exact z_last C he hz hb d hn hs kk
theorem z_same (C : Cx κ cc nL Ts own ret rm0 G base) {x y : Int32} {off : Int} {pt : Nat} (hxy : x = y) (d : decode cc pc = .ok (.if_icmp .ne off, 3)) (ht : (pc : Int) + off = (pt : Int)) (hn : pc + 3 = pc') (kk : Z κ nL G base mc ms post exc cells slots pc' lv st ws) : Z κ nL G base mc ms post exc cells slots pc lv (.int y :: .int x :: st) ws :=
  z_icmp_ne C d ht hn (fun q => q) (fun q => q) (fun q => absurd hxy q) (fun _ => kk)
theorem rdA {f : Nat → Int} {a b : Nat} {v : Int} (h : f b = v) (e : a = b) : iI (f a) = iI v := by rw [e, h]
theorem z_lshr (C : Cx κ cc nL Ts own ret rm0 G base) {x v : Int64} {y : Int32} (hv : x >>> (y.toInt64 &&& 63) = v) (d : decode cc pc = .ok (.lshr, 1)) (hn : pc + 1 = pc') (kk : Z κ nL G base mc ms post exc cells slots pc' lv (.long v :: st) ws) : Z κ nL G base mc ms post exc cells slots pc lv (.int y :: .long x :: st) ws := by
  subst hn
  exact fun ls H locs h hP hD hS => lv_lshr C.1 C.2.1 d hv (kk ls H locs h hP hD hS)
end
/-! the law's own rows: 0 w, 1 c, 2 q, 3 l, 4 x, 5 o, 6 n, 7 p, 8 m; B: the rows of longs, A: the rows of ints -/
def lwW (G : GG) (q : Nat → Nat) (B : Nat → Nat → Int64) (A : Nat → Nat → Int) : va_W := [(q 0, .inl (G.2.2.2.2.1, 16, .inr (.inl (B 0)))), (q 1, .inl (G.2.1, 64, .inl (fun j => iI (A 1 j)))), (q 2, .inl (G.2.1, 12, .inl (fun j => iI (A 2 j)))), (q 3, .inl (G.2.1, 40, .inl (fun j => iI (A 3 j)))), (q 4, .inl (G.2.2.2.2.1, 5, .inr (.inl (B 4)))), (q 5, .inl (G.2.1, 60, .inl (fun j => iI (A 5 j)))), (q 6, .inl (G.2.1, 10, .inl (fun j => iI (A 6 j)))), (q 7, .inl (G.2.1, 6, .inl (fun j => iI (A 7 j)))), (q 8, .inl (G.2.1, 5, .inl (fun j => iI (A 8 j))))]
section
variable {G : GG} {q : Nat → Nat} {B : Nat → Nat → Int64} {A : Nat → Nat → Int} {Y : va_W}
theorem lwm_0 : (q 0, .inl (G.2.2.2.2.1, 16, .inr (.inl (B 0)))) ∈ lwW G q B A ++ Y := List.mem_of_getElem? (i := 0) rfl
theorem lws_0 {i : Nat} {z : Int64} : wSet (lwW G q B A ++ Y) (q 0) (.inl (G.2.2.2.2.1, 16, .inr (.inl (vp_updL (B 0) i z)))) (lwW G q (up2 B 0 i z) A ++ Y) := by
  have e : vp_updL (B 0) i z = up2 B 0 i z 0 := by
    funext j
    by_cases hj : j = i <;> simp [vp_updL, up2, va_up, hj]
  rw [e]
  exact wSet_at 0 rfl rfl
theorem lwm_1 : (q 1, .inl (G.2.1, 64, .inl (fun j => iI (A 1 j)))) ∈ lwW G q B A ++ Y := List.mem_of_getElem? (i := 1) rfl
theorem lws_1 {i : Nat} {z : Int} : wSet (lwW G q B A ++ Y) (q 1) (.inl (G.2.1, 64, .inl (upd (fun j => iI (A 1 j)) i (iI z)))) (lwW G q B (up2 A 1 i z) ++ Y) := by
  have e : upd (fun j => iI (A 1 j)) i (iI z) = fun j => iI (up2 A 1 i z 1 j) := by
    funext j
    by_cases hj : j = i <;> simp [upd, up2, va_up, hj]
  rw [e]
  exact wSet_at 1 rfl rfl
theorem lwm_2 : (q 2, .inl (G.2.1, 12, .inl (fun j => iI (A 2 j)))) ∈ lwW G q B A ++ Y := List.mem_of_getElem? (i := 2) rfl
theorem lws_2 {i : Nat} {z : Int} : wSet (lwW G q B A ++ Y) (q 2) (.inl (G.2.1, 12, .inl (upd (fun j => iI (A 2 j)) i (iI z)))) (lwW G q B (up2 A 2 i z) ++ Y) := by
  have e : upd (fun j => iI (A 2 j)) i (iI z) = fun j => iI (up2 A 2 i z 2 j) := by
    funext j
    by_cases hj : j = i <;> simp [upd, up2, va_up, hj]
  rw [e]
  exact wSet_at 2 rfl rfl
theorem lwm_3 : (q 3, .inl (G.2.1, 40, .inl (fun j => iI (A 3 j)))) ∈ lwW G q B A ++ Y := List.mem_of_getElem? (i := 3) rfl
theorem lws_3 {i : Nat} {z : Int} : wSet (lwW G q B A ++ Y) (q 3) (.inl (G.2.1, 40, .inl (upd (fun j => iI (A 3 j)) i (iI z)))) (lwW G q B (up2 A 3 i z) ++ Y) := by
  have e : upd (fun j => iI (A 3 j)) i (iI z) = fun j => iI (up2 A 3 i z 3 j) := by
    funext j
    by_cases hj : j = i <;> simp [upd, up2, va_up, hj]
  rw [e]
  exact wSet_at 3 rfl rfl
theorem lwm_4 : (q 4, .inl (G.2.2.2.2.1, 5, .inr (.inl (B 4)))) ∈ lwW G q B A ++ Y := List.mem_of_getElem? (i := 4) rfl
theorem lws_4 {i : Nat} {z : Int64} : wSet (lwW G q B A ++ Y) (q 4) (.inl (G.2.2.2.2.1, 5, .inr (.inl (vp_updL (B 4) i z)))) (lwW G q (up2 B 4 i z) A ++ Y) := by
  have e : vp_updL (B 4) i z = up2 B 4 i z 4 := by
    funext j
    by_cases hj : j = i <;> simp [vp_updL, up2, va_up, hj]
  rw [e]
  exact wSet_at 4 rfl rfl
theorem lwm_5 : (q 5, .inl (G.2.1, 60, .inl (fun j => iI (A 5 j)))) ∈ lwW G q B A ++ Y := List.mem_of_getElem? (i := 5) rfl
theorem lws_5 {i : Nat} {z : Int} : wSet (lwW G q B A ++ Y) (q 5) (.inl (G.2.1, 60, .inl (upd (fun j => iI (A 5 j)) i (iI z)))) (lwW G q B (up2 A 5 i z) ++ Y) := by
  have e : upd (fun j => iI (A 5 j)) i (iI z) = fun j => iI (up2 A 5 i z 5 j) := by
    funext j
    by_cases hj : j = i <;> simp [upd, up2, va_up, hj]
  rw [e]
  exact wSet_at 5 rfl rfl
theorem lwm_6 : (q 6, .inl (G.2.1, 10, .inl (fun j => iI (A 6 j)))) ∈ lwW G q B A ++ Y := List.mem_of_getElem? (i := 6) rfl
theorem lws_6 {i : Nat} {z : Int} : wSet (lwW G q B A ++ Y) (q 6) (.inl (G.2.1, 10, .inl (upd (fun j => iI (A 6 j)) i (iI z)))) (lwW G q B (up2 A 6 i z) ++ Y) := by
  have e : upd (fun j => iI (A 6 j)) i (iI z) = fun j => iI (up2 A 6 i z 6 j) := by
    funext j
    by_cases hj : j = i <;> simp [upd, up2, va_up, hj]
  rw [e]
  exact wSet_at 6 rfl rfl
theorem lwm_7 : (q 7, .inl (G.2.1, 6, .inl (fun j => iI (A 7 j)))) ∈ lwW G q B A ++ Y := List.mem_of_getElem? (i := 7) rfl
theorem lws_7 {i : Nat} {z : Int} : wSet (lwW G q B A ++ Y) (q 7) (.inl (G.2.1, 6, .inl (upd (fun j => iI (A 7 j)) i (iI z)))) (lwW G q B (up2 A 7 i z) ++ Y) := by
  have e : upd (fun j => iI (A 7 j)) i (iI z) = fun j => iI (up2 A 7 i z 7 j) := by
    funext j
    by_cases hj : j = i <;> simp [upd, up2, va_up, hj]
  rw [e]
  exact wSet_at 7 rfl rfl
theorem lwm_8 : (q 8, .inl (G.2.1, 5, .inl (fun j => iI (A 8 j)))) ∈ lwW G q B A ++ Y := List.mem_of_getElem? (i := 8) rfl
theorem lws_8 {i : Nat} {z : Int} : wSet (lwW G q B A ++ Y) (q 8) (.inl (G.2.1, 5, .inl (upd (fun j => iI (A 8 j)) i (iI z)))) (lwW G q B (up2 A 8 i z) ++ Y) := by
  have e : upd (fun j => iI (A 8 j)) i (iI z) = fun j => iI (up2 A 8 i z 8 j) := by
    funext j
    by_cases hj : j = i <;> simp [upd, up2, va_up, hj]
  rw [e]
  exact wSet_at 8 rfl rfl
end
/-- the law's rows against the value V -/
def LWrm (V A : Nat → Nat → Int) (n m t : Nat) : Prop := A 8 0 = (n : Int) ∧ A 8 1 = V 7 0 ∧ A 8 2 = V 9 0 ∧ A 8 3 = (m : Int) ∧ A 8 4 = (t : Int)
def LWrw (V : Nat → Nat → Int) (B : Nat → Nat → Int64) (n : Nat) : Prop := ∀ i, i < n → ∀ k, k < 12 → nibt (B 0 i) k = iI (V 0 (24 * i + plc k))
def LWrc (V A : Nat → Nat → Int) (n : Nat) : Prop := ∀ i, i < n → A 1 (4 * i) = V 1 i ∧ A 1 (4 * i + 1) = V 2 i ∧ A 1 (4 * i + 2) = V 3 i ∧ A 1 (4 * i + 3) = V 4 i
def LWrq (V A : Nat → Nat → Int) : Prop := ∀ k, k < 12 → A 2 k = V 6 (plc k)
def LWrl (V A : Nat → Nat → Int) (m : Nat) : Prop := ∀ j, j < m → A 3 j = 100 * V 10 j + 10 * V 11 j + V 12 j
def LWrx (V : Nat → Nat → Int) (B : Nat → Nat → Int64) : Prop := ∀ h, h < 5 → ∀ j, j < 60 → (lbt (B 4 h) j = true ↔ V 13 (60 * h + j) = 1)
def LWro (V A : Nat → Nat → Int) (t : Nat) : Prop := ∀ j, j < t → A 5 (6 * j) = V 15 j ∧ A 5 (6 * j + 1) = V 16 j ∧ A 5 (6 * j + 2) = V 17 j ∧ A 5 (6 * j + 3) = V 18 j ∧ (V 20 j = 1 → A 5 (6 * j + 4) = V 19 j) ∧ A 5 (6 * j + 5) = V 20 j
def LWrn (V A : Nat → Nat → Int) : Prop := ∀ h, h < 5 → A 6 h = V 22 h ∧ A 6 (5 + h) = V 23 h
def LWrp (V A : Nat → Nat → Int) : Prop := ∀ s, s < 6 → A 7 s = V 8 s
def LWr (V : Nat → Nat → Int) (n m t : Nat) (B : Nat → Nat → Int64) (A : Nat → Nat → Int) : Prop :=
  LWrm V A n m t ∧ LWrw V B n ∧ LWrc V A n ∧ LWrq V A ∧ LWrl V A m ∧ LWrx V B ∧ LWro V A t ∧ LWrn V A ∧ LWrp V A
/-- what the law's calls leave of the value: only the twelve places are used, and no more than so many copies, letters and loans -/
def LInv (V : Nat → Nat → Int) (n m t : Nat) : Prop :=
  WFV V n m t ∧ WB V t ∧ (n ≤ 16 ∧ m ≤ 40 ∧ t ≤ 10) ∧ (∀ i, i < n → ∀ p, p < 24 → ¬ isPl p → V 0 (24 * i + p) = 0) ∧ (∀ p, p < 24 → ¬ isPl p → V 6 p = -1) ∧ (∀ j, j < m → ∃ k, k < 12 ∧ V 10 j = (plc k : Int))
theorem LInv.sh {V : Nat → Nat → Int} {n m t i j : Nat} (h : LInv V n m t) (hi : i < n) : shV V i j = shc (fun k => V 0 (24 * i + plc k)) (fun k => V 0 (24 * j + plc k)) 12 :=
  sh12 (f := rdV V i) (g := rdV V j) (fun p h1 h2 => h.2.2.2.1 i hi p h1 h2)
theorem LInv.rd {V : Nat → Nat → Int} {n m t i k : Nat} (h : LInv V n m t) (hi : i < n) (hk : k < 12) : 0 ≤ V 0 (24 * i + plc k) ∧ V 0 (24 * i + plc k) ≤ 9 := by
  have := h.1.2.1
  have := plc_lt hk
  exact h.1.2.2.1 _ (by omega)
