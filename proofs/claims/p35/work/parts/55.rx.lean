/-! the class's pool against the value V. g 0 i: the copy i, g 1 i its row; g 2, g 3: houses; g 4 letters; g 5 loans; g 6: 0 the object, 1 slips, 2 draft, 3 its row, 4 .. 7 the lists (houses, copies, letters, loans), g 7 their rows; T: a mark of its own for each address -/
def VLD (s n m t a i : Nat) : Prop := (a = 0 ∧ i < n) ∨ (a = 1 ∧ i < n) ∨ (a = 2 ∧ i < s) ∨ (a = 3 ∧ i < s) ∨ (a = 4 ∧ i < m) ∨ (a = 5 ∧ i < t) ∨ (a = 6 ∧ i < 8)
def kd (a i : Nat) : Nat := if a = 0 then 0 else if a = 1 then 7 else if a = 2 then 2 else if a = 3 then 8 else if a = 4 then 3 else if a = 5 then 4 else if i = 0 then 5 else if i = 2 then 1 else if i < 4 then 7 else 6
def cnL (s n m t i : Nat) : Nat := if i = 0 then s else if i = 1 then n else if i = 2 then m else t
def RXg (de : Nat) (L : List Nat) (K : Nat → Nat) (T : Nat → Nat) (g : Nat → Nat → Nat) (s n m t : Nat) : Prop := (∀ a i, VLD s n m t a i → g a i ∈ L ∧ K (g a i) = kd a i ∧ T (g a i) = 1000 * a + i) ∧ (∀ i, i < 4 → 0 < cnL s n m t i → T (g 7 i) = 7000 + i) ∧ ∀ i, i < 4 → cnL s n m t i = 0 → g 7 i = de
def RXf (I : Nat → Nat → Int) (F : Nat → Nat → Option Nat) (N : Nat → Nat) (g : Nat → Nat → Nat) (V : Nat → Nat → Int) (s n m t : Nat) : Prop :=
  (F 8 (g 6 0) = some (g 6 4) ∧ F 9 (g 6 0) = some (g 6 5) ∧ F 10 (g 6 0) = some (g 6 6) ∧ F 11 (g 6 0) = some (g 6 7) ∧ F 12 (g 6 0) = some (g 6 1) ∧ F 13 (g 6 0) = some (g 6 2) ∧ F 4 (g 6 2) = some (g 6 3)) ∧ (N (g 6 1) = 6 ∧ N (g 6 3) = 24) ∧
  (∀ i, i < s → F 5 (g 2 i) = some (g 3 i) ∧ N (g 3 i) = 60 ∧ I 4 (g 2 i) = (i : Int)) ∧
  (∀ i, i < n → F 2 (g 0 i) = some (g 1 i) ∧ N (g 1 i) = 24 ∧ I 0 (g 0 i) = (i : Int) ∧ F 0 (g 0 i) = (if V 1 i = -1 then none else some (g 0 (V 1 i).toNat)) ∧ F 1 (g 0 i) = some (g 2 (V 3 i).toNat)) ∧
  (∀ j, j < m → I 7 (g 4 j) = V 10 j ∧ I 8 (g 4 j) = V 11 j ∧ I 9 (g 4 j) = V 12 j) ∧
  (∀ j, j < t → F 6 (g 5 j) = some (g 0 (V 15 j).toNat) ∧ F 7 (g 5 j) = some (g 2 (V 16 j).toNat) ∧ I 10 (g 5 j) = V 17 j ∧ I 11 (g 5 j) = V 18 j)
def RXl (de : Nat) (L : List Nat) (K : Nat → Nat) (I : Nat → Nat → Int) (F : Nat → Nat → Option Nat) (N : Nat → Nat) (O : Nat → Nat → Option Nat) (g : Nat → Nat → Nat) (s n m t : Nat) : Prop :=
  (LST L K I F N O de (g 6 4) (g 7 0) s (g 2) ∧ TYP L K N O de (g 7 0) s 2) ∧ (LST L K I F N O de (g 6 5) (g 7 1) n (g 0) ∧ TYP L K N O de (g 7 1) n 0) ∧ (LST L K I F N O de (g 6 6) (g 7 2) m (g 4) ∧ TYP L K N O de (g 7 2) m 3) ∧ (LST L K I F N O de (g 6 7) (g 7 3) t (g 5) ∧ TYP L K N O de (g 7 3) t 4)
def RXv (I : Nat → Nat → Int) (F : Nat → Nat → Option Nat) (R : Nat → Nat → Int) (g : Nat → Nat → Nat) (V : Nat → Nat → Int) (s n t : Nat) : Prop :=
  (I 14 (g 6 0) = V 9 0) ∧ (∀ s, s < 6 → R (g 6 1) s = V 8 s) ∧ (I 3 (g 6 2) = V 7 0) ∧ (∀ k, k < 24 → R (g 6 3) k = V 6 k) ∧
  (∀ i, i < s → I 5 (g 2 i) = V 22 i ∧ I 6 (g 2 i) = V 23 i) ∧ (∀ i, i < s → ∀ l, l < 60 → R (g 3 i) l = V 13 (60 * i + l)) ∧
  (∀ i, i < n → F 3 (g 0 i) = some (g 2 (V 4 i).toNat)) ∧ (∀ i, i < n → I 1 (g 0 i) = V 2 i) ∧ (∀ i, i < n → ∀ k, k < 24 → R (g 1 i) k = V 0 (24 * i + k)) ∧
  (∀ j, j < t → I 12 (g 5 j) = V 20 j ∧ (V 20 j = 1 → I 13 (g 5 j) = V 19 j))
def RP (de : Nat) (L : List Nat) (K : Nat → Nat) (I : Nat → Nat → Int) (F : Nat → Nat → Option Nat) (R : Nat → Nat → Int) (N : Nat → Nat) (O : Nat → Nat → Option Nat) (T : Nat → Nat) (g : Nat → Nat → Nat) (V : Nat → Nat → Int) (s n m t : Nat) : Prop :=
  RXg de L K T g s n m t ∧ RXf I F N g V s n m t ∧ RXl de L K I F N O g s n m t ∧ RXv I F R g V s n t
def RX (de : Nat) (L : List Nat) (K : Nat → Nat) (I : Nat → Nat → Int) (F : Nat → Nat → Option Nat) (R : Nat → Nat → Int) (N : Nat → Nat) (O : Nat → Nat → Option Nat) (T : Nat → Nat) (g : Nat → Nat → Nat) (V : Nat → Nat → Int) (n m t : Nat) : Prop :=
  RP de L K I F R N O T g V 5 n m t ∧ IsFam V n (fun i => I 2 (g 0 i))
section
variable {de : Nat} {L : List Nat} {K : Nat → Nat} {I : Nat → Nat → Int} {F : Nat → Nat → Option Nat} {R : Nat → Nat → Int} {N : Nat → Nat} {O : Nat → Nat → Option Nat} {T : Nat → Nat} {g : Nat → Nat → Nat} {V : Nat → Nat → Int} {s n m t i j a b : Nat}
theorem RXg.inj (h : RXg de L K T g s n m t) (h1 : VLD s n m t a i) (h2 : VLD s n m t b j) (hi : i < 1000) (hj : j < 1000) (e : g a i = g b j) : a = b ∧ i = j := by
  have e1 := (h.1 a i h1).2.2
  have e2 := (h.1 b j h2).2.2
  rw [e, e2] at e1
  omega
theorem RP.g0 (h : RP de L K I F R N O T g V s n m t) (hi : i < n) : g 0 i ∈ L ∧ K (g 0 i) = 0 := ⟨(h.1.1 0 i (.inl ⟨rfl, hi⟩)).1, (h.1.1 0 i (.inl ⟨rfl, hi⟩)).2.1⟩
theorem RP.g1 (h : RP de L K I F R N O T g V s n m t) (hi : i < n) : g 1 i ∈ L ∧ K (g 1 i) = 7 := ⟨(h.1.1 1 i (.inr (.inl ⟨rfl, hi⟩))).1, (h.1.1 1 i (.inr (.inl ⟨rfl, hi⟩))).2.1⟩
theorem RP.g2 (h : RP de L K I F R N O T g V s n m t) (hi : i < s) : g 2 i ∈ L ∧ K (g 2 i) = 2 := ⟨(h.1.1 2 i (.inr (.inr (.inl ⟨rfl, hi⟩)))).1, (h.1.1 2 i (.inr (.inr (.inl ⟨rfl, hi⟩)))).2.1⟩
theorem RP.g3 (h : RP de L K I F R N O T g V s n m t) (hi : i < s) : g 3 i ∈ L ∧ K (g 3 i) = 8 := ⟨(h.1.1 3 i (.inr (.inr (.inr (.inl ⟨rfl, hi⟩))))).1, (h.1.1 3 i (.inr (.inr (.inr (.inl ⟨rfl, hi⟩))))).2.1⟩
theorem RP.g4 (h : RP de L K I F R N O T g V s n m t) (hi : i < m) : g 4 i ∈ L ∧ K (g 4 i) = 3 := ⟨(h.1.1 4 i (.inr (.inr (.inr (.inr (.inl ⟨rfl, hi⟩)))))).1, (h.1.1 4 i (.inr (.inr (.inr (.inr (.inl ⟨rfl, hi⟩)))))).2.1⟩
theorem RP.g5 (h : RP de L K I F R N O T g V s n m t) (hi : i < t) : g 5 i ∈ L ∧ K (g 5 i) = 4 := ⟨(h.1.1 5 i (.inr (.inr (.inr (.inr (.inr (.inl ⟨rfl, hi⟩))))))).1, (h.1.1 5 i (.inr (.inr (.inr (.inr (.inr (.inl ⟨rfl, hi⟩))))))).2.1⟩
theorem RP.g6 (h : RP de L K I F R N O T g V s n m t) (hi : i < 8) : g 6 i ∈ L ∧ K (g 6 i) = kd 6 i := ⟨(h.1.1 6 i (.inr (.inr (.inr (.inr (.inr (.inr ⟨rfl, hi⟩))))))).1, (h.1.1 6 i (.inr (.inr (.inr (.inr (.inr (.inr ⟨rfl, hi⟩))))))).2.1⟩
theorem RP.x8 (h : RP de L K I F R N O T g V s n m t) : isX L K F (g 6 0) 8 (g 6 4) := ⟨(h.g6 (i := 0) (by decide)).1, (h.g6 (i := 0) (by decide)).2, h.2.1.1.1⟩
theorem RP.x9 (h : RP de L K I F R N O T g V s n m t) : isX L K F (g 6 0) 9 (g 6 5) := ⟨(h.g6 (i := 0) (by decide)).1, (h.g6 (i := 0) (by decide)).2, h.2.1.1.2.1⟩
theorem RP.x10 (h : RP de L K I F R N O T g V s n m t) : isX L K F (g 6 0) 10 (g 6 6) := ⟨(h.g6 (i := 0) (by decide)).1, (h.g6 (i := 0) (by decide)).2, h.2.1.1.2.2.1⟩
theorem RP.x11 (h : RP de L K I F R N O T g V s n m t) : isX L K F (g 6 0) 11 (g 6 7) := ⟨(h.g6 (i := 0) (by decide)).1, (h.g6 (i := 0) (by decide)).2, h.2.1.1.2.2.2.1⟩
theorem RP.x12 (h : RP de L K I F R N O T g V s n m t) : isX L K F (g 6 0) 12 (g 6 1) := ⟨(h.g6 (i := 0) (by decide)).1, (h.g6 (i := 0) (by decide)).2, h.2.1.1.2.2.2.2.1⟩
theorem RP.x13 (h : RP de L K I F R N O T g V s n m t) : isX L K F (g 6 0) 13 (g 6 2) := ⟨(h.g6 (i := 0) (by decide)).1, (h.g6 (i := 0) (by decide)).2, h.2.1.1.2.2.2.2.2.1⟩
theorem RP.l0 (h : RP de L K I F R N O T g V s n m t) : LST L K I F N O de (g 6 4) (g 7 0) s (g 2) := h.2.2.1.1.1
theorem RP.l1 (h : RP de L K I F R N O T g V s n m t) : LST L K I F N O de (g 6 5) (g 7 1) n (g 0) := h.2.2.1.2.1.1
theorem RP.l2 (h : RP de L K I F R N O T g V s n m t) : LST L K I F N O de (g 6 6) (g 7 2) m (g 4) := h.2.2.1.2.2.1.1
theorem RP.l3 (h : RP de L K I F R N O T g V s n m t) : LST L K I F N O de (g 6 7) (g 7 3) t (g 5) := h.2.2.1.2.2.2.1
theorem RP.isC (h : RP de L K I F R N O T g V s n m t) (hi : i < n) : isC L K F N (g 0 i) (g 1 i) := ⟨(h.g0 hi).1, (h.g0 hi).2, (h.2.1.2.2.2.1 i hi).1, (h.g1 hi).1, (h.g1 hi).2, (h.2.1.2.2.2.1 i hi).2.1⟩
theorem RP.isH (h : RP de L K I F R N O T g V s n m t) (hi : i < s) : isH L K F N (g 2 i) (g 3 i) := ⟨(h.g2 hi).1, (h.g2 hi).2, (h.2.1.2.2.1 i hi).1, (h.g3 hi).1, (h.g3 hi).2, (h.2.1.2.2.1 i hi).2.1⟩
theorem RP.isD (h : RP de L K I F R N O T g V s n m t) : isD L K F N (g 6 2) (g 6 3) := ⟨(h.g6 (i := 2) (by decide)).1, (h.g6 (i := 2) (by decide)).2, h.2.1.1.2.2.2.2.2.2, (h.g6 (i := 3) (by decide)).1, (h.g6 (i := 3) (by decide)).2, h.2.1.2.1.2⟩
theorem RP.rd (h : RP de L K I F R N O T g V s n m t) (hi : i < n) {k : Nat} (hk : k < 24) : R (g 1 i) k = V 0 (24 * i + k) := h.2.2.2.2.2.2.2.2.2.2.2.1 i hi k hk
theorem RP.told (h : RP de L K I F R N O T g V s n m t) (hi : i < n) : I 1 (g 0 i) = V 2 i := h.2.2.2.2.2.2.2.2.2.2.1 i hi
theorem RP.house (h : RP de L K I F R N O T g V s n m t) (hi : i < n) : F 3 (g 0 i) = some (g 2 (V 4 i).toNat) := h.2.2.2.2.2.2.2.2.2.1 i hi
theorem RP.sh (h : RP de L K I F R N O T g V s n m t) (hi : i < n) (hj : j < n) : shc (R (g 1 i)) (R (g 1 j)) 24 = shV V i j := shc_cong 24 (fun _ hk => ⟨h.rd hi hk, h.rd hj hk⟩)
theorem RP.rg9 (h : RP de L K I F R N O T g V s n m t) (hw : WFV V n m t) (hi : i < n) : rg9 (R (g 1 i)) := fun k hk => by
  have hn := hw.2.1
  rw [h.rd hi hk]
  exact hw.2.2.1 _ (by omega)
theorem RP.inj0 (h : RP de L K I F R N O T g V s n m t) (hw : WFV V n m t) (hi : i < n) (hj : j < n) (e : g 0 i = g 0 j) : i = j := by
  have hn := hw.2.1
  exact (h.1.inj (.inl ⟨rfl, hi⟩) (.inl ⟨rfl, hj⟩) (by omega) (by omega) e).2
theorem RP.inj2 (h : RP de L K I F R N O T g V s n m t) (hi : i < s) (hj : j < s) (hs : s ≤ 5) (e : g 2 i = g 2 j) : i = j :=
  (h.1.inj (.inr (.inr (.inl ⟨rfl, hi⟩))) (.inr (.inr (.inl ⟨rfl, hj⟩))) (by omega) (by omega) e).2
theorem RP.cps (h : RP de L K I F R N O T g V s n m t) (hw : WFV V n m t) : CPS L K I F N O de (g 6 0) (g 6 5) (g 7 1) n (g 0) (g 1) :=
  ⟨h.x9, h.l1, hw.2.1.1, fun _ hi => h.isC hi, fun i hi => (h.2.1.2.2.2.1 i hi).2.2.1, fun _ _ hi hj e => h.inj0 hw hi hj e⟩
theorem RP.cpv (h : RP de L K I F R N O T g V s n m t) (hw : WFV V n m t) : CPV I R n (g 0) (g 1) := fun i hi => ⟨h.rg9 hw hi, by
  have hn := hw.2.1
  rw [h.told hi]
  exact hw.2.2.2.2.1.2 i (by omega)⟩
theorem RP.tmE (h : RP de L K I F R N O T g V s n m t) (hi : i < n) : tmo I F (g 0 i) = if V 2 i = 0 ∨ V 1 i = -1 then none else some (g 0 (V 1 i).toNat) := by
  show (if I 1 (g 0 i) = 0 then none else F 0 (g 0 i)) = _
  rw [h.told hi, (h.2.1.2.2.2.1 i hi).2.2.2.1]
  by_cases c : V 2 i = 0
  · rw [if_pos c, if_pos (.inl c)]
  · rw [if_neg c]
    by_cases c2 : V 1 i = -1
    · rw [if_pos c2, if_pos (.inr c2)]
    · rw [if_neg c2, if_neg (fun h => h.elim c c2)]
theorem WFV.mo {V : Nat → Nat → Int} {n m t i : Nat} (hw : WFV V n m t) (hi : i < n) : V 1 i = -1 ∨ 0 ≤ V 1 i ∧ V 1 i < i := by
  by_cases e : i = 0
  · subst e; exact .inl hw.2.2.2.1.1
  · exact .inr (hw.2.2.2.1.2 i (by omega) hi)
theorem RP.tmj (h : RP de L K I F R N O T g V s n m t) (hw : WFV V n m t) (hi : i < n) (hj : j < n) : tmo I F (g 0 i) = some (g 0 j) ↔ V 2 i = 1 ∧ V 1 i = (j : Int) := by
  have hn := hw.2.1
  have h2 := hw.2.2.2.2.1.2 i (by omega)
  have h1 := hw.mo hi
  rw [h.tmE hi]
  constructor
  · intro e
    by_cases c : V 2 i = 0 ∨ V 1 i = -1
    · rw [if_pos c] at e; cases e
    · rw [if_neg c] at e
      have := h.inj0 hw (i := (V 1 i).toNat) (j := j) (by omega) hj (Option.some.inj e)
      omega
  · intro ⟨e1, e2⟩
    rw [if_neg (by omega), e2]
    rfl
theorem RP.cpk (h : RP de L K I F R N O T g V s n m t) (hw : WFV V n m t) : CPK V I F R n (g 0) (g 1) := fun i j hi hj => by
  rw [h.tmj hw hi hj, h.tmj hw hj hi, h.sh hi hj]
  unfold kinV
  simp only [Bool.or_eq_true, decide_eq_true_eq]
  constructor
  · rintro (c | c | c)
    · exact .inl (.inr c)
    · exact .inr c
    · exact .inl (.inl c)
  · rintro ((c | c) | c)
    · exact .inr (.inr c)
    · exact .inl c
    · exact .inr (.inl c)
theorem RX.rgF (h : RX de L K I F R N O T g V n m t) (hw : WFV V n m t) : rgF (I 2) n (g 0) := fun i hi => by
  have hn := hw.2.1
  obtain ⟨⟨r, h1, h2, -⟩, -⟩ := h.2 i hi
  have : I 2 (g 0 i) = (r : Int) := h1
  omega
end
