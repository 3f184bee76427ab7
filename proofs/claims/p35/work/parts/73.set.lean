/-! what a single change of the pool does to the value -/
section
variable {de : Nat} {L : List Nat} {K : Nat → Nat} {I I' : Nat → Nat → Int} {F F' : Nat → Nat → Option Nat} {R R' : Nat → Nat → Int} {N : Nat → Nat} {O : Nat → Nat → Option Nat} {T : Nat → Nat} {g : Nat → Nat → Nat} {V V' : Nat → Nat → Int} {s n m t i j a b k : Nat} {z : Int} {f f' : Nat → Int}
theorem kinV_cong (h1 : ∀ i, i < n → V' 1 i = V 1 i ∧ V' 2 i = V 2 i) (h0 : ∀ i, i < n → ∀ k, k < 24 → V' 0 (24 * i + k) = V 0 (24 * i + k)) (hi : i < n) (hj : j < n) : kinV V' i j = kinV V i j := by
  have e : shV V' i j = shV V i j := shc_cong 24 (fun k hk => ⟨h0 i hi k hk, h0 j hj k hk⟩)
  unfold kinV
  rw [(h1 i hi).1, (h1 i hi).2, (h1 j hj).1, (h1 j hj).2, e]
theorem IsFam.congV (hk : ∀ i j, i < n → j < n → kinV V' i j = kinV V i j) (h : IsFam V n f) : IsFam V' n f := fun i hi => by
  obtain ⟨⟨r, a1, a2, a3⟩, a4⟩ := h i hi
  exact ⟨⟨r, a1, a2, fun P hP hs => a3 P hP (fun a b ha hb hab => hs a b ha hb ((hk a b ha hb).trans hab))⟩, fun j hj hij => a4 j hj ((hk i j hi hj).symm.trans hij)⟩
theorem RX.congV (h : RX de L K I F R N O T g V n m t) (hv : VEQ V V' 5 n m t) : RX de L K I F R N O T g V' n m t :=
  ⟨h.1.congV hv, h.2.congV (fun _ _ hi hj => kinV_cong (fun i hi => ⟨(hv.2.2.2.2.2.2.1 i hi).1, (hv.2.2.2.2.2.2.1 i hi).2.1⟩) hv.2.2.2.2.2.2.2.1 hi hj)⟩
theorem RP.ch (h : RP de L K I F R N O T g V s n m t) (hI : ∀ c, c ≠ 1 → c ≠ 2 → c ≠ 3 → c ≠ 5 → c ≠ 6 → c ≠ 12 → c ≠ 13 → c ≠ 14 → I' c = I c) (hF : ∀ c, c ≠ 3 → F' c = F c) (hV : V' 1 = V 1 ∧ V' 3 = V 3 ∧ V' 10 = V 10 ∧ V' 11 = V 11 ∧ V' 12 = V 12 ∧ V' 15 = V 15 ∧ V' 16 = V 16 ∧ V' 17 = V 17 ∧ V' 18 = V 18) (hv : RXv I' F' R' g V' s n t) : RP de L K I' F' R' N O T g V' s n m t := by
  obtain ⟨a, f, l, v⟩ := h
  obtain ⟨w1, w3, w10, w11, w12, w15, w16, w17, w18⟩ := hV
  have i0 := hI 0 (by decide) (by decide) (by decide) (by decide) (by decide) (by decide) (by decide) (by decide)
  have i4 := hI 4 (by decide) (by decide) (by decide) (by decide) (by decide) (by decide) (by decide) (by decide)
  have i7 := hI 7 (by decide) (by decide) (by decide) (by decide) (by decide) (by decide) (by decide) (by decide)
  have i8 := hI 8 (by decide) (by decide) (by decide) (by decide) (by decide) (by decide) (by decide) (by decide)
  have i9 := hI 9 (by decide) (by decide) (by decide) (by decide) (by decide) (by decide) (by decide) (by decide)
  have i10 := hI 10 (by decide) (by decide) (by decide) (by decide) (by decide) (by decide) (by decide) (by decide)
  have i11 := hI 11 (by decide) (by decide) (by decide) (by decide) (by decide) (by decide) (by decide) (by decide)
  have i16 := hI 16 (by decide) (by decide) (by decide) (by decide) (by decide) (by decide) (by decide) (by decide)
  refine ⟨a, ?_, ?_, hv⟩
  · unfold RXf at f ⊢
    rw [hF 8 (by decide), hF 9 (by decide), hF 10 (by decide), hF 11 (by decide), hF 12 (by decide), hF 13 (by decide), hF 4 (by decide), hF 5 (by decide), hF 2 (by decide), hF 0 (by decide), hF 1 (by decide), hF 6 (by decide), hF 7 (by decide), i0, i4, i7, i8, i9, i10, i11, w1, w3, w10, w11, w12, w15, w16, w17, w18]
    exact f
  · unfold RXl LST at l ⊢
    rw [i16, hF 14 (by decide)]
    exact l
theorem RP.ne (h : RP de L K I F R N O T g V s n m t) (h1 : VLD s n m t a i) (h2 : VLD s n m t b j) (hi : i < 1000) (hj : j < 1000) (hd : ¬ (a = b ∧ i = j)) : g a i ≠ g b j := fun e => hd (h.1.inj h1 h2 hi hj e)
theorem RP.famI (h : RP de L K I F R N O T g V s n m t) (f : Nat → Int) : RP de L K (va_up I 2 f) F R N O T g V s n m t := by
  obtain ⟨v1, v2, v3, v4, v5, v6, v7, v8, v9, v10⟩ := h.2.2.2
  exact h.ch (fun c _ h2 _ _ _ _ _ _ => va_up_ne _ _ h2) (fun _ _ => rfl) ⟨rfl, rfl, rfl, rfl, rfl, rfl, rfl, rfl, rfl⟩ ⟨v1, v2, v3, v4, v5, v6, v7, v8, v9, v10⟩
theorem RP.today (h : RP de L K I F R N O T g V s n m t) (z : Int) : RP de L K (up2 I 14 (g 6 0) z) F R N O T g (up2 V 9 0 z) s n m t := by
  obtain ⟨v1, v2, v3, v4, v5, v6, v7, v8, v9, v10⟩ := h.2.2.2
  exact h.ch (fun c _ _ _ _ _ _ _ h2 => va_up_ne _ _ h2) (fun _ _ => rfl) ⟨rfl, rfl, rfl, rfl, rfl, rfl, rfl, rfl, rfl⟩ ⟨by rw [up2_at, up2_at], v2, v3, v4, v5, v6, v7, v8, v9, v10⟩
theorem RP.filled (h : RP de L K I F R N O T g V s n m t) (z : Int) : RP de L K (up2 I 3 (g 6 2) z) F R N O T g (up2 V 7 0 z) s n m t := by
  obtain ⟨v1, v2, v3, v4, v5, v6, v7, v8, v9, v10⟩ := h.2.2.2
  exact h.ch (fun c _ _ h2 _ _ _ _ _ => va_up_ne _ _ h2) (fun _ _ => rfl) ⟨rfl, rfl, rfl, rfl, rfl, rfl, rfl, rfl, rfl⟩ ⟨v1, v2, by rw [up2_at, up2_at], v4, v5, v6, v7, v8, v9, v10⟩
theorem RP.coins (h : RP de L K I F R N O T g V s n m t) (hi : i < s) (hs : s ≤ 5) (z : Int) : RP de L K (up2 I 5 (g 2 i) z) F R N O T g (up2 V 22 i z) s n m t := by
  obtain ⟨v1, v2, v3, v4, v5, v6, v7, v8, v9, v10⟩ := h.2.2.2
  refine h.ch (fun c _ _ _ h2 _ _ _ _ => va_up_ne _ _ h2) (fun _ _ => rfl) ⟨rfl, rfl, rfl, rfl, rfl, rfl, rfl, rfl, rfl⟩ ⟨v1, v2, v3, v4, fun j hj => ⟨?_, (v5 j hj).2⟩, v6, v7, v8, v9, v10⟩
  by_cases e : j = i
  · subst e; rw [up2_at, up2_at]
  · rw [up2_ne _ _ (fun q => e (h.inj2 hj hi hs q.2)), up2_ne _ _ (fun q => e q.2)]; exact (v5 j hj).1
theorem RP.laid (h : RP de L K I F R N O T g V s n m t) (hi : i < s) (hs : s ≤ 5) (z : Int) : RP de L K (up2 I 6 (g 2 i) z) F R N O T g (up2 V 23 i z) s n m t := by
  obtain ⟨v1, v2, v3, v4, v5, v6, v7, v8, v9, v10⟩ := h.2.2.2
  refine h.ch (fun c _ _ _ _ h2 _ _ _ => va_up_ne _ _ h2) (fun _ _ => rfl) ⟨rfl, rfl, rfl, rfl, rfl, rfl, rfl, rfl, rfl⟩ ⟨v1, v2, v3, v4, fun j hj => ⟨(v5 j hj).1, ?_⟩, v6, v7, v8, v9, v10⟩
  by_cases e : j = i
  · subst e; rw [up2_at, up2_at]
  · rw [up2_ne _ _ (fun q => e (h.inj2 hj hi hs q.2)), up2_ne _ _ (fun q => e q.2)]; exact (v5 j hj).2
theorem RP.inj0' (h : RP de L K I F R N O T g V s n m t) (hn : n ≤ 1000) (hi : i < n) (hj : j < n) (e : g 0 i = g 0 j) : i = j :=
  (h.1.inj (.inl ⟨rfl, hi⟩) (.inl ⟨rfl, hj⟩) (by omega) (by omega) e).2
theorem RP.setHouse {y : Nat} (h : RP de L K I F R N O T g V s n m t) (hn : n ≤ 1000) (hi : i < n) : RP de L K I (up2 F 3 (g 0 i) (some (g 2 y))) R N O T g (up2 V 4 i (y : Int)) s n m t := by
  obtain ⟨v1, v2, v3, v4, v5, v6, v7, v8, v9, v10⟩ := h.2.2.2
  refine h.ch (fun c _ _ _ _ _ _ _ _ => rfl) (fun _ h2 => va_up_ne _ _ h2) ⟨rfl, rfl, rfl, rfl, rfl, rfl, rfl, rfl, rfl⟩ ⟨v1, v2, v3, v4, v5, v6, fun j hj => ?_, v8, v9, v10⟩
  by_cases e : j = i
  · subst e; rw [up2_at, up2_at]; rfl
  · rw [up2_ne _ _ (fun q => e (h.inj0' hn hj hi q.2)), up2_ne _ _ (fun q => e q.2)]; exact v7 j hj
theorem RP.setTold (h : RP de L K I F R N O T g V s n m t) (hn : n ≤ 1000) (hi : i < n) (z : Int) : RP de L K (up2 I 1 (g 0 i) z) F R N O T g (up2 V 2 i z) s n m t := by
  obtain ⟨v1, v2, v3, v4, v5, v6, v7, v8, v9, v10⟩ := h.2.2.2
  refine h.ch (fun c h2 _ _ _ _ _ _ _ => va_up_ne _ _ h2) (fun _ _ => rfl) ⟨rfl, rfl, rfl, rfl, rfl, rfl, rfl, rfl, rfl⟩ ⟨v1, v2, v3, v4, v5, v6, v7, fun j hj => ?_, v9, v10⟩
  by_cases e : j = i
  · subst e; rw [up2_at, up2_at]
  · rw [up2_ne _ _ (fun q => e (h.inj0' hn hj hi q.2)), up2_ne _ _ (fun q => e q.2)]; exact v8 j hj
theorem RP.inj5' (h : RP de L K I F R N O T g V s n m t) (hn : t ≤ 1000) (hi : i < t) (hj : j < t) (e : g 5 i = g 5 j) : i = j :=
  (h.1.inj (a := 5) (b := 5) (by unfold VLD; omega) (by unfold VLD; omega) (by omega) (by omega) e).2
theorem RP.setBack (h : RP de L K I F R N O T g V s n m t) (hn : t ≤ 1000) (hi : i < t) (z : Int) : RP de L K (up2 (up2 I 13 (g 5 i) z) 12 (g 5 i) 1) F R N O T g (up2 (up2 V 19 i z) 20 i 1) s n m t := by
  obtain ⟨v1, v2, v3, v4, v5, v6, v7, v8, v9, v10⟩ := h.2.2.2
  refine h.ch (fun c _ _ _ _ _ h2 h3 _ => (va_up_ne _ _ h2).trans (va_up_ne _ _ h3)) (fun _ _ => rfl) ⟨rfl, rfl, rfl, rfl, rfl, rfl, rfl, rfl, rfl⟩ ⟨v1, v2, v3, v4, v5, v6, v7, v8, v9, fun j hj => ?_⟩
  by_cases e : j = i
  · subst e; rw [up2_at, up2_at, up2_ne _ _ (by omega), up2_at, up2_ne _ _ (by omega), up2_at]; exact ⟨rfl, fun _ => rfl⟩
  · have ne : g 5 j ≠ g 5 i := fun q => e (h.inj5' hn hj hi q)
    rw [up2_ne _ _ (fun q => ne q.2), up2_ne _ _ (fun q => ne q.2), up2_ne _ _ (fun q => ne q.2), up2_ne _ _ (fun q => ne q.2), up2_ne _ _ (fun q => e q.2), up2_ne _ _ (fun q => e q.2), up2_ne _ _ (fun q => e q.2), up2_ne _ _ (fun q => e q.2)]; exact v10 j hj
theorem RP.rowSl (h : RP de L K I F R N O T g V 5 n m t) (hn : n ≤ 1000) (hf : ∀ k, k < 6 → f k = f' k) : RP de L K I F (va_up R (g 6 1) f) N O T g (va_up V 8 f') 5 n m t := by
  obtain ⟨v1, v2, v3, v4, v5, v6, v7, v8, v9, v10⟩ := h.2.2.2
  refine h.ch (fun _ _ _ _ _ _ _ _ _ => rfl) (fun _ _ => rfl) ⟨rfl, rfl, rfl, rfl, rfl, rfl, rfl, rfl, rfl⟩ ⟨v1, fun k hk => ?_, v3, fun k hk => ?_, v5, fun i hi l hl => ?_, v7, v8, fun i hi k hk => ?_, v10⟩
  · rw [va_up_self, va_up_self]; exact hf k hk
  · rw [va_up_ne R f (h.ne (a := 6) (b := 6) (i := 3) (j := 1) (by unfold VLD; omega) (by unfold VLD; omega) (by omega) (by omega) (by omega))]; exact v4 k hk
  · rw [va_up_ne R f (h.ne (a := 3) (b := 6) (i := i) (j := 1) (by unfold VLD; omega) (by unfold VLD; omega) (by omega) (by omega) (by omega))]; exact v6 i hi l hl
  · rw [va_up_ne R f (h.ne (a := 1) (b := 6) (i := i) (j := 1) (by unfold VLD; omega) (by unfold VLD; omega) (by omega) (by omega) (by omega))]; exact v9 i hi k hk
theorem RP.rowD (h : RP de L K I F R N O T g V 5 n m t) (hn : n ≤ 1000) (hf : ∀ k, k < 24 → f k = f' k) : RP de L K I F (va_up R (g 6 3) f) N O T g (va_up V 6 f') 5 n m t := by
  obtain ⟨v1, v2, v3, v4, v5, v6, v7, v8, v9, v10⟩ := h.2.2.2
  refine h.ch (fun _ _ _ _ _ _ _ _ _ => rfl) (fun _ _ => rfl) ⟨rfl, rfl, rfl, rfl, rfl, rfl, rfl, rfl, rfl⟩ ⟨v1, fun k hk => ?_, v3, fun k hk => ?_, v5, fun i hi l hl => ?_, v7, v8, fun i hi k hk => ?_, v10⟩
  · rw [va_up_ne R f (h.ne (a := 6) (b := 6) (i := 1) (j := 3) (by unfold VLD; omega) (by unfold VLD; omega) (by omega) (by omega) (by omega))]; exact v2 k hk
  · rw [va_up_self, va_up_self]; exact hf k hk
  · rw [va_up_ne R f (h.ne (a := 3) (b := 6) (i := i) (j := 3) (by unfold VLD; omega) (by unfold VLD; omega) (by omega) (by omega) (by omega))]; exact v6 i hi l hl
  · rw [va_up_ne R f (h.ne (a := 1) (b := 6) (i := i) (j := 3) (by unfold VLD; omega) (by unfold VLD; omega) (by omega) (by omega) (by omega))]; exact v9 i hi k hk
theorem RP.rowH (h : RP de L K I F R N O T g V 5 n m t) (hn : n ≤ 1000) (hj : j < 5) (hf : ∀ k, k < 60 → f k = f' (60 * j + k)) (hf2 : ∀ i, i < 300 → (∀ k, k < 60 → i ≠ 60 * j + k) → f' i = V 13 i) : RP de L K I F (va_up R (g 3 j) f) N O T g (va_up V 13 f') 5 n m t := by
  obtain ⟨v1, v2, v3, v4, v5, v6, v7, v8, v9, v10⟩ := h.2.2.2
  refine h.ch (fun _ _ _ _ _ _ _ _ _ => rfl) (fun _ _ => rfl) ⟨rfl, rfl, rfl, rfl, rfl, rfl, rfl, rfl, rfl⟩ ⟨v1, fun k hk => ?_, v3, fun k hk => ?_, v5, fun i hi l hl => ?_, v7, v8, fun i hi k hk => ?_, v10⟩
  · rw [va_up_ne R f (h.ne (a := 6) (b := 3) (i := 1) (j := j) (by unfold VLD; omega) (by unfold VLD; omega) (by omega) (by omega) (by omega))]; exact v2 k hk
  · rw [va_up_ne R f (h.ne (a := 6) (b := 3) (i := 3) (j := j) (by unfold VLD; omega) (by unfold VLD; omega) (by omega) (by omega) (by omega))]; exact v4 k hk
  · by_cases e : i = j
    · subst e; rw [va_up_self, va_up_self]; exact hf l hl
    · rw [va_up_ne R f (h.ne (a := 3) (b := 3) (i := i) (j := j) (by unfold VLD; omega) (by unfold VLD; omega) (by omega) (by omega) (by omega)), va_up_self, hf2 _ (by omega) (fun k hk => by omega)]; exact v6 i hi l hl
  · rw [va_up_ne R f (h.ne (a := 1) (b := 3) (i := i) (j := j) (by unfold VLD; omega) (by unfold VLD; omega) (by omega) (by omega) (by omega))]; exact v9 i hi k hk
theorem RP.rowC (h : RP de L K I F R N O T g V 5 n m t) (hn : n ≤ 1000) (hj : j < n) (hf : ∀ k, k < 24 → f k = f' (24 * j + k)) (hf2 : ∀ i, (∀ k, k < 24 → i ≠ 24 * j + k) → f' i = V 0 i) : RP de L K I F (va_up R (g 1 j) f) N O T g (va_up V 0 f') 5 n m t := by
  obtain ⟨v1, v2, v3, v4, v5, v6, v7, v8, v9, v10⟩ := h.2.2.2
  refine h.ch (fun _ _ _ _ _ _ _ _ _ => rfl) (fun _ _ => rfl) ⟨rfl, rfl, rfl, rfl, rfl, rfl, rfl, rfl, rfl⟩ ⟨v1, fun k hk => ?_, v3, fun k hk => ?_, v5, fun i hi l hl => ?_, v7, v8, fun i hi k hk => ?_, v10⟩
  · rw [va_up_ne R f (h.ne (a := 6) (b := 1) (i := 1) (j := j) (by unfold VLD; omega) (by unfold VLD; omega) (by omega) (by omega) (by omega))]; exact v2 k hk
  · rw [va_up_ne R f (h.ne (a := 6) (b := 1) (i := 3) (j := j) (by unfold VLD; omega) (by unfold VLD; omega) (by omega) (by omega) (by omega))]; exact v4 k hk
  · rw [va_up_ne R f (h.ne (a := 3) (b := 1) (i := i) (j := j) (by unfold VLD; omega) (by unfold VLD; omega) (by omega) (by omega) (by omega))]; exact v6 i hi l hl
  · by_cases e : i = j
    · subst e; rw [va_up_self, va_up_self]; exact hf k hk
    · rw [va_up_ne R f (h.ne (a := 1) (b := 1) (i := i) (j := j) (by unfold VLD; omega) (by unfold VLD; omega) (by omega) (by omega) (by omega)), va_up_self, hf2 _ (fun k hk => by omega)]; exact v9 i hi k hk
/-- what a call leaves: a pool that stands for each of the values of P -/
def MUT (G : GG) (X : va_W) (x : Nat) (P : (Nat → Nat → Int) → Prop) (n m t : Nat) (w : va_W) : Prop :=
  ∃ (L : List Nat) (K : Nat → Nat) (I : Nat → Nat → Int) (F : Nat → Nat → Option Nat) (R : Nat → Nat → Int) (N : Nat → Nat) (O : Nat → Nat → Option Nat) (T : Nat → Nat) (g : Nat → Nat → Nat), w = pw G X L K I F R N O ∧ g 6 0 = x ∧ ∀ V, P V → RX (gde G) L K I F R N O T g V n m t
end
