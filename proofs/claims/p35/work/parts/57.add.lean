section
variable {G : GG} {L L' : List Nat} {K K' : Nat → Nat} {I : Nat → Nat → Int} {F F' : Nat → Nat → Option Nat} {R : Nat → Nat → Int} {N N' : Nat → Nat} {O O' : Nat → Nat → Option Nat} {T : Nat → Nat} {g : Nat → Nat → Nat} {V : Nat → Nat → Int} {s n m t k cnt al e e' : Nat} {z y : Int}
def ADI (I : Nat → Nat → Int) (al : Nat) (z y : Int) : Nat → Nat → Int := up2 (up2 I 15 al z) 16 al y
/-- the frame of an addition -/
def AFR (de : Nat) (L L' : List Nat) (K K' : Nat → Nat) (F F' : Nat → Nat → Option Nat) (N N' : Nat → Nat) (O O' : Nat → Nat → Option Nat) (al e cnt e' : Nat) : Prop :=
  (∀ b, b ∈ L → b ∈ L' ∧ K' b = K b) ∧ (∀ b, b ∈ L → b ≠ e ∨ (cnt = 0 ∧ e = de) → N' b = N b ∧ O' b = O b) ∧ (∀ c b, ¬ (c = 14 ∧ b = al) → F' c b = F c b) ∧ ((¬ (cnt = 0 ∧ e = de) ∧ e' = e ∧ e ∈ L) ∨ e' ∉ L)
theorem AFR.A {de : Nat} (h : RP de L K I F R N O T g V s n m t) (hk : k < 4) (hf : AFR de L L' K K' F F' N N' O O' (g 6 (4 + k)) (g 7 k) (cnL s n m t k) e') : ∀ b, b ∈ L → b ∈ L' ∧ K' b = K b ∧ va_up T e' (7000 + k) b = T b := fun b hb => by
  refine ⟨(hf.1 b hb).1, (hf.1 b hb).2, ?_⟩
  by_cases c : b = e'
  · subst c
    rw [va_up_self]
    rcases hf.2.2.2 with ⟨h1, h2, -⟩ | h1
    · by_cases c0 : cnL s n m t k = 0
      · exact absurd ⟨c0, h.1.2.2 k hk c0⟩ h1
      · rw [h2]; exact (h.1.2.1 k hk (by omega)).symm
    · exact absurd hb h1
  · exact va_up_ne _ _ c
theorem AFR.B {de : Nat} (h : RP de L K I F R N O T g V s n m t) (hk : k < 4) (hf : AFR de L L' K K' F F' N N' O O' (g 6 (4 + k)) (g 7 k) (cnL s n m t k) e') : ∀ b, b ∈ L → K b ≠ 9 → N' b = N b := fun b hb hn => by
  refine (hf.2.1 b hb ?_).1
  by_cases c0 : cnL s n m t k = 0
  · exact .inr ⟨c0, h.1.2.2 k hk c0⟩
  · refine .inl (fun q => hn ?_)
    rw [q]
    exact (h.row k hk (by omega)).2
theorem AFR.C {de j kk : Nat} {ad : Nat → Nat} (h : RP de L K I F R N O T g V s n m t) (hk : k < 4) (hf : AFR de L L' K K' F F' N N' O O' (g 6 (4 + k)) (g 7 k) (cnL s n m t k) e') (hj : j < 4) (hjk : j ≠ k) (hl : LST L K I F N O de (g 6 (4 + j)) (g 7 j) (cnL s n m t j) ad ∧ TYP L K N O de (g 7 j) (cnL s n m t j) kk) :
    LST L' K' (ADI I (g 6 (4 + k)) z y) F' N' O' de (g 6 (4 + j)) (g 7 j) (cnL s n m t j) ad ∧ TYP L' K' N' O' de (g 7 j) (cnL s n m t j) kk := by
  have ne : g 6 (4 + j) ≠ g 6 (4 + k) := fun q => by
    have := h.1.inj (a := 6) (b := 6) (i := 4 + j) (j := 4 + k) (.inr (.inr (.inr (.inr (.inr (.inr ⟨rfl, by omega⟩)))))) (.inr (.inr (.inr (.inr (.inr (.inr ⟨rfl, by omega⟩)))))) (by omega) (by omega) q
    omega
  obtain ⟨⟨h1, h2, h3, h4, h5⟩, h6⟩ := hl
  have i16 : ADI I (g 6 (4 + k)) z y 16 (g 6 (4 + j)) = I 16 (g 6 (4 + j)) := by
    show up2 (up2 I 15 _ z) 16 _ y 16 _ = _
    rw [up2_ne _ _ (fun q => ne q.2), up2_ne _ _ (by omega)]
  by_cases c0 : cnL s n m t j = 0
  · have ed := h.1.2.2 j hj c0
    exact ⟨⟨(hf.1 _ h1).1, (hf.1 _ h1).2.trans h2, i16.trans h3, (hf.2.2.1 14 _ (fun q => ne q.2)).trans h4, .inl ⟨c0, ed⟩⟩, .inl ⟨c0, ed⟩⟩
  · have q5 := h5.resolve_left (fun q => c0 q.1)
    have q6 := h6.resolve_left (fun q => c0 q.1)
    obtain ⟨g1, g2, g3, g4, g5, g6⟩ := q5
    have hd : g 7 j ≠ g 7 k ∨ (cnL s n m t k = 0 ∧ g 7 k = de) := by
      by_cases ck : cnL s n m t k = 0
      · exact .inr ⟨ck, h.1.2.2 k hk ck⟩
      · refine .inl (fun q => ?_)
        have t1 := h.1.2.1 j hj (by omega)
        have t2 := h.1.2.1 k hk (by omega)
        rw [q] at t1
        omega
    obtain ⟨n1, n2⟩ := hf.2.1 _ g1 hd
    refine ⟨⟨(hf.1 _ h1).1, (hf.1 _ h1).2.trans h2, i16.trans h3, (hf.2.2.1 14 _ (fun q => ne q.2)).trans h4, .inr ⟨(hf.1 _ g1).1, (hf.1 _ g1).2.trans g2, by rw [n1]; exact g3, by rw [n1]; exact g4, by rw [n1]; exact g5, fun i hi => by rw [n2]; exact g6 i hi⟩⟩, .inr (fun i hi y hy => ?_)⟩
    rw [n1] at hi
    rw [n2] at hy
    obtain ⟨y1, y2⟩ := q6 i hi y hy
    exact ⟨(hf.1 _ y1).1, (hf.1 _ y1).2.trans y2⟩
theorem AFR.f {de : Nat} (h : RP de L K I F R N O T g V s n m t) (hk : k < 4) (hf : AFR de L L' K K' F F' N N' O O' (g 6 (4 + k)) (g 7 k) (cnL s n m t k) e') : RXf (ADI I (g 6 (4 + k)) z y) F' N' g V s n m t := by
  have hB := hf.B h hk
  have f1 : ∀ c b, c ≠ 14 → F' c b = F c b := fun c b hc => hf.2.2.1 c b (fun q => hc q.1)
  obtain ⟨⟨a1, a2, a3, a4, a5, a6, a7⟩, ⟨b1, b2⟩, c1, c2, c3, c4⟩ := h.2.1
  refine ⟨⟨(f1 _ _ (by decide)).trans a1, (f1 _ _ (by decide)).trans a2, (f1 _ _ (by decide)).trans a3, (f1 _ _ (by decide)).trans a4, (f1 _ _ (by decide)).trans a5, (f1 _ _ (by decide)).trans a6, (f1 _ _ (by decide)).trans a7⟩, ⟨(hB _ (h.g6 (i := 1) (by decide)).1 (by rw [(h.g6 (i := 1) (by decide)).2]; decide)).trans b1, (hB _ (h.g6 (i := 3) (by decide)).1 (by rw [(h.g6 (i := 3) (by decide)).2]; decide)).trans b2⟩, fun i hi => ?_, fun i hi => ?_, c3, fun j hj => ?_⟩
  · exact ⟨(f1 _ _ (by decide)).trans (c1 i hi).1, (hB _ (h.g3 hi).1 (by rw [(h.g3 hi).2]; decide)).trans (c1 i hi).2.1, (c1 i hi).2.2⟩
  · exact ⟨(f1 _ _ (by decide)).trans (c2 i hi).1, (hB _ (h.g1 hi).1 (by rw [(h.g1 hi).2]; decide)).trans (c2 i hi).2.1, (c2 i hi).2.2.1, (f1 _ _ (by decide)).trans (c2 i hi).2.2.2.1, (f1 _ _ (by decide)).trans (c2 i hi).2.2.2.2⟩
  · exact ⟨(f1 _ _ (by decide)).trans (c4 j hj).1, (f1 _ _ (by decide)).trans (c4 j hj).2.1, (c4 j hj).2.2⟩
theorem AFR.v {de : Nat} (h : RP de L K I F R N O T g V s n m t) (hf : AFR de L L' K K' F F' N N' O O' al e cnt e') : RXv (ADI I al z y) F' R g V s n t := by
  obtain ⟨v1, v2, v3, v4, v5, v6, v7, v8, v9, v10⟩ := h.2.2.2
  exact ⟨v1, v2, v3, v4, v5, v6, fun i hi => (hf.2.2.1 3 _ (fun q => absurd q.1 (by decide))).trans (v7 i hi), v8, v9, v10⟩
theorem RP.addL {v : Nat} (h : RP (gde G) L K I F R N O T g V s n m t) (hv : v ∈ L ∧ K v = 3 ∧ T v = 4000 + m)
    (hI : I 7 v = V 10 m ∧ I 8 v = V 11 m ∧ I 9 v = V 12 m)
    (hl : LST L' K' (ADI I (g 6 (4 + 2)) z y) F' N' O' (gde G) (g 6 (4 + 2)) e' (m + 1) (va_up (g 4) m v) ∧ TYP L' K' N' O' (gde G) e' (m + 1) 3)
    (hf : AFR (gde G) L L' K K' F F' N N' O O' (g 6 (4 + 2)) (g 7 2) m e') : RP (gde G) L' K' (ADI I (g 6 (4 + 2)) z y) F' R N' O' (va_up T e' (7000 + 2)) (up2 (up2 g 4 m v) 7 2 e') V s n (m + 1) t := by
  have hf2 : AFR (gde G) L L' K K' F F' N N' O O' (g 6 (4 + 2)) (g 7 2) (cnL s n m t 2) e' := hf
  have hA := hf2.A h (by decide)
  have hg : ∀ a i, ¬ (a = 4 ∧ i = m) → ¬ (a = 7 ∧ i = 2) → up2 (up2 g 4 m v) 7 2 e' a i = g a i := fun a i h1 h2 => by rw [up2_ne _ _ h2, up2_ne _ _ h1]
  have gv : up2 (up2 g 4 m v) 7 2 e' 4 m = v := by rw [up2_ne _ _ (by omega), up2_at]
  have ge : up2 (up2 g 4 m v) 7 2 e' 7 2 = e' := up2_at _ _ _ _
  have f0 : RXf (ADI I (g 6 (4 + 2)) z y) F' N' g V s n m t := hf2.f h (by decide)
  have v0 : RXv (ADI I (g 6 (4 + 2)) z y) F' R g V s n t := hf2.v h
  have hB := hf2.B h (by decide)
  have fF : ∀ c b, c ≠ 14 → F' c b = F c b := fun c b hc => hf.2.2.1 c b (fun q => hc q.1)
  generalize hG : up2 (up2 g 4 m v) 7 2 e' = g' at hg gv ge ⊢
  refine ⟨⟨fun a i hi => ?_, fun i hi hc => ?_, fun i hi hc => ?_⟩, ?_, ?_, ?_⟩
  · by_cases c1 : a = 4 ∧ i = m
    · obtain ⟨rfl, rfl⟩ := c1
      rw [gv]
      obtain ⟨x1, x2, x3⟩ := hA _ hv.1
      exact ⟨x1, x2.trans hv.2.1, x3.trans hv.2.2⟩
    have hi2 : VLD s n m t a i := by unfold VLD at hi ⊢; omega
    rw [hg a i c1 (by unfold VLD at hi2; omega)]
    obtain ⟨x1, x2, x3⟩ := h.1.1 a i hi2
    obtain ⟨y1, y2, y3⟩ := hA _ x1
    exact ⟨y1, y2.trans x2, y3.trans x3⟩
  · by_cases c1 : i = 2
    · subst c1
      rw [ge, va_up_self]
    · have hc2 : 0 < cnL s n m t i := by
        have e1 : i = 0 ∨ i = 1 ∨ i = 2 ∨ i = 3 := by omega
        rcases e1 with rfl | rfl | rfl | rfl <;> first | exact absurd rfl c1 | exact hc
      rw [hg 7 i (by omega) (by omega), (hA _ (h.row i hi hc2).1).2.2]
      exact h.1.2.1 i hi hc2
  · by_cases c1 : i = 2
    · subst c1
      exact absurd hc (Nat.succ_ne_zero _)
    · have hc2 : cnL s n m t i = 0 := by
        have e1 : i = 0 ∨ i = 1 ∨ i = 2 ∨ i = 3 := by omega
        rcases e1 with rfl | rfl | rfl | rfl <;> first | exact absurd rfl c1 | exact hc
      rw [hg 7 i (by omega) (by omega)]
      exact h.1.2.2 i hi hc2
  · refine ⟨⟨by rw [hg 6 0 (by omega) (by omega), hg 6 4 (by omega) (by omega)]; exact f0.1.1, by rw [hg 6 0 (by omega) (by omega), hg 6 5 (by omega) (by omega)]; exact f0.1.2.1, by rw [hg 6 0 (by omega) (by omega), hg 6 6 (by omega) (by omega)]; exact f0.1.2.2.1, by rw [hg 6 0 (by omega) (by omega), hg 6 7 (by omega) (by omega)]; exact f0.1.2.2.2.1, by rw [hg 6 0 (by omega) (by omega), hg 6 1 (by omega) (by omega)]; exact f0.1.2.2.2.2.1, by rw [hg 6 0 (by omega) (by omega), hg 6 2 (by omega) (by omega)]; exact f0.1.2.2.2.2.2.1, by rw [hg 6 2 (by omega) (by omega), hg 6 3 (by omega) (by omega)]; exact f0.1.2.2.2.2.2.2⟩, ⟨by rw [hg 6 1 (by omega) (by omega)]; exact f0.2.1.1, by rw [hg 6 3 (by omega) (by omega)]; exact f0.2.1.2⟩, fun i hi => ?_, fun i hi => ?_, fun j hj => ?_, fun j hj => ?_⟩
    · rw [hg 2 i (by omega) (by omega), hg 3 i (by omega) (by omega)]; exact f0.2.2.1 i hi
    · have := f0.2.2.2.1 i hi
      rw [hg 0 i (by omega) (by omega), hg 1 i (by omega) (by omega), hg 2 _ (by omega) (by omega)]
      by_cases c : V 1 i = -1
      · rw [if_pos c] at this ⊢; exact this
      · rw [if_neg c] at this ⊢; rw [hg 0 _ (by omega) (by omega)]; exact this
    · by_cases q : j = m
      · subst q
        rw [gv]
        exact hI
      · have hj : j < m := by omega
        rw [hg 4 j (by omega) (by omega)]; exact f0.2.2.2.2.1 j hj
    · rw [hg 5 j (by omega) (by omega), hg 0 _ (by omega) (by omega), hg 2 _ (by omega) (by omega)]; exact f0.2.2.2.2.2 j hj
  · exact ⟨by subst hG; exact hf2.C (j := 0) h (by decide) (by decide) (by decide) h.2.2.1.1, by subst hG; exact hf2.C (j := 1) h (by decide) (by decide) (by decide) h.2.2.1.2.1, by subst hG; exact hl, by subst hG; exact hf2.C (j := 3) h (by decide) (by decide) (by decide) h.2.2.1.2.2.2⟩
  · refine ⟨by rw [hg 6 0 (by omega) (by omega)]; exact v0.1, fun k hk => by rw [hg 6 1 (by omega) (by omega)]; exact v0.2.1 k hk, by rw [hg 6 2 (by omega) (by omega)]; exact v0.2.2.1, fun k hk => by rw [hg 6 3 (by omega) (by omega)]; exact v0.2.2.2.1 k hk, fun i hi => ?_, fun i hi k hk => ?_, fun i hi => ?_, fun i hi => ?_, fun i hi k hk => ?_, fun j hj => ?_⟩
    · rw [hg 2 i (by omega) (by omega)]; exact v0.2.2.2.2.1 i hi
    · rw [hg 3 i (by omega) (by omega)]; exact v0.2.2.2.2.2.1 i hi k hk
    · rw [hg 0 i (by omega) (by omega), hg 2 _ (by omega) (by omega)]; exact v0.2.2.2.2.2.2.1 i hi
    · rw [hg 0 i (by omega) (by omega)]; exact v0.2.2.2.2.2.2.2.1 i hi
    · rw [hg 1 i (by omega) (by omega)]; exact v0.2.2.2.2.2.2.2.2.1 i hi k hk
    · rw [hg 5 j (by omega) (by omega)]; exact v0.2.2.2.2.2.2.2.2.2 j hj
theorem RP.addN {v : Nat} (h : RP (gde G) L K I F R N O T g V s n m t) (hv : v ∈ L ∧ K v = 4 ∧ T v = 5000 + t)
    (hI : F 6 v = some (g 0 (V 15 t).toNat) ∧ F 7 v = some (g 2 (V 16 t).toNat) ∧ I 10 v = V 17 t ∧ I 11 v = V 18 t) (hI2 : I 12 v = V 20 t ∧ (V 20 t = 1 → I 13 v = V 19 t))
    (hl : LST L' K' (ADI I (g 6 (4 + 3)) z y) F' N' O' (gde G) (g 6 (4 + 3)) e' (t + 1) (va_up (g 5) t v) ∧ TYP L' K' N' O' (gde G) e' (t + 1) 4)
    (hf : AFR (gde G) L L' K K' F F' N N' O O' (g 6 (4 + 3)) (g 7 3) t e') : RP (gde G) L' K' (ADI I (g 6 (4 + 3)) z y) F' R N' O' (va_up T e' (7000 + 3)) (up2 (up2 g 5 t v) 7 3 e') V s n m (t + 1) := by
  have hf2 : AFR (gde G) L L' K K' F F' N N' O O' (g 6 (4 + 3)) (g 7 3) (cnL s n m t 3) e' := hf
  have hA := hf2.A h (by decide)
  have hg : ∀ a i, ¬ (a = 5 ∧ i = t) → ¬ (a = 7 ∧ i = 3) → up2 (up2 g 5 t v) 7 3 e' a i = g a i := fun a i h1 h2 => by rw [up2_ne _ _ h2, up2_ne _ _ h1]
  have gv : up2 (up2 g 5 t v) 7 3 e' 5 t = v := by rw [up2_ne _ _ (by omega), up2_at]
  have ge : up2 (up2 g 5 t v) 7 3 e' 7 3 = e' := up2_at _ _ _ _
  have f0 : RXf (ADI I (g 6 (4 + 3)) z y) F' N' g V s n m t := hf2.f h (by decide)
  have v0 : RXv (ADI I (g 6 (4 + 3)) z y) F' R g V s n t := hf2.v h
  have hB := hf2.B h (by decide)
  have fF : ∀ c b, c ≠ 14 → F' c b = F c b := fun c b hc => hf.2.2.1 c b (fun q => hc q.1)
  generalize hG : up2 (up2 g 5 t v) 7 3 e' = g' at hg gv ge ⊢
  refine ⟨⟨fun a i hi => ?_, fun i hi hc => ?_, fun i hi hc => ?_⟩, ?_, ?_, ?_⟩
  · by_cases c1 : a = 5 ∧ i = t
    · obtain ⟨rfl, rfl⟩ := c1
      rw [gv]
      obtain ⟨x1, x2, x3⟩ := hA _ hv.1
      exact ⟨x1, x2.trans hv.2.1, x3.trans hv.2.2⟩
    have hi2 : VLD s n m t a i := by unfold VLD at hi ⊢; omega
    rw [hg a i c1 (by unfold VLD at hi2; omega)]
    obtain ⟨x1, x2, x3⟩ := h.1.1 a i hi2
    obtain ⟨y1, y2, y3⟩ := hA _ x1
    exact ⟨y1, y2.trans x2, y3.trans x3⟩
  · by_cases c1 : i = 3
    · subst c1
      rw [ge, va_up_self]
    · have hc2 : 0 < cnL s n m t i := by
        have e1 : i = 0 ∨ i = 1 ∨ i = 2 ∨ i = 3 := by omega
        rcases e1 with rfl | rfl | rfl | rfl <;> first | exact absurd rfl c1 | exact hc
      rw [hg 7 i (by omega) (by omega), (hA _ (h.row i hi hc2).1).2.2]
      exact h.1.2.1 i hi hc2
  · by_cases c1 : i = 3
    · subst c1
      exact absurd hc (Nat.succ_ne_zero _)
    · have hc2 : cnL s n m t i = 0 := by
        have e1 : i = 0 ∨ i = 1 ∨ i = 2 ∨ i = 3 := by omega
        rcases e1 with rfl | rfl | rfl | rfl <;> first | exact absurd rfl c1 | exact hc
      rw [hg 7 i (by omega) (by omega)]
      exact h.1.2.2 i hi hc2
  · refine ⟨⟨by rw [hg 6 0 (by omega) (by omega), hg 6 4 (by omega) (by omega)]; exact f0.1.1, by rw [hg 6 0 (by omega) (by omega), hg 6 5 (by omega) (by omega)]; exact f0.1.2.1, by rw [hg 6 0 (by omega) (by omega), hg 6 6 (by omega) (by omega)]; exact f0.1.2.2.1, by rw [hg 6 0 (by omega) (by omega), hg 6 7 (by omega) (by omega)]; exact f0.1.2.2.2.1, by rw [hg 6 0 (by omega) (by omega), hg 6 1 (by omega) (by omega)]; exact f0.1.2.2.2.2.1, by rw [hg 6 0 (by omega) (by omega), hg 6 2 (by omega) (by omega)]; exact f0.1.2.2.2.2.2.1, by rw [hg 6 2 (by omega) (by omega), hg 6 3 (by omega) (by omega)]; exact f0.1.2.2.2.2.2.2⟩, ⟨by rw [hg 6 1 (by omega) (by omega)]; exact f0.2.1.1, by rw [hg 6 3 (by omega) (by omega)]; exact f0.2.1.2⟩, fun i hi => ?_, fun i hi => ?_, fun j hj => ?_, fun j hj => ?_⟩
    · rw [hg 2 i (by omega) (by omega), hg 3 i (by omega) (by omega)]; exact f0.2.2.1 i hi
    · have := f0.2.2.2.1 i hi
      rw [hg 0 i (by omega) (by omega), hg 1 i (by omega) (by omega), hg 2 _ (by omega) (by omega)]
      by_cases c : V 1 i = -1
      · rw [if_pos c] at this ⊢; exact this
      · rw [if_neg c] at this ⊢; rw [hg 0 _ (by omega) (by omega)]; exact this
    · rw [hg 4 j (by omega) (by omega)]; exact f0.2.2.2.2.1 j hj
    · by_cases q : j = t
      · subst q
        rw [gv, hg 0 _ (by omega) (by omega), hg 2 _ (by omega) (by omega)]
        exact ⟨(fF _ _ (by decide)).trans hI.1, (fF _ _ (by decide)).trans hI.2.1, hI.2.2⟩
      · have hj : j < t := by omega
        rw [hg 5 j (by omega) (by omega), hg 0 _ (by omega) (by omega), hg 2 _ (by omega) (by omega)]; exact f0.2.2.2.2.2 j hj
  · exact ⟨by subst hG; exact hf2.C (j := 0) h (by decide) (by decide) (by decide) h.2.2.1.1, by subst hG; exact hf2.C (j := 1) h (by decide) (by decide) (by decide) h.2.2.1.2.1, by subst hG; exact hf2.C (j := 2) h (by decide) (by decide) (by decide) h.2.2.1.2.2.1, by subst hG; exact hl⟩
  · refine ⟨by rw [hg 6 0 (by omega) (by omega)]; exact v0.1, fun k hk => by rw [hg 6 1 (by omega) (by omega)]; exact v0.2.1 k hk, by rw [hg 6 2 (by omega) (by omega)]; exact v0.2.2.1, fun k hk => by rw [hg 6 3 (by omega) (by omega)]; exact v0.2.2.2.1 k hk, fun i hi => ?_, fun i hi k hk => ?_, fun i hi => ?_, fun i hi => ?_, fun i hi k hk => ?_, fun j hj => ?_⟩
    · rw [hg 2 i (by omega) (by omega)]; exact v0.2.2.2.2.1 i hi
    · rw [hg 3 i (by omega) (by omega)]; exact v0.2.2.2.2.2.1 i hi k hk
    · rw [hg 0 i (by omega) (by omega), hg 2 _ (by omega) (by omega)]; exact v0.2.2.2.2.2.2.1 i hi
    · rw [hg 0 i (by omega) (by omega)]; exact v0.2.2.2.2.2.2.2.1 i hi
    · rw [hg 1 i (by omega) (by omega)]; exact v0.2.2.2.2.2.2.2.2.1 i hi k hk
    · by_cases q : j = t
      · subst q
        rw [gv]
        exact hI2
      · have hj : j < t := by omega
        rw [hg 5 j (by omega) (by omega)]; exact v0.2.2.2.2.2.2.2.2.2 j hj
theorem RP.addC {v r : Nat} (h : RP (gde G) L K I F R N O T g V s n m t) (hv : v ∈ L ∧ K v = 0 ∧ T v = 0 + n) (hr : r ∈ L ∧ K r = 7 ∧ T r = 1000 + n)
    (hI : F 2 v = some r ∧ N r = 24 ∧ I 0 v = (n : Int) ∧ F 0 v = (if V 1 n = -1 then none else some (g 0 (V 1 n).toNat)) ∧ F 1 v = some (g 2 (V 3 n).toNat)) (hI2 : F 3 v = some (g 2 (V 4 n).toNat) ∧ I 1 v = V 2 n ∧ ∀ k, k < 24 → R r k = V 0 (24 * n + k)) (hmi : ∀ i, i ≤ n → V 1 i = -1 ∨ (V 1 i).toNat < n) (hli : ∀ j, j < t → (V 15 j).toNat < n)
    (hl : LST L' K' (ADI I (g 6 (4 + 1)) z y) F' N' O' (gde G) (g 6 (4 + 1)) e' (n + 1) (va_up (g 0) n v) ∧ TYP L' K' N' O' (gde G) e' (n + 1) 0)
    (hf : AFR (gde G) L L' K K' F F' N N' O O' (g 6 (4 + 1)) (g 7 1) n e') : RP (gde G) L' K' (ADI I (g 6 (4 + 1)) z y) F' R N' O' (va_up T e' (7000 + 1)) (up2 (up2 (up2 g 0 n v) 1 n r) 7 1 e') V s (n + 1) m t := by
  have hf2 : AFR (gde G) L L' K K' F F' N N' O O' (g 6 (4 + 1)) (g 7 1) (cnL s n m t 1) e' := hf
  have hA := hf2.A h (by decide)
  have hg : ∀ a i, ¬ (a = 0 ∧ i = n) → ¬ (a = 1 ∧ i = n) → ¬ (a = 7 ∧ i = 1) → up2 (up2 (up2 g 0 n v) 1 n r) 7 1 e' a i = g a i := fun a i h1 h3 h2 => by rw [up2_ne _ _ h2, up2_ne _ _ h3, up2_ne _ _ h1]
  have gv : up2 (up2 (up2 g 0 n v) 1 n r) 7 1 e' 0 n = v := by rw [up2_ne _ _ (by omega), up2_ne _ _ (by omega), up2_at]
  have ge : up2 (up2 (up2 g 0 n v) 1 n r) 7 1 e' 7 1 = e' := up2_at _ _ _ _
  have gr : up2 (up2 (up2 g 0 n v) 1 n r) 7 1 e' 1 n = r := by rw [up2_ne _ _ (by omega), up2_at]
  have f0 : RXf (ADI I (g 6 (4 + 1)) z y) F' N' g V s n m t := hf2.f h (by decide)
  have v0 : RXv (ADI I (g 6 (4 + 1)) z y) F' R g V s n t := hf2.v h
  have hB := hf2.B h (by decide)
  have fF : ∀ c b, c ≠ 14 → F' c b = F c b := fun c b hc => hf.2.2.1 c b (fun q => hc q.1)
  generalize hG : up2 (up2 (up2 g 0 n v) 1 n r) 7 1 e' = g' at hg gv ge gr ⊢
  refine ⟨⟨fun a i hi => ?_, fun i hi hc => ?_, fun i hi hc => ?_⟩, ?_, ?_, ?_⟩
  · by_cases c1 : a = 0 ∧ i = n
    · obtain ⟨rfl, rfl⟩ := c1
      rw [gv]
      obtain ⟨x1, x2, x3⟩ := hA _ hv.1
      exact ⟨x1, x2.trans hv.2.1, x3.trans hv.2.2⟩
    by_cases c2 : a = 1 ∧ i = n
    · obtain ⟨rfl, rfl⟩ := c2
      rw [gr]
      obtain ⟨x1, x2, x3⟩ := hA _ hr.1
      exact ⟨x1, x2.trans hr.2.1, x3.trans hr.2.2⟩
    have hi2 : VLD s n m t a i := by unfold VLD at hi ⊢; omega
    rw [hg a i c1 c2 (by unfold VLD at hi2; omega)]
    obtain ⟨x1, x2, x3⟩ := h.1.1 a i hi2
    obtain ⟨y1, y2, y3⟩ := hA _ x1
    exact ⟨y1, y2.trans x2, y3.trans x3⟩
  · by_cases c1 : i = 1
    · subst c1
      rw [ge, va_up_self]
    · have hc2 : 0 < cnL s n m t i := by
        have e1 : i = 0 ∨ i = 1 ∨ i = 2 ∨ i = 3 := by omega
        rcases e1 with rfl | rfl | rfl | rfl <;> first | exact absurd rfl c1 | exact hc
      rw [hg 7 i (by omega) (by omega) (by omega), (hA _ (h.row i hi hc2).1).2.2]
      exact h.1.2.1 i hi hc2
  · by_cases c1 : i = 1
    · subst c1
      exact absurd hc (Nat.succ_ne_zero _)
    · have hc2 : cnL s n m t i = 0 := by
        have e1 : i = 0 ∨ i = 1 ∨ i = 2 ∨ i = 3 := by omega
        rcases e1 with rfl | rfl | rfl | rfl <;> first | exact absurd rfl c1 | exact hc
      rw [hg 7 i (by omega) (by omega) (by omega)]
      exact h.1.2.2 i hi hc2
  · refine ⟨⟨by rw [hg 6 0 (by omega) (by omega) (by omega), hg 6 4 (by omega) (by omega) (by omega)]; exact f0.1.1, by rw [hg 6 0 (by omega) (by omega) (by omega), hg 6 5 (by omega) (by omega) (by omega)]; exact f0.1.2.1, by rw [hg 6 0 (by omega) (by omega) (by omega), hg 6 6 (by omega) (by omega) (by omega)]; exact f0.1.2.2.1, by rw [hg 6 0 (by omega) (by omega) (by omega), hg 6 7 (by omega) (by omega) (by omega)]; exact f0.1.2.2.2.1, by rw [hg 6 0 (by omega) (by omega) (by omega), hg 6 1 (by omega) (by omega) (by omega)]; exact f0.1.2.2.2.2.1, by rw [hg 6 0 (by omega) (by omega) (by omega), hg 6 2 (by omega) (by omega) (by omega)]; exact f0.1.2.2.2.2.2.1, by rw [hg 6 2 (by omega) (by omega) (by omega), hg 6 3 (by omega) (by omega) (by omega)]; exact f0.1.2.2.2.2.2.2⟩, ⟨by rw [hg 6 1 (by omega) (by omega) (by omega)]; exact f0.2.1.1, by rw [hg 6 3 (by omega) (by omega) (by omega)]; exact f0.2.1.2⟩, fun i hi => ?_, fun i hi => ?_, fun j hj => ?_, fun j hj => ?_⟩
    · rw [hg 2 i (by omega) (by omega) (by omega), hg 3 i (by omega) (by omega) (by omega)]; exact f0.2.2.1 i hi
    · by_cases q : i = n
      · subst q
        have hmi2 := hmi i (Nat.le_refl _)
        rw [gv, gr, hg 2 _ (by omega) (by omega) (by omega)]
        refine ⟨(fF _ _ (by decide)).trans hI.1, (hB _ hr.1 (by rw [hr.2.1]; decide)).trans hI.2.1, hI.2.2.1, (fF _ _ (by decide)).trans ?_, (fF _ _ (by decide)).trans hI.2.2.2.2⟩
        rw [hI.2.2.2.1]
        by_cases c : V 1 i = -1
        · rw [if_pos c, if_pos c]
        · rw [if_neg c, if_neg c, hg 0 _ (by omega) (by omega) (by omega)]
      · have hi : i < n := by omega
        have hmi2 := hmi i (by omega)
        have := f0.2.2.2.1 i hi
        rw [hg 0 i (by omega) (by omega) (by omega), hg 1 i (by omega) (by omega) (by omega), hg 2 _ (by omega) (by omega) (by omega)]
        by_cases c : V 1 i = -1
        · rw [if_pos c] at this ⊢; exact this
        · rw [if_neg c] at this ⊢; rw [hg 0 _ (by omega) (by omega) (by omega)]; exact this
    · rw [hg 4 j (by omega) (by omega) (by omega)]; exact f0.2.2.2.2.1 j hj
    · have hli2 := hli j hj
      rw [hg 5 j (by omega) (by omega) (by omega), hg 0 _ (by omega) (by omega) (by omega), hg 2 _ (by omega) (by omega) (by omega)]; exact f0.2.2.2.2.2 j hj
  · exact ⟨by subst hG; exact hf2.C (j := 0) h (by decide) (by decide) (by decide) h.2.2.1.1, by subst hG; exact hl, by subst hG; exact hf2.C (j := 2) h (by decide) (by decide) (by decide) h.2.2.1.2.2.1, by subst hG; exact hf2.C (j := 3) h (by decide) (by decide) (by decide) h.2.2.1.2.2.2⟩
  · refine ⟨by rw [hg 6 0 (by omega) (by omega) (by omega)]; exact v0.1, fun k hk => by rw [hg 6 1 (by omega) (by omega) (by omega)]; exact v0.2.1 k hk, by rw [hg 6 2 (by omega) (by omega) (by omega)]; exact v0.2.2.1, fun k hk => by rw [hg 6 3 (by omega) (by omega) (by omega)]; exact v0.2.2.2.1 k hk, fun i hi => ?_, fun i hi k hk => ?_, fun i hi => ?_, fun i hi => ?_, fun i hi k hk => ?_, fun j hj => ?_⟩
    · rw [hg 2 i (by omega) (by omega) (by omega)]; exact v0.2.2.2.2.1 i hi
    · rw [hg 3 i (by omega) (by omega) (by omega)]; exact v0.2.2.2.2.2.1 i hi k hk
    · by_cases q : i = n
      · subst q
        rw [gv, hg 2 _ (by omega) (by omega) (by omega)]
        exact (fF _ _ (by decide)).trans hI2.1
      · have hi : i < n := by omega
        rw [hg 0 i (by omega) (by omega) (by omega), hg 2 _ (by omega) (by omega) (by omega)]; exact v0.2.2.2.2.2.2.1 i hi
    · by_cases q : i = n
      · subst q
        rw [gv]
        exact hI2.2.1
      · have hi : i < n := by omega
        rw [hg 0 i (by omega) (by omega) (by omega)]; exact v0.2.2.2.2.2.2.2.1 i hi
    · by_cases q : i = n
      · subst q
        rw [gr]
        exact hI2.2.2 k hk
      · have hi : i < n := by omega
        rw [hg 1 i (by omega) (by omega) (by omega)]; exact v0.2.2.2.2.2.2.2.2.1 i hi k hk
    · rw [hg 5 j (by omega) (by omega) (by omega)]; exact v0.2.2.2.2.2.2.2.2.2 j hj
theorem RP.addH {v r : Nat} (h : RP (gde G) L K I F R N O T g V s n m t) (hv : v ∈ L ∧ K v = 2 ∧ T v = 2000 + s) (hr : r ∈ L ∧ K r = 8 ∧ T r = 3000 + s)
    (hI : F 5 v = some r ∧ N r = 60 ∧ I 4 v = (s : Int)) (hI2 : (I 5 v = V 22 s ∧ I 6 v = V 23 s) ∧ ∀ l, l < 60 → R r l = V 13 (60 * s + l)) (hn0 : n = 0) (ht0 : t = 0)
    (hl : LST L' K' (ADI I (g 6 (4 + 0)) z y) F' N' O' (gde G) (g 6 (4 + 0)) e' (s + 1) (va_up (g 2) s v) ∧ TYP L' K' N' O' (gde G) e' (s + 1) 2)
    (hf : AFR (gde G) L L' K K' F F' N N' O O' (g 6 (4 + 0)) (g 7 0) s e') : RP (gde G) L' K' (ADI I (g 6 (4 + 0)) z y) F' R N' O' (va_up T e' (7000 + 0)) (up2 (up2 (up2 g 2 s v) 3 s r) 7 0 e') V (s + 1) n m t := by
  have hf2 : AFR (gde G) L L' K K' F F' N N' O O' (g 6 (4 + 0)) (g 7 0) (cnL s n m t 0) e' := hf
  have hA := hf2.A h (by decide)
  have hg : ∀ a i, ¬ (a = 2 ∧ i = s) → ¬ (a = 3 ∧ i = s) → ¬ (a = 7 ∧ i = 0) → up2 (up2 (up2 g 2 s v) 3 s r) 7 0 e' a i = g a i := fun a i h1 h3 h2 => by rw [up2_ne _ _ h2, up2_ne _ _ h3, up2_ne _ _ h1]
  have gv : up2 (up2 (up2 g 2 s v) 3 s r) 7 0 e' 2 s = v := by rw [up2_ne _ _ (by omega), up2_ne _ _ (by omega), up2_at]
  have ge : up2 (up2 (up2 g 2 s v) 3 s r) 7 0 e' 7 0 = e' := up2_at _ _ _ _
  have gr : up2 (up2 (up2 g 2 s v) 3 s r) 7 0 e' 3 s = r := by rw [up2_ne _ _ (by omega), up2_at]
  have f0 : RXf (ADI I (g 6 (4 + 0)) z y) F' N' g V s n m t := hf2.f h (by decide)
  have v0 : RXv (ADI I (g 6 (4 + 0)) z y) F' R g V s n t := hf2.v h
  have hB := hf2.B h (by decide)
  have fF : ∀ c b, c ≠ 14 → F' c b = F c b := fun c b hc => hf.2.2.1 c b (fun q => hc q.1)
  generalize hG : up2 (up2 (up2 g 2 s v) 3 s r) 7 0 e' = g' at hg gv ge gr ⊢
  refine ⟨⟨fun a i hi => ?_, fun i hi hc => ?_, fun i hi hc => ?_⟩, ?_, ?_, ?_⟩
  · by_cases c1 : a = 2 ∧ i = s
    · obtain ⟨rfl, rfl⟩ := c1
      rw [gv]
      obtain ⟨x1, x2, x3⟩ := hA _ hv.1
      exact ⟨x1, x2.trans hv.2.1, x3.trans hv.2.2⟩
    by_cases c2 : a = 3 ∧ i = s
    · obtain ⟨rfl, rfl⟩ := c2
      rw [gr]
      obtain ⟨x1, x2, x3⟩ := hA _ hr.1
      exact ⟨x1, x2.trans hr.2.1, x3.trans hr.2.2⟩
    have hi2 : VLD s n m t a i := by unfold VLD at hi ⊢; omega
    rw [hg a i c1 c2 (by unfold VLD at hi2; omega)]
    obtain ⟨x1, x2, x3⟩ := h.1.1 a i hi2
    obtain ⟨y1, y2, y3⟩ := hA _ x1
    exact ⟨y1, y2.trans x2, y3.trans x3⟩
  · by_cases c1 : i = 0
    · subst c1
      rw [ge, va_up_self]
    · have hc2 : 0 < cnL s n m t i := by
        have e1 : i = 0 ∨ i = 1 ∨ i = 2 ∨ i = 3 := by omega
        rcases e1 with rfl | rfl | rfl | rfl <;> first | exact absurd rfl c1 | exact hc
      rw [hg 7 i (by omega) (by omega) (by omega), (hA _ (h.row i hi hc2).1).2.2]
      exact h.1.2.1 i hi hc2
  · by_cases c1 : i = 0
    · subst c1
      exact absurd hc (Nat.succ_ne_zero _)
    · have hc2 : cnL s n m t i = 0 := by
        have e1 : i = 0 ∨ i = 1 ∨ i = 2 ∨ i = 3 := by omega
        rcases e1 with rfl | rfl | rfl | rfl <;> first | exact absurd rfl c1 | exact hc
      rw [hg 7 i (by omega) (by omega) (by omega)]
      exact h.1.2.2 i hi hc2
  · refine ⟨⟨by rw [hg 6 0 (by omega) (by omega) (by omega), hg 6 4 (by omega) (by omega) (by omega)]; exact f0.1.1, by rw [hg 6 0 (by omega) (by omega) (by omega), hg 6 5 (by omega) (by omega) (by omega)]; exact f0.1.2.1, by rw [hg 6 0 (by omega) (by omega) (by omega), hg 6 6 (by omega) (by omega) (by omega)]; exact f0.1.2.2.1, by rw [hg 6 0 (by omega) (by omega) (by omega), hg 6 7 (by omega) (by omega) (by omega)]; exact f0.1.2.2.2.1, by rw [hg 6 0 (by omega) (by omega) (by omega), hg 6 1 (by omega) (by omega) (by omega)]; exact f0.1.2.2.2.2.1, by rw [hg 6 0 (by omega) (by omega) (by omega), hg 6 2 (by omega) (by omega) (by omega)]; exact f0.1.2.2.2.2.2.1, by rw [hg 6 2 (by omega) (by omega) (by omega), hg 6 3 (by omega) (by omega) (by omega)]; exact f0.1.2.2.2.2.2.2⟩, ⟨by rw [hg 6 1 (by omega) (by omega) (by omega)]; exact f0.2.1.1, by rw [hg 6 3 (by omega) (by omega) (by omega)]; exact f0.2.1.2⟩, fun i hi => ?_, fun i hi => ?_, fun j hj => ?_, fun j hj => ?_⟩
    · by_cases q : i = s
      · subst q
        rw [gv, gr]
        exact ⟨(fF _ _ (by decide)).trans hI.1, (hB _ hr.1 (by rw [hr.2.1]; decide)).trans hI.2.1, hI.2.2⟩
      · have hi : i < s := by omega
        rw [hg 2 i (by omega) (by omega) (by omega), hg 3 i (by omega) (by omega) (by omega)]; exact f0.2.2.1 i hi
    · omega
    · rw [hg 4 j (by omega) (by omega) (by omega)]; exact f0.2.2.2.2.1 j hj
    · omega
  · exact ⟨by subst hG; exact hl, by subst hG; exact hf2.C (j := 1) h (by decide) (by decide) (by decide) h.2.2.1.2.1, by subst hG; exact hf2.C (j := 2) h (by decide) (by decide) (by decide) h.2.2.1.2.2.1, by subst hG; exact hf2.C (j := 3) h (by decide) (by decide) (by decide) h.2.2.1.2.2.2⟩
  · refine ⟨by rw [hg 6 0 (by omega) (by omega) (by omega)]; exact v0.1, fun k hk => by rw [hg 6 1 (by omega) (by omega) (by omega)]; exact v0.2.1 k hk, by rw [hg 6 2 (by omega) (by omega) (by omega)]; exact v0.2.2.1, fun k hk => by rw [hg 6 3 (by omega) (by omega) (by omega)]; exact v0.2.2.2.1 k hk, fun i hi => ?_, fun i hi k hk => ?_, fun i hi => ?_, fun i hi => ?_, fun i hi k hk => ?_, fun j hj => ?_⟩
    · by_cases q : i = s
      · subst q
        rw [gv]
        exact hI2.1
      · have hi : i < s := by omega
        rw [hg 2 i (by omega) (by omega) (by omega)]; exact v0.2.2.2.2.1 i hi
    · by_cases q : i = s
      · subst q
        rw [gr]
        exact hI2.2 k hk
      · have hi : i < s := by omega
        rw [hg 3 i (by omega) (by omega) (by omega)]; exact v0.2.2.2.2.2.1 i hi k hk
    · omega
    · omega
    · omega
    · omega
end
