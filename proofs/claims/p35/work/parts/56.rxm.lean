section
variable {de : Nat} {L L' : List Nat} {K K' : Nat → Nat} {I I' : Nat → Nat → Int} {F F' : Nat → Nat → Option Nat} {R R' : Nat → Nat → Int} {N N' : Nat → Nat} {O O' : Nat → Nat → Option Nat} {T T' : Nat → Nat} {g : Nat → Nat → Nat} {V V' : Nat → Nat → Int} {s n m t i j a b : Nat}
/-- the pool's old part is as it was -/
def MON (L L' : List Nat) (K K' : Nat → Nat) (I I' : Nat → Nat → Int) (F F' : Nat → Nat → Option Nat) (R R' : Nat → Nat → Int) (N N' : Nat → Nat) (O O' : Nat → Nat → Option Nat) (T T' : Nat → Nat) : Prop :=
  ∀ b, b ∈ L → (b ∈ L' ∧ K' b = K b ∧ T' b = T b) ∧ (∀ c, I' c b = I c b) ∧ (∀ c, F' c b = F c b) ∧ R' b = R b ∧ N' b = N b ∧ O' b = O b
theorem LT.mono {al e cnt kk : Nat} {ad : Nat → Nat} (hm : MON L L' K K' I I' F F' R R' N N' O O' T T') (h : LST L K I F N O de al e cnt ad ∧ TYP L K N O de e cnt kk) : LST L' K' I' F' N' O' de al e cnt ad ∧ TYP L' K' N' O' de e cnt kk := by
  obtain ⟨⟨h1, h2, h3, h4, h5⟩, h6⟩ := h
  obtain ⟨⟨a1, a2, -⟩, a3, a4, -⟩ := hm _ h1
  refine ⟨⟨a1, a2.trans h2, (a3 16).trans h3, (a4 14).trans h4, ?_⟩, ?_⟩
  · rcases h5 with h5 | ⟨g1, g2, g3, g4, g5, g6⟩
    · exact .inl h5
    · obtain ⟨⟨b1, b2, -⟩, -, -, -, b5, b6⟩ := hm _ g1
      exact .inr ⟨b1, b2.trans g2, by rw [b5]; exact g3, by rw [b5]; exact g4, by rw [b5]; exact g5, fun i hi => by rw [b6]; exact g6 i hi⟩
  · rcases h6 with h6 | h6
    · exact .inl h6
    · rcases h5 with h5 | ⟨g1, -⟩
      · exact .inl h5
      · obtain ⟨-, -, -, -, b5, b6⟩ := hm _ g1
        refine .inr (fun i hi y hy => ?_)
        rw [b5] at hi
        rw [b6] at hy
        obtain ⟨y1, y2⟩ := h6 i hi y hy
        obtain ⟨⟨c1, c2, -⟩, -⟩ := hm _ y1
        exact ⟨c1, c2.trans y2⟩
theorem LST.row {al e cnt : Nat} {ad : Nat → Nat} (h : LST L K I F N O de al e cnt ad) (hc : 0 < cnt) : e ∈ L ∧ K e = 9 := ⟨(h.get hc).1, (h.get hc).2.1⟩
theorem RP.row (h : RP de L K I F R N O T g V s n m t) : ∀ i, i < 4 → 0 < cnL s n m t i → g 7 i ∈ L ∧ K (g 7 i) = 9 := fun i hi hc => by
  have e : i = 0 ∨ i = 1 ∨ i = 2 ∨ i = 3 := by omega
  rcases e with rfl | rfl | rfl | rfl
  · exact h.2.2.1.1.1.row hc
  · exact h.2.2.1.2.1.1.row hc
  · exact h.2.2.1.2.2.1.1.row hc
  · exact h.2.2.1.2.2.2.1.row hc
theorem RP.mono (h : RP de L K I F R N O T g V s n m t) (hm : MON L L' K K' I I' F F' R R' N N' O O' T T') : RP de L' K' I' F' R' N' O' T' g V s n m t := by
  have hrow := h.row
  have q := h
  obtain ⟨⟨a1, a2, a3⟩, ⟨f1, f2, f3, f4, f5, f6⟩, ⟨l1, l2, l3, l4⟩, ⟨v1, v2, v3, v4, v5, v6, v7, v8, v9, v10⟩⟩ := h
  have m0 := fun {i} (hi : i < n) => hm _ (q.g0 hi).1
  have m1 := fun {i} (hi : i < n) => hm _ (q.g1 hi).1
  have m2 := fun {i} (hi : i < s) => hm _ (q.g2 hi).1
  have m3 := fun {i} (hi : i < s) => hm _ (q.g3 hi).1
  have m4 := fun {i} (hi : i < m) => hm _ (q.g4 hi).1
  have m5 := fun {i} (hi : i < t) => hm _ (q.g5 hi).1
  have m6 := fun {i} (hi : i < 8) => hm _ (q.g6 hi).1
  refine ⟨⟨fun a i hv => ?_, fun i hi hc => ?_, a3⟩, ⟨⟨?_, ?_, ?_, ?_, ?_, ?_, ?_⟩, ⟨?_, ?_⟩, fun i hi => ?_, fun i hi => ?_, fun j hj => ?_, fun j hj => ?_⟩, ⟨LT.mono hm l1, LT.mono hm l2, LT.mono hm l3, LT.mono hm l4⟩, ⟨?_, fun k hk => ?_, ?_, fun k hk => ?_, fun i hi => ?_, fun i hi k hk => ?_, fun i hi => ?_, fun i hi => ?_, fun i hi k hk => ?_, fun j hj => ?_⟩⟩
  · obtain ⟨b1, b2, b3⟩ := a1 a i hv
    obtain ⟨⟨c1, c2, c3⟩, -⟩ := hm _ b1
    exact ⟨c1, c2.trans b2, c3.trans b3⟩
  · exact (hm _ (hrow i hi hc).1).1.2.2.trans (a2 i hi hc)
  · exact ((m6 (i := 0) (by decide)).2.2.1 _).trans f1.1
  · exact ((m6 (i := 0) (by decide)).2.2.1 _).trans f1.2.1
  · exact ((m6 (i := 0) (by decide)).2.2.1 _).trans f1.2.2.1
  · exact ((m6 (i := 0) (by decide)).2.2.1 _).trans f1.2.2.2.1
  · exact ((m6 (i := 0) (by decide)).2.2.1 _).trans f1.2.2.2.2.1
  · exact ((m6 (i := 0) (by decide)).2.2.1 _).trans f1.2.2.2.2.2.1
  · exact ((m6 (i := 2) (by decide)).2.2.1 _).trans f1.2.2.2.2.2.2
  · exact (m6 (i := 1) (by decide)).2.2.2.2.1.trans f2.1
  · exact (m6 (i := 3) (by decide)).2.2.2.2.1.trans f2.2
  · obtain ⟨b1, b2, b3⟩ := f3 i hi
    exact ⟨((m2 hi).2.2.1 _).trans b1, (m3 hi).2.2.2.2.1.trans b2, ((m2 hi).2.1 _).trans b3⟩
  · obtain ⟨b1, b2, b3, b4, b5⟩ := f4 i hi
    exact ⟨((m0 hi).2.2.1 _).trans b1, (m1 hi).2.2.2.2.1.trans b2, ((m0 hi).2.1 _).trans b3, ((m0 hi).2.2.1 _).trans b4, ((m0 hi).2.2.1 _).trans b5⟩
  · obtain ⟨b1, b2, b3⟩ := f5 j hj
    exact ⟨((m4 hj).2.1 _).trans b1, ((m4 hj).2.1 _).trans b2, ((m4 hj).2.1 _).trans b3⟩
  · obtain ⟨b1, b2, b3, b4⟩ := f6 j hj
    exact ⟨((m5 hj).2.2.1 _).trans b1, ((m5 hj).2.2.1 _).trans b2, ((m5 hj).2.1 _).trans b3, ((m5 hj).2.1 _).trans b4⟩
  · exact ((m6 (i := 0) (by decide)).2.1 _).trans v1
  · rw [(m6 (i := 1) (by decide)).2.2.2.1]; exact v2 k hk
  · exact ((m6 (i := 2) (by decide)).2.1 _).trans v3
  · rw [(m6 (i := 3) (by decide)).2.2.2.1]; exact v4 k hk
  · exact ⟨((m2 hi).2.1 _).trans (v5 i hi).1, ((m2 hi).2.1 _).trans (v5 i hi).2⟩
  · rw [(m3 hi).2.2.2.1]; exact v6 i hi k hk
  · exact ((m0 hi).2.2.1 _).trans (v7 i hi)
  · exact ((m0 hi).2.1 _).trans (v8 i hi)
  · rw [(m1 hi).2.2.2.1]; exact v9 i hi k hk
  · exact ⟨((m5 hj).2.1 _).trans (v10 j hj).1, fun e => ((m5 hj).2.1 _).trans ((v10 j hj).2 e)⟩
/-- the value may change where the pool doesn't look -/
def VEQ (V V' : Nat → Nat → Int) (s n m t : Nat) : Prop := (V' 9 0 = V 9 0) ∧ (∀ k, k < 6 → V' 8 k = V 8 k) ∧ (V' 7 0 = V 7 0) ∧ (∀ k, k < 24 → V' 6 k = V 6 k) ∧ (∀ i, i < s → V' 22 i = V 22 i ∧ V' 23 i = V 23 i) ∧ (∀ i, i < s → ∀ l, l < 60 → V' 13 (60 * i + l) = V 13 (60 * i + l)) ∧ (∀ i, i < n → V' 1 i = V 1 i ∧ V' 2 i = V 2 i ∧ V' 3 i = V 3 i ∧ V' 4 i = V 4 i) ∧ (∀ i, i < n → ∀ k, k < 24 → V' 0 (24 * i + k) = V 0 (24 * i + k)) ∧ (∀ j, j < m → V' 10 j = V 10 j ∧ V' 11 j = V 11 j ∧ V' 12 j = V 12 j) ∧ (∀ j, j < t → V' 15 j = V 15 j ∧ V' 16 j = V 16 j ∧ V' 17 j = V 17 j ∧ V' 18 j = V 18 j ∧ V' 19 j = V 19 j ∧ V' 20 j = V 20 j)
theorem RP.congV (h : RP de L K I F R N O T g V s n m t) (hv : VEQ V V' s n m t) : RP de L K I F R N O T g V' s n m t := by
  obtain ⟨a, ⟨f1, f2, f3, f4, f5, f6⟩, l, ⟨v1, v2, v3, v4, v5, v6, v7, v8, v9, v10⟩⟩ := h
  obtain ⟨e1, e2, e3, e4, e5, e6, e7, e8, e9, e10⟩ := hv
  refine ⟨a, ⟨f1, f2, f3, fun i hi => ?_, fun j hj => ?_, fun j hj => ?_⟩, l, ⟨by rw [e1]; exact v1, fun k hk => by rw [e2 k hk]; exact v2 k hk, by rw [e3]; exact v3, fun k hk => by rw [e4 k hk]; exact v4 k hk, fun i hi => by rw [(e5 i hi).1, (e5 i hi).2]; exact v5 i hi, fun i hi k hk => by rw [e6 i hi k hk]; exact v6 i hi k hk, fun i hi => ?_, fun i hi => ?_, fun i hi k hk => by rw [e8 i hi k hk]; exact v9 i hi k hk, fun j hj => ?_⟩⟩
  · rw [(e7 i hi).1, (e7 i hi).2.2.1]; exact f4 i hi
  · rw [(e9 j hj).1, (e9 j hj).2.1, (e9 j hj).2.2]; exact f5 j hj
  · rw [(e10 j hj).1, (e10 j hj).2.1, (e10 j hj).2.2.1, (e10 j hj).2.2.2.1]; exact f6 j hj
  · rw [(e7 i hi).2.2.2]; exact v7 i hi
  · rw [(e7 i hi).2.1]; exact v8 i hi
  · rw [(e10 j hj).2.2.2.2.1, (e10 j hj).2.2.2.2.2]; exact v10 j hj
end
