section
variable {κ : KxT} {cc : ByteArray} {nL : Nat} {Ts : List Cond} {own : String} {ret : Option FieldType} {rm0 : Room} {G : GG} {base mc ms : Nat} {post : Option Value → va_W → Prop} {exc : String → va_W → Prop} {cells slots pc pc' : Nat} {lv : List (Nat × Value)} {st : List Value} {ws : va_W}
theorem z_lcmp (C : Cx κ cc nL Ts own ret rm0 G base) {x y : Int64} (d : decode cc pc = .ok (.lcmp, 1)) (hn : pc + 1 = pc') (k0 : x = y → Z κ nL G base mc ms post exc cells slots pc' lv (.int (iI 0) :: st) ws) (k1 : ¬ x = y → ∀ c : Int, c = 1 ∨ c = -1 → Z κ nL G base mc ms post exc cells slots pc' lv (.int (iI c) :: st) ws) : Z κ nL G base mc ms post exc cells slots pc lv (.long y :: .long x :: st) ws := by
  subst hn
  intro ls H locs h hP hD hS T hT X
  by_cases e : x = y
  · obtain ⟨t, a, b⟩ := k0 e ls H locs h hP hD hS T hT X
    refine ⟨t, ?_, b⟩
    have e1 : ¬ y < x := by subst e; exact Int64.lt_irrefl
    jvm_step X.here [X.here.top, C.1, C.2.1, d, e, e1]
    first | exact a | (subst e; exact a) | simpa [e] using a
  · by_cases e2 : y < x
    · obtain ⟨t, a, b⟩ := k1 e 1 (.inl rfl) ls H locs h hP hD hS T hT X
      refine ⟨t, ?_, b⟩
      jvm_step X.here [X.here.top, C.1, C.2.1, d, e, e2]
      exact a
    · obtain ⟨t, a, b⟩ := k1 e (-1) (.inr rfl) ls H locs h hP hD hS T hT X
      refine ⟨t, ?_, b⟩
      jvm_step X.here [X.here.top, C.1, C.2.1, d, e, e2]
      exact a
end
/-- bytes -/
theorem by_and {f r m0 M : Nat} (h1 : f < 256) (h2 : m0 < 256) : (256 * r + f) &&& (256 * M + m0) = 256 * (r &&& M) + (f &&& m0) := by
  apply Nat.eq_of_testBit_eq
  intro i
  have e1 := Nat.testBit_two_pow_mul_add r (i := 8) h1 i
  have e2 := Nat.testBit_two_pow_mul_add M (i := 8) h2 i
  have h3 : f &&& m0 < 2 ^ 8 := Nat.lt_of_le_of_lt Nat.and_le_left h1
  have e3 := Nat.testBit_two_pow_mul_add (r &&& M) (i := 8) h3 i
  rw [Nat.testBit_and, show 256 * r + f = 2 ^ 8 * r + f from rfl, show 256 * M + m0 = 2 ^ 8 * M + m0 from rfl, show 256 * (r &&& M) + (f &&& m0) = 2 ^ 8 * (r &&& M) + (f &&& m0) from rfl, e1, e2, e3]
  by_cases c : i < 8
  · simp [c, Nat.testBit_and]
  · simp [c, Nat.testBit_and]
theorem by_and5 {a b c d e m M : Nat} (ha : a < 256) (hb : b < 256) (hc : c < 256) (hd : d < 256) (he : e < 256) (hm : m < 256) : (a + 256 * (b + 256 * (c + 256 * (d + 256 * e)))) &&& (m + 256 * (m + 256 * (m + 256 * (m + 256 * (m + 256 * M))))) = (a &&& m) + 256 * ((b &&& m) + 256 * ((c &&& m) + 256 * ((d &&& m) + 256 * (e &&& m)))) := by
  have x0 := by_and (f := e) (r := 0) (m0 := m) (M := M) he hm
  have x1 := by_and (f := d) (r := e) (m0 := m) (M := m + 256 * M) hd hm
  have x2 := by_and (f := c) (r := d + 256 * e) (m0 := m) (M := m + 256 * (m + 256 * M)) hc hm
  have x3 := by_and (f := b) (r := c + 256 * (d + 256 * e)) (m0 := m) (M := m + 256 * (m + 256 * (m + 256 * M))) hb hm
  have x4 := by_and (f := a) (r := b + 256 * (c + 256 * (d + 256 * e))) (m0 := m) (M := m + 256 * (m + 256 * (m + 256 * (m + 256 * M)))) ha hm
  simp only [Nat.mul_zero, Nat.zero_add, Nat.zero_and] at x0
  rw [Nat.add_comm a, Nat.add_comm m, x4, Nat.add_comm b, Nat.add_comm m (256 * (m + 256 * (m + 256 * (m + 256 * M)))), x3, Nat.add_comm c, Nat.add_comm m (256 * (m + 256 * (m + 256 * M))), x2, Nat.add_comm d, Nat.add_comm m (256 * (m + 256 * M)), x1, Nat.add_comm m (256 * M), x0]
  omega
