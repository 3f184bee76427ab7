/-! counting -/
def shc (f g : Nat → Int) : Nat → Int
  | 0 => 0
  | n + 1 => shc f g n + if f n ≠ 0 ∧ f n = g n then 1 else 0
theorem shc_rng (f g : Nat → Int) : ∀ n : Nat, 0 ≤ shc f g n ∧ shc f g n ≤ n
  | 0 => ⟨Int.le_refl 0, Int.le_refl 0⟩
  | n + 1 => by
    have h := shc_rng f g n
    simp only [shc]
    split <;> omega
theorem shc_cong {f g f' g' : Nat → Int} : ∀ n : Nat, (∀ k, k < n → f k = f' k ∧ g k = g' k) → shc f g n = shc f' g' n
  | 0, _ => rfl
  | n + 1, h => by
    have e := shc_cong n (fun k hk => h k (by omega))
    have h1 := h n (by omega)
    simp only [shc, e, h1.1, h1.2]
theorem shc_pos {f g : Nat → Int} : ∀ n : Nat, 0 < shc f g n ↔ ∃ k, k < n ∧ f k ≠ 0 ∧ f k = g k
  | 0 => by simp [shc]
  | n + 1 => by
    have e := shc_pos (f := f) (g := g) n
    have r := shc_rng f g n
    simp only [shc]
    constructor
    · intro h
      by_cases hc : f n ≠ 0 ∧ f n = g n
      · exact ⟨n, by omega, hc⟩
      · rw [if_neg hc] at h
        obtain ⟨k, hk, h2⟩ := e.mp (by omega)
        exact ⟨k, by omega, h2⟩
    · intro ⟨k, hk, h2⟩
      by_cases hkn : k = n
      · subst hkn
        rw [if_pos h2]
        omega
      · have := e.mpr ⟨k, by omega, h2⟩
        split <;> omega
/-- the copy at a, whose readings lie in the row r -/
def isC (L : List Nat) (K : Nat → Nat) (F : Nat → Nat → Option Nat) (N : Nat → Nat) (a r : Nat) : Prop := a ∈ L ∧ K a = 0 ∧ F 2 a = some r ∧ r ∈ L ∧ K r = 7 ∧ N r = 24
def rg9 (f : Nat → Int) : Prop := ∀ k, k < 24 → 0 ≤ f k ∧ f k ≤ 9
/-- a list of the class: its cell a, its row e, cnt elements ad 0 .. -/
def LST (L : List Nat) (K : Nat → Nat) (I : Nat → Nat → Int) (F : Nat → Nat → Option Nat) (N : Nat → Nat) (O : Nat → Nat → Option Nat) (de a e cnt : Nat) (ad : Nat → Nat) : Prop :=
  a ∈ L ∧ K a = 6 ∧ I 16 a = (cnt : Int) ∧ F 14 a = some e ∧ ((cnt = 0 ∧ e = de) ∨ (e ∈ L ∧ K e = 9 ∧ cnt ≤ N e ∧ 2 ≤ N e ∧ N e ≤ 200 ∧ ∀ i, i < cnt → O e i = some (ad i)))
