/-! what the reference's value V may be, and what each call does to it -/
def goC (a b c : Int) : Int := if a = 0 then 1 else if b = 0 then 2 else if c = 0 then 3 else 0
def b01 (p : Prop) [Decidable p] : Int := if p then 1 else 0
theorem b01_01 (p : Prop) [Decidable p] : b01 p = 0 ∨ b01 p = 1 := by unfold b01; split <;> simp
theorem b01_t {p : Prop} [Decidable p] (h : p) : b01 p = 1 := if_pos h
theorem b01_f {p : Prop} [Decidable p] (h : ¬ p) : b01 p = 0 := if_neg h
def WFV (V : Nat → Nat → Int) (n m t : Nat) : Prop :=
  (V 5 0 = (n : Int) ∧ V 14 0 = (m : Int) ∧ V 21 0 = (t : Int)) ∧ ((1 ≤ n ∧ n ≤ 40) ∧ m ≤ 60 ∧ t ≤ 40) ∧
  (∀ j, j < 960 → 0 ≤ V 0 j ∧ V 0 j ≤ 9) ∧ (V 1 0 = -1 ∧ ∀ i, 0 < i → i < n → 0 ≤ V 1 i ∧ V 1 i < i) ∧ (V 2 0 = 0 ∧ ∀ i, i < 40 → V 2 i = 0 ∨ V 2 i = 1) ∧
  (∀ i, i < n → (0 ≤ V 3 i ∧ V 3 i < 5) ∧ 0 ≤ V 4 i ∧ V 4 i < 5) ∧ (∀ k, k < 24 → -1 ≤ V 6 k ∧ V 6 k ≤ 9) ∧
  (∀ j, j < m → (0 ≤ V 10 j ∧ V 10 j < 24) ∧ (0 ≤ V 11 j ∧ V 11 j ≤ 9) ∧ 0 ≤ V 12 j ∧ V 12 j ≤ 9) ∧
  ((∀ j, j < 300 → V 13 j = 0 ∨ V 13 j = 1) ∧ ∀ h, h < 5 → ∀ j, m ≤ j → j < 60 → V 13 (60 * h + j) = 0) ∧
  (∀ j, j < t → (0 ≤ V 15 j ∧ V 15 j < n) ∧ (0 ≤ V 16 j ∧ V 16 j < 5) ∧ (0 ≤ V 17 j ∧ V 17 j ≤ 2100) ∧ 0 ≤ V 18 j ∧ V 18 j ≤ 50) ∧ (∀ j, j < 40 → V 20 j = 0 ∨ V 20 j = 1) ∧
  (0 ≤ V 9 0 ∧ V 9 0 ≤ 2000)
def wV (V : Nat → Nat → Int) (c k : Nat) : Int := 3 * shV V c k - shV V k k
def bstV (V : Nat → Nat → Int) (c : Nat) : Nat → Nat × Int
  | 0 => (0, 0)
  | k + 1 => if k = 0 ∨ (bstV V c k).2 < wV V c k then (k, wV V c k) else bstV V c k
def gsV (V : Nat → Nat → Int) (c : Nat) : Int := if c = 0 ∨ V 2 c = 1 then V 1 c else ((bstV V c c).1 : Int)
theorem bstV_lt (V : Nat → Nat → Int) (c : Nat) : ∀ k, 0 < k → (bstV V c k).1 < k
  | 0, h => absurd h (Nat.lt_irrefl 0)
  | k + 1, _ => by
    simp only [bstV]
    split
    · exact Nat.lt_succ_self k
    · rename_i h
      have := bstV_lt V c k (by omega)
      omega
theorem wV_rng (V : Nat → Nat → Int) (c k : Nat) : -24 ≤ wV V c k ∧ wV V c k ≤ 72 := by
  have h1 := shc_rng (rdV V c) (rdV V k) 24
  have h2 := shc_rng (rdV V k) (rdV V k) 24
  unfold wV shV
  omega
theorem bstV_rng (V : Nat → Nat → Int) (c : Nat) : ∀ k, -24 ≤ (bstV V c k).2 ∧ (bstV V c k).2 ≤ 72
  | 0 => by show -24 ≤ (0 : Int) ∧ (0 : Int) ≤ 72; omega
  | k + 1 => by
    simp only [bstV]
    split
    · exact wV_rng V c k
    · exact bstV_rng V c k
/-- how many of the places below k a draft f makes unlike to g -/
def wrn (g f : Nat → Int) : Nat → Int
  | 0 => 0
  | k + 1 => wrn g f k + b01 (f k ≠ -1 ∧ g k ≠ f k)
/-- letters worked in, one by one: the row, and how many changed it -/
def wkV (V : Nat → Nat → Int) (h : Nat) (r0 : Nat → Int) : Nat → (Nat → Int) × Int
  | 0 => (r0, 0)
  | j + 1 =>
    let p := wkV V h r0 j
    if V 13 (60 * h + j) = 1 ∧ p.1 (V 10 j).toNat = V 11 j then (va_up p.1 (V 10 j).toNat (V 12 j), p.2 + 1) else p
