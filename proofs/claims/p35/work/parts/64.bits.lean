theorem lN_and (a b : Nat) : lN a &&& lN b = lN (a &&& b) := by
  apply Int64.toBitVec_inj.mp
  show BitVec.ofNat 64 a &&& BitVec.ofNat 64 b = BitVec.ofNat 64 (a &&& b)
  apply BitVec.eq_of_toNat_eq
  simp [Nat.and_mod_two_pow]
theorem lN_or (a b : Nat) : lN a ||| lN b = lN (a ||| b) := by
  apply Int64.toBitVec_inj.mp
  show BitVec.ofNat 64 a ||| BitVec.ofNat 64 b = BitVec.ofNat 64 (a ||| b)
  apply BitVec.eq_of_toNat_eq
  simp [Nat.or_mod_two_pow]
theorem lN_xor (a b : Nat) : lN a ^^^ lN b = lN (a ^^^ b) := by
  apply Int64.toBitVec_inj.mp
  show BitVec.ofNat 64 a ^^^ BitVec.ofNat 64 b = BitVec.ofNat 64 (a ^^^ b)
  apply BitVec.eq_of_toNat_eq
  simp [Nat.xor_mod_two_pow]
theorem lN_zero {a : Nat} (h : a < 2 ^ 63) : lN a = 0 ↔ a = 0 := by
  constructor
  · intro e
    have e2 : (lN a).toBitVec.toNat = (0 : Int64).toBitVec.toNat := by rw [e]
    have e3 : (BitVec.ofNat 64 a).toNat = 0 := e2
    simp at e3
    omega
  · intro e
    subst e
    rfl
/-- the number with the bits f -/
def bitN (f : Nat → Bool) : Nat → Nat
  | 0 => 0
  | n + 1 => bitN f n + (if f n then 2 ^ n else 0)
theorem bitN_lt (f : Nat → Bool) : ∀ n, bitN f n < 2 ^ n
  | 0 => by show (0 : Nat) < 1; omega
  | n + 1 => by
    have := bitN_lt f n
    have e2 : 2 ^ (n + 1) = 2 * 2 ^ n := by rw [Nat.pow_succ, Nat.mul_comm]
    simp only [bitN]
    split <;> omega
theorem p2or {b n : Nat} (h : b < 2 ^ n) : 2 ^ n + b = 2 ^ n ||| b := by
  have := Nat.two_pow_add_eq_or_of_lt h 1
  rwa [Nat.mul_one] at this
theorem bitN_tb (f : Nat → Bool) : ∀ n i, (bitN f n).testBit i = (decide (i < n) && f i)
  | 0, i => by simp [bitN]
  | n + 1, i => by
    have hl := bitN_lt f n
    have ih := bitN_tb f n i
    simp only [bitN]
    by_cases c : f n
    · rw [if_pos c, Nat.add_comm, p2or hl, Nat.testBit_or, ih, Nat.testBit_two_pow]
      by_cases e : n = i
      · subst e; simp [c]
      · by_cases h : i < n
        · simp [e, h, show i < n + 1 by omega]
        · simp [e, h, show ¬ i < n + 1 by omega]
    · rw [if_neg c, Nat.add_zero, ih]
      by_cases e : n = i
      · subst e; simp [c]
      · by_cases h : i < n
        · simp [h, show i < n + 1 by omega]
        · simp [h, show ¬ i < n + 1 by omega]
theorem bitN_or (f : Nat → Bool) (n : Nat) (h : f n = true) : bitN f n ||| 2 ^ n = bitN f (n + 1) := by
  have hl := bitN_lt f n
  simp only [bitN]
  rw [if_pos h, Nat.add_comm, p2or hl, Nat.or_comm]
theorem bitN_cong {f g : Nat → Bool} : ∀ n, (∀ i, i < n → f i = g i) → bitN f n = bitN g n
  | 0, _ => rfl
  | n + 1, h => by simp only [bitN]; rw [bitN_cong n (fun i hi => h i (by omega)), h n (by omega)]
theorem bitN_ext {a n : Nat} (h : a < 2 ^ n) : bitN (fun i => a.testBit i) n = a := by
  apply Nat.eq_of_testBit_eq
  intro i
  rw [bitN_tb]
  by_cases c : i < n
  · simp [c]
  · have : a.testBit i = false := Nat.testBit_lt_two_pow (Nat.lt_of_lt_of_le h (Nat.pow_le_pow_right (by decide) (by omega)))
    simp [c, this]
theorem bitN_ior (f g : Nat → Bool) (n : Nat) : bitN f n ||| bitN g n = bitN (fun i => f i || g i) n := by
  apply Nat.eq_of_testBit_eq
  intro i
  rw [Nat.testBit_or, bitN_tb, bitN_tb, bitN_tb]
  by_cases c : i < n <;> simp [c]
theorem bitN_diff (f g : Nat → Bool) {n : Nat} (hn : n ≤ 63) : bitN f n &&& (bitN g n ^^^ (2 ^ 64 - 1)) = bitN (fun i => f i && !g i) n := by
  apply Nat.eq_of_testBit_eq
  intro i
  rw [Nat.testBit_and, Nat.testBit_xor, bitN_tb, bitN_tb, bitN_tb, Nat.testBit_two_pow_sub_one]
  by_cases c : i < n
  · simp [c, show i < 64 by omega]
  · simp [c]
theorem bitN_two (f : Nat → Bool) {n k : Nat} (hk : k < n) : (bitN f n &&& 2 ^ k = 0) ↔ f k = false := by
  have hb := bitN_tb f n k
  constructor
  · intro e
    have : (bitN f n &&& 2 ^ k).testBit k = false := by rw [e]; exact Nat.zero_testBit k
    rw [Nat.testBit_and, hb, Nat.testBit_two_pow] at this
    simpa [hk] using this
  · intro e
    apply Nat.eq_of_testBit_eq
    intro i
    rw [Nat.testBit_and, Nat.testBit_two_pow, Nat.zero_testBit]
    by_cases c : k = i
    · subst c; rw [hb, e]; simp
    · simp [c]
theorem bitN_pow {n k : Nat} (hk : k < n) : 2 ^ k = bitN (fun i => decide (i = k)) n := by
  apply Nat.eq_of_testBit_eq
  intro i
  rw [bitN_tb, Nat.testBit_two_pow]
  by_cases c : k = i
  · subst c; simp [hk]
  · simp [c, show ¬ i = k from fun e => c e.symm]
