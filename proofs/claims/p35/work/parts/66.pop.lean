def v5 (a b c d e : Nat) : Nat := a + 256 * (b + 256 * (c + 256 * (d + 256 * e)))
def uB (b : Nat) : Nat := (b / 2) &&& 85
def aB (b : Nat) : Nat := b - uB b
def cB (b : Nat) : Nat := (aB b &&& 51) + ((aB b / 4) &&& 51)
def pB (b : Nat) : Nat := (cB b + cB b / 16) &&& 15
theorem uB_f : ∀ b, b < 256 → ∀ t, t < 2 → (b / 2 + 128 * t) &&& 85 = uB b := by decide +kernel
theorem aB_r : ∀ b, b < 256 → uB b ≤ b ∧ cB b ≤ 68 ∧ cB b % 16 ≤ 4 ∧ pB b ≤ 8 := by decide +kernel
theorem cB_f : ∀ a, a < 256 → ∀ t, t < 4 → (a / 4 + 64 * t) &&& 51 = (a / 4) &&& 51 := by decide +kernel
theorem pB_f : ∀ c, c < 69 → ∀ t, t < 5 → (c + c / 16 + 16 * t) &&& 15 = (c + c / 16) &&& 15 := by decide +kernel
theorem pB_s : ∀ b, b < 256 → pB b = b % 2 + b / 2 % 2 + b / 4 % 2 + b / 8 % 2 + b / 16 % 2 + b / 32 % 2 + b / 64 % 2 + b / 128 % 2 := by decide +kernel
theorem v5_and {a b c d e : Nat} (ha : a < 256) (hb : b < 256) (hc : c < 256) (hd : d < 256) (he : e < 256) (m M Mt : Nat) (hm : m < 256) (hM : Mt = m + 256 * (m + 256 * (m + 256 * (m + 256 * (m + 256 * M))))) : v5 a b c d e &&& Mt = v5 (a &&& m) (b &&& m) (c &&& m) (d &&& m) (e &&& m) := by
  rw [hM]
  exact by_and5 ha hb hc hd he hm
theorem st1 {a b c d e : Nat} (ha : a < 256) (hb : b < 256) (hc : c < 256) (hd : d < 256) (he : e < 256) : (v5 a b c d e / 2) &&& 6148914691236517205 = v5 (uB a) (uB b) (uB c) (uB d) (uB e) := by
  have h : v5 a b c d e / 2 = v5 (a / 2 + 128 * (b % 2)) (b / 2 + 128 * (c % 2)) (c / 2 + 128 * (d % 2)) (d / 2 + 128 * (e % 2)) (e / 2 + 128 * 0) := by unfold v5; omega
  rw [h, v5_and (by omega) (by omega) (by omega) (by omega) (by omega) 85 5592405 _ (by decide) (by decide), uB_f a ha _ (by omega), uB_f b hb _ (by omega), uB_f c hc _ (by omega), uB_f d hd _ (by omega), uB_f e he _ (by omega)]
theorem st1b {a b c d e : Nat} (ha : a < 256) (hb : b < 256) (hc : c < 256) (hd : d < 256) (he : e < 256) : v5 a b c d e - v5 (uB a) (uB b) (uB c) (uB d) (uB e) = v5 (aB a) (aB b) (aB c) (aB d) (aB e) := by
  have h1 := (aB_r a ha).1
  have h2 := (aB_r b hb).1
  have h3 := (aB_r c hc).1
  have h4 := (aB_r d hd).1
  have h5 := (aB_r e he).1
  unfold v5 aB
  omega
theorem aB_lt {b : Nat} (h : b < 256) : aB b < 256 := by unfold aB; omega
theorem st2 {a b c d e : Nat} (ha : a < 256) (hb : b < 256) (hc : c < 256) (hd : d < 256) (he : e < 256) : (v5 (aB a) (aB b) (aB c) (aB d) (aB e) &&& 3689348814741910323) + ((v5 (aB a) (aB b) (aB c) (aB d) (aB e) / 4) &&& 3689348814741910323) = v5 (cB a) (cB b) (cB c) (cB d) (cB e) := by
  have h1 := aB_lt ha
  have h2 := aB_lt hb
  have h3 := aB_lt hc
  have h4 := aB_lt hd
  have h5 := aB_lt he
  have h : v5 (aB a) (aB b) (aB c) (aB d) (aB e) / 4 = v5 (aB a / 4 + 64 * (aB b % 4)) (aB b / 4 + 64 * (aB c % 4)) (aB c / 4 + 64 * (aB d % 4)) (aB d / 4 + 64 * (aB e % 4)) (aB e / 4 + 64 * 0) := by unfold v5; omega
  rw [h, v5_and h1 h2 h3 h4 h5 51 3355443 _ (by decide) (by decide), v5_and (by omega) (by omega) (by omega) (by omega) (by omega) 51 3355443 _ (by decide) (by decide), cB_f _ h1 _ (by omega), cB_f _ h2 _ (by omega), cB_f _ h3 _ (by omega), cB_f _ h4 _ (by omega), cB_f _ h5 _ (by omega)]
  unfold v5 cB
  omega
theorem st3 {a b c d e : Nat} (ha : a < 256) (hb : b < 256) (hc : c < 256) (hd : d < 256) (he : e < 256) : (v5 (cB a) (cB b) (cB c) (cB d) (cB e) + v5 (cB a) (cB b) (cB c) (cB d) (cB e) / 16) &&& 1085102592571150095 = v5 (pB a) (pB b) (pB c) (pB d) (pB e) := by
  have h1 := aB_r a ha
  have h2 := aB_r b hb
  have h3 := aB_r c hc
  have h4 := aB_r d hd
  have h5 := aB_r e he
  have h : v5 (cB a) (cB b) (cB c) (cB d) (cB e) + v5 (cB a) (cB b) (cB c) (cB d) (cB e) / 16 = v5 (cB a + cB a / 16 + 16 * (cB b % 16)) (cB b + cB b / 16 + 16 * (cB c % 16)) (cB c + cB c / 16 + 16 * (cB d % 16)) (cB d + cB d / 16 + 16 * (cB e % 16)) (cB e + cB e / 16 + 16 * 0) := by unfold v5; omega
  rw [h, v5_and (by omega) (by omega) (by omega) (by omega) (by omega) 15 986895 _ (by decide) (by decide), pB_f _ (by omega) _ (by omega), pB_f _ (by omega) _ (by omega), pB_f _ (by omega) _ (by omega), pB_f _ (by omega) _ (by omega), pB_f _ (by omega) _ (by omega)]
  rfl
def f4 (x : Nat) : Nat := x + x / 256
def f5 (x : Nat) : Nat := f4 x + f4 x / 65536
def f6 (x : Nat) : Nat := f5 x + f5 x / 4294967296
theorem st4 {p0 p1 p2 p3 p4 : Nat} (h0 : p0 ≤ 8) (h1 : p1 ≤ 8) (h2 : p2 ≤ 8) (h3 : p3 ≤ 8) (h4 : p4 ≤ 8) : f6 (v5 p0 p1 p2 p3 p4) % 128 = p0 + p1 + p2 + p3 + p4 := by
  have e4 : f4 (v5 p0 p1 p2 p3 p4) = v5 (p0 + p1) (p1 + p2) (p2 + p3) (p3 + p4) p4 := by unfold f4 v5; omega
  have e5 : f5 (v5 p0 p1 p2 p3 p4) = v5 (p0 + p1 + (p2 + p3)) (p1 + p2 + (p3 + p4)) (p2 + p3 + p4) (p3 + p4) p4 := by
    unfold f5
    rw [e4]
    unfold v5
    omega
  have e6 : v5 (p0 + p1 + (p2 + p3)) (p1 + p2 + (p3 + p4)) (p2 + p3 + p4) (p3 + p4) p4 / 4294967296 = p4 := by unfold v5; omega
  unfold f6
  rw [e5, e6]
  unfold v5
  omega
/-- how many of the bits below n are set -/
def cntN (x : Nat) : Nat → Nat
  | 0 => 0
  | n + 1 => cntN x n + x / 2 ^ n % 2
theorem cnt8 (x k : Nat) : cntN x (k + 8) = cntN x k + pB (x / 2 ^ k % 256) := by
  have q : ∀ j : Nat, x / 2 ^ (k + j) = x / 2 ^ k / 2 ^ j := fun j => by rw [Nat.pow_add, Nat.div_div_eq_div_mul]
  have e1 := q 1
  have e2 := q 2
  have e3 := q 3
  have e4 := q 4
  have e5 := q 5
  have e6 := q 6
  have e7 := q 7
  rw [pB_s _ (by omega)]
  show cntN x k + x / 2 ^ k % 2 + x / 2 ^ (k + 1) % 2 + x / 2 ^ (k + 2) % 2 + x / 2 ^ (k + 3) % 2 + x / 2 ^ (k + 4) % 2 + x / 2 ^ (k + 5) % 2 + x / 2 ^ (k + 6) % 2 + x / 2 ^ (k + 7) % 2 = _
  rw [e1, e2, e3, e4, e5, e6, e7]
  generalize x / 2 ^ k = y
  omega
theorem cntN_v5 {a b c d e : Nat} (ha : a < 256) (hb : b < 256) (hc : c < 256) (hd : d < 256) (he : e < 256) : pB a + pB b + pB c + pB d + pB e = cntN (v5 a b c d e) 40 := by
  have q0 := cnt8 (v5 a b c d e) 0
  have q1 := cnt8 (v5 a b c d e) 8
  have q2 := cnt8 (v5 a b c d e) 16
  have q3 := cnt8 (v5 a b c d e) 24
  have q4 := cnt8 (v5 a b c d e) 32
  have r0 : v5 a b c d e / 2 ^ 0 % 256 = a := by unfold v5; omega
  have r1 : v5 a b c d e / 2 ^ 8 % 256 = b := by unfold v5; omega
  have r2 : v5 a b c d e / 2 ^ 16 % 256 = c := by unfold v5; omega
  have r3 : v5 a b c d e / 2 ^ 24 % 256 = d := by unfold v5; omega
  have r4 : v5 a b c d e / 2 ^ 32 % 256 = e := by unfold v5; omega
  rw [r0] at q0
  rw [r1] at q1
  rw [r2] at q2
  rw [r3] at q3
  rw [r4] at q4
  have z : cntN (v5 a b c d e) 0 = 0 := rfl
  rw [show (40 : Nat) = 32 + 8 from rfl, q4, show (32 : Nat) = 24 + 8 from rfl, q3, show (24 : Nat) = 16 + 8 from rfl, q2, show (16 : Nat) = 8 + 8 from rfl, q1, show (8 : Nat) = 0 + 8 from rfl, q0, z]
  omega
def swar (n : Nat) : Nat :=
  let a := n - ((n / 2) &&& 6148914691236517205)
  let b := (a &&& 3689348814741910323) + ((a / 4) &&& 3689348814741910323)
  f6 ((b + b / 16) &&& 1085102592571150095) % 128
theorem v5_of {n : Nat} (h : n < 2 ^ 40) : n = v5 (n % 256) (n / 256 % 256) (n / 65536 % 256) (n / 16777216 % 256) (n / 4294967296) := by unfold v5; omega
theorem swar_cnt {n : Nat} (h : n < 2 ^ 40) : swar n = cntN n 40 := by
  have e := v5_of h
  have h0 : n % 256 < 256 := by omega
  have h1 : n / 256 % 256 < 256 := by omega
  have h2 : n / 65536 % 256 < 256 := by omega
  have h3 : n / 16777216 % 256 < 256 := by omega
  have h4 : n / 4294967296 < 256 := by omega
  generalize n % 256 = a at *
  generalize n / 256 % 256 = b at *
  generalize n / 65536 % 256 = c at *
  generalize n / 16777216 % 256 = d at *
  generalize n / 4294967296 = f at *
  subst e
  unfold swar
  simp only []
  rw [st1 h0 h1 h2 h3 h4, st1b h0 h1 h2 h3 h4, st2 h0 h1 h2 h3 h4, st3 h0 h1 h2 h3 h4, st4 (aB_r _ h0).2.2.2 (aB_r _ h1).2.2.2 (aB_r _ h2).2.2.2 (aB_r _ h3).2.2.2 (aB_r _ h4).2.2.2]
  exact cntN_v5 h0 h1 h2 h3 h4
theorem cntN_bit (f : Nat → Bool) (n : Nat) : ∀ k, k ≤ 40 → (cntN (bitN f n) k : Int) = smI (fun i => b01 (f i = true)) (min k n)
  | 0, _ => by rw [Nat.zero_min]; rfl
  | k + 1, hk => by
    have ih := cntN_bit f n k (by omega)
    have tb := bitN_tb f n k
    rw [Nat.testBit_eq_decide_div_mod_eq] at tb
    simp only [cntN]
    by_cases c : k < n
    · rw [show min (k + 1) n = min k n + 1 by omega]
      simp only [smI]
      rw [show min k n = k by omega] at ih ⊢
      rw [← ih]
      cases hf : f k
      · rw [hf] at tb
        simp at tb
        rw [b01_f (by simp)]
        omega
      · rw [hf] at tb
        simp [c] at tb
        rw [b01_t rfl]
        omega
    · rw [show min (k + 1) n = min k n by omega, ← ih]
      simp [c] at tb
      omega
