/-! bits of the law's numbers: lbt, ibt; a row of twelve readings as fours of bits: nibt -/
def lbt (x : Int64) (i : Nat) : Bool := x.toBitVec.getLsbD i
def ibt (x : Int32) (i : Nat) : Bool := x.toBitVec.getLsbD i
theorem ibt_ext {x y : Int32} (h : ∀ i, i < 32 → ibt x i = ibt y i) : x = y := Int32.toBitVec_inj.mp (BitVec.eq_of_getLsbD_eq (fun i hi => h i hi))
theorem lbt_or (x y : Int64) (i : Nat) : lbt (x ||| y) i = (lbt x i || lbt y i) := by unfold lbt; rw [Int64.toBitVec_or, BitVec.getLsbD_or]
theorem lbt_and (x y : Int64) (i : Nat) : lbt (x &&& y) i = (lbt x i && lbt y i) := by unfold lbt; rw [Int64.toBitVec_and, BitVec.getLsbD_and]
theorem lbt_xor (x y : Int64) (i : Nat) : lbt (x ^^^ y) i = (lbt x i ^^ lbt y i) := by unfold lbt; rw [Int64.toBitVec_xor, BitVec.getLsbD_xor]
theorem ibt_or (x y : Int32) (i : Nat) : ibt (x ||| y) i = (ibt x i || ibt y i) := by unfold ibt; rw [Int32.toBitVec_or, BitVec.getLsbD_or]
theorem ibt_and (x y : Int32) (i : Nat) : ibt (x &&& y) i = (ibt x i && ibt y i) := by unfold ibt; rw [Int32.toBitVec_and, BitVec.getLsbD_and]
theorem ibt_big {x : Int32} {i : Nat} (h : 32 ≤ i) : ibt x i = false := BitVec.getLsbD_of_ge _ _ h
theorem am_l : ∀ n : Nat, n < 64 → (((iI (n : Int)).toInt64 &&& 63).toBitVec.smod 64).toNat = n := by decide +kernel
theorem am_i : ∀ n : Nat, n < 32 → ((iI (n : Int) &&& 31).toBitVec.smod 32).toNat = n := by decide +kernel
theorem lbt_shl (n : Nat) (hn : n < 64) (x : Int64) {i : Nat} (hi : i < 64) : lbt (x <<< ((iI (n : Int)).toInt64 &&& 63)) i = (decide (n ≤ i) && lbt x (i - n)) := by
  unfold lbt
  rw [Int64.toBitVec_shiftLeft]
  show (x.toBitVec <<< (((iI (n : Int)).toInt64 &&& 63).toBitVec.smod 64).toNat).getLsbD i = _
  rw [am_l n hn, BitVec.getLsbD_shiftLeft]
  rcases Nat.lt_or_ge i n with h | h
  · simp [h, Nat.not_le.mpr h]
  · simp [hi, h, Nat.not_lt.mpr h]
theorem lbt_shr (n : Nat) (hn : n < 64) (x : Int64) {i : Nat} (hi : i < 64) : lbt (x >>> ((iI (n : Int)).toInt64 &&& 63)) i = if n + i < 64 then lbt x (n + i) else lbt x 63 := by
  unfold lbt
  rw [Int64.toBitVec_shiftRight]
  show (x.toBitVec.sshiftRight (((iI (n : Int)).toInt64 &&& 63).toBitVec.smod 64).toNat).getLsbD i = _
  rw [am_l n hn, BitVec.getLsbD_sshiftRight, BitVec.msb_eq_getLsbD_last]
  simp [hi]
theorem ibt_shr (n : Nat) (hn : n < 32) (x : Int32) {i : Nat} (hi : i < 32) : ibt (x >>> (iI (n : Int) &&& 31)) i = if n + i < 32 then ibt x (n + i) else ibt x 31 := by
  unfold ibt
  rw [Int32.toBitVec_shiftRight]
  show (x.toBitVec.sshiftRight ((iI (n : Int) &&& 31).toBitVec.smod 32).toNat).getLsbD i = _
  rw [am_i n hn, BitVec.getLsbD_sshiftRight, BitVec.msb_eq_getLsbD_last]
  simp [hi]
theorem ibt_l2i (x : Int64) {i : Nat} (hi : i < 32) : ibt x.toInt32 i = lbt x i := by
  unfold ibt lbt
  show (x.toBitVec.signExtend 32).getLsbD i = _
  rw [BitVec.getLsbD_signExtend, if_pos (by omega), decide_eq_true hi, Bool.true_and]
theorem lbt_15 : ∀ i, i < 64 → lbt 15 i = decide (i < 4) := by decide +kernel
theorem lbt_m1 : ∀ i, i < 64 → lbt (-1) i = true := by decide +kernel
theorem lbt_1 : ∀ i, i < 64 → lbt 1 i = decide (i = 0) := by decide +kernel
theorem lbt_0 : ∀ i, i < 64 → lbt 0 i = false := by decide +kernel
theorem ibt_1 : ∀ i, i < 32 → ibt (iI 1) i = decide (i = 0) := by decide +kernel
theorem ibt_0 : ∀ i, i < 32 → ibt (iI 0) i = false := by decide +kernel
theorem ibt_rd : ∀ r, r < 16 → ∀ i, i < 32 → 4 ≤ i → ibt (iI ((r : Nat) : Int)) i = false := by decide +kernel
theorem lbt_rd : ∀ r, r < 16 → ∀ i, i < 64 → lbt (iI ((r : Nat) : Int)).toInt64 i = (decide (i < 4) && ibt (iI ((r : Nat) : Int)) i) := by decide +kernel
theorem ibt_sh1 : ∀ j, j < 32 → ∀ i, i < 32 → ibt (iI 1 <<< (iI ((j : Nat) : Int) &&& 31)) i = decide (i = j) := by decide +kernel
/-- the reading at the index k of a row -/
def nibt (x : Int64) (k : Nat) : Int32 := ((x >>> ((iI (4 * (k : Int))).toInt64 &&& 63)) &&& 15).toInt32
/-- the row with another reading there -/
def pubt (x : Int64) (k : Nat) (r : Int) : Int64 := (x &&& ((15 <<< ((iI (4 * (k : Int))).toInt64 &&& 63)) ^^^ (-1))) ||| ((iI r).toInt64 <<< ((iI (4 * (k : Int))).toInt64 &&& 63))
theorem ibt_nib (x : Int64) {k i : Nat} (hk : k < 12) (hi : i < 32) : ibt (nibt x k) i = (decide (i < 4) && lbt x (4 * k + i)) := by
  unfold nibt
  rw [ibt_l2i _ hi, lbt_and, lbt_15 i (by omega)]
  have e : (4 * (k : Int)) = ((4 * k : Nat) : Int) := by omega
  rw [e, lbt_shr (4 * k) (by omega) x (by omega)]
  by_cases c : i < 4
  · rw [if_pos (by omega), decide_eq_true c, Bool.and_true, Bool.true_and]
  · rw [decide_eq_false c, Bool.and_false, Bool.false_and]
theorem lbt_pub (x : Int64) {k j : Nat} {r : Nat} (hr : r < 16) (hk : k < 12) (hj : j < 64) : lbt (pubt x k (r : Int)) j = if 4 * k ≤ j ∧ j < 4 * k + 4 then ibt (iI (r : Int)) (j - 4 * k) else lbt x j := by
  unfold pubt
  have e : (4 * (k : Int)) = ((4 * k : Nat) : Int) := by omega
  rw [e, lbt_or, lbt_and, lbt_xor, lbt_m1 j hj, lbt_shl (4 * k) (by omega) _ hj, lbt_shl (4 * k) (by omega) _ hj]
  by_cases c : 4 * k ≤ j
  · rw [decide_eq_true c, Bool.true_and, Bool.true_and, lbt_15 _ (by omega), lbt_rd r hr _ (by omega)]
    by_cases c2 : j < 4 * k + 4
    · rw [if_pos ⟨c, c2⟩, decide_eq_true (show j - 4 * k < 4 by omega)]
      simp
    · rw [if_neg (fun h => c2 h.2), decide_eq_false (show ¬ j - 4 * k < 4 by omega)]
      simp
  · rw [if_neg (fun h => c h.1), decide_eq_false c]
    simp
theorem nibt_pub (x : Int64) {k : Nat} {r : Int} (hr : 0 ≤ r ∧ r < 16) (hk : k < 12) : nibt (pubt x k r) k = iI r := by
  obtain ⟨n, rfl⟩ : ∃ n : Nat, r = (n : Int) := ⟨r.toNat, by omega⟩
  refine ibt_ext (fun i hi => ?_)
  rw [ibt_nib _ hk hi]
  by_cases c : i < 4
  · rw [decide_eq_true c, Bool.true_and, lbt_pub x (by omega) hk (by omega), if_pos ⟨by omega, by omega⟩, Nat.add_sub_cancel_left]
  · rw [decide_eq_false c, Bool.false_and, ibt_rd n (by omega) i hi (by omega)]
theorem nibt_pubne (x : Int64) {k j : Nat} {r : Int} (hr : 0 ≤ r ∧ r < 16) (hk : k < 12) (hj : j < 12) (hne : j ≠ k) : nibt (pubt x k r) j = nibt x j := by
  obtain ⟨n, rfl⟩ : ∃ n : Nat, r = (n : Int) := ⟨r.toNat, by omega⟩
  refine ibt_ext (fun i hi => ?_)
  rw [ibt_nib _ hj hi, ibt_nib _ hj hi]
  by_cases c : i < 4
  · rw [lbt_pub x (by omega) hk (by omega), if_neg (by omega)]
  · rw [decide_eq_false c, Bool.false_and, Bool.false_and]
theorem nibt_0 : ∀ k, k < 12 → nibt 0 k = iI 0 := by decide +kernel
/-- the bit i of a set -/
theorem ibt_t1 (x : Int32) {i : Nat} (hi : i < 32) : (x >>> (iI (i : Int) &&& 31)) &&& iI 1 = iI 1 ↔ ibt x i = true := by
  have e : ∀ j, j < 32 → ibt ((x >>> (iI (i : Int) &&& 31)) &&& iI 1) j = (decide (j = 0) && ibt x i) := by
    intro j hj
    rw [ibt_and, ibt_1 j hj]
    by_cases c : j = 0
    · subst c
      rw [ibt_shr i hi x (by omega), if_pos (by omega), Nat.add_zero]
      simp
    · simp [c]
  constructor
  · intro h
    have := e 0 (by omega)
    rw [h, ibt_1 0 (by omega)] at this
    simpa using this.symm
  · intro h
    refine ibt_ext (fun j hj => ?_)
    rw [e j hj, ibt_1 j hj, h, Bool.and_true]
theorem ibt_t0 (x : Int32) {i : Nat} (hi : i < 32) : (x >>> (iI (i : Int) &&& 31)) &&& iI 1 = 0 ↔ ibt x i = false := by
  have e : ∀ j, j < 32 → ibt ((x >>> (iI (i : Int) &&& 31)) &&& iI 1) j = (decide (j = 0) && ibt x i) := by
    intro j hj
    rw [ibt_and, ibt_1 j hj]
    by_cases c : j = 0
    · subst c
      rw [ibt_shr i hi x (by omega), if_pos (by omega), Nat.add_zero]
      simp
    · simp [c]
  constructor
  · intro h
    have := e 0 (by omega)
    rw [h] at this
    have z : ibt 0 0 = false := ibt_0 0 (by omega)
    rw [z] at this
    simpa using this.symm
  · intro h
    refine ibt_ext (fun j hj => ?_)
    have z : ibt 0 j = false := ibt_0 j hj
    rw [e j hj, h, Bool.and_false, z]
theorem lbt_t1 (x : Int64) {i : Nat} (hi : i < 64) : (x >>> ((iI (i : Int)).toInt64 &&& 63)) &&& 1 = 1 ↔ lbt x i = true := by
  have e : ∀ j, j < 64 → lbt ((x >>> ((iI (i : Int)).toInt64 &&& 63)) &&& 1) j = (decide (j = 0) && lbt x i) := by
    intro j hj
    rw [lbt_and, lbt_1 j hj]
    by_cases c : j = 0
    · subst c
      rw [lbt_shr i hi x (by omega), if_pos (by omega), Nat.add_zero]
      simp
    · simp [c]
  constructor
  · intro h
    have := e 0 (by omega)
    rw [h, lbt_1 0 (by omega)] at this
    simpa using this.symm
  · intro h
    refine Int64.toBitVec_inj.mp (BitVec.eq_of_getLsbD_eq (fun j hj => ?_))
    show lbt _ j = lbt _ j
    rw [e j hj, lbt_1 j hj, h, Bool.and_true]
theorem lbt_set (x : Int64) {m i : Nat} (hm : m < 64) (hi : i < 64) : lbt (x ||| (1 <<< ((iI (m : Int)).toInt64 &&& 63))) i = (lbt x i || decide (i = m)) := by
  rw [lbt_or, lbt_shl m hm _ hi, lbt_1 _ (by omega)]
  by_cases c : i = m
  · subst c; simp
  · by_cases c2 : m ≤ i
    · simp [c, show ¬ i - m = 0 by omega]
    · simp [c, c2]
theorem ibt_same (x : Int32) {j : Nat} (hj : j < 32) (h : ibt x j = true) : x ||| (iI 1 <<< (iI (j : Int) &&& 31)) = x := by
  refine ibt_ext (fun i hi => ?_)
  rw [ibt_or, ibt_sh1 j hj i hi]
  by_cases c : i = j
  · subst c; simp [h]
  · simp [c]
theorem ibt_or0 (x : Int32) : x ||| iI 0 = x := by
  refine ibt_ext (fun i hi => ?_)
  rw [ibt_or, ibt_0 i hi, Bool.or_false]
/-- how many of the first copies a set has -/
def cntt (x : Int32) (n : Nat) : Int := smI (fun i => b01 (ibt x i = true)) n
theorem cntt_le (x : Int32) (n : Nat) : 0 ≤ cntt x n ∧ cntt x n ≤ n := smI_b01 (p := fun i => ibt x i = true) n
theorem cntt_set (x : Int32) {j : Nat} (hj : j < 32) (h : ibt x j = false) : ∀ n, n ≤ 32 → cntt (x ||| (iI 1 <<< (iI (j : Int) &&& 31))) n = cntt x n + if j < n then 1 else 0
  | 0, _ => by simp [cntt, smI]
  | n + 1, hn => by
    have e := cntt_set x hj h n (by omega)
    unfold cntt at e ⊢
    simp only [smI]
    rw [e, ibt_or, ibt_sh1 j hj n (by omega)]
    by_cases c : n = j
    · subst c
      rw [if_neg (by omega), if_pos (by omega), h, b01_t (by simp), b01_f (by simp)]
    · have e2 : (ibt x n || decide (n = j)) = ibt x n := by simp [c]
      rw [e2]
      by_cases c2 : j < n
      · rw [if_pos c2, if_pos (by omega)]; omega
      · rw [if_neg c2, if_neg (by omega)]; omega
/-! numbers: remainders and quotients -/
theorem iI_rem {a b : Int} (ha : 0 ≤ a ∧ a < 2147483648) (hb : 0 < b ∧ b < 2147483648) : iI a % iI b = iI (a % b) := by
  apply Int32.toInt_inj.mp
  have h1 : 0 ≤ a % b := Int.emod_nonneg a (by omega)
  have h2 : a % b < b := Int.emod_lt_of_pos a hb.1
  rw [Int32.toInt_mod, iI_toInt ⟨by omega, ha.2⟩, iI_toInt ⟨by omega, hb.2⟩, iI_toInt ⟨by omega, by omega⟩, Int.tmod_eq_emod_of_nonneg ha.1]
theorem iI_quo {a b : Int} (ha : 0 ≤ a ∧ a < 2147483648) (hb : 0 < b ∧ b < 2147483648) : iI a / iI b = iI (a / b) := by
  obtain ⟨n, rfl⟩ : ∃ n : Nat, a = (n : Int) := ⟨a.toNat, by omega⟩
  obtain ⟨d, rfl⟩ : ∃ d : Nat, b = (d : Int) := ⟨b.toNat, by omega⟩
  exact pk_div (a := n) (d := d) (by omega) (by omega) (by omega)
theorem iI_ne0 {b : Int} (hb : 0 < b ∧ b < 2147483648) : ¬ iI b = 0 := fun h => by
  have := (iI_eq0 (a := b) ⟨by omega, hb.2⟩).mp h
  omega
theorem iI_and31 (x : Int32) : ∃ z : Int, (0 ≤ z ∧ z < 2147483648) ∧ x &&& iI 2147483647 = iI z := by
  obtain ⟨j, h1, h2⟩ := pk_andE x (m := iI 2147483647) 31 (by decide +kernel)
  exact ⟨(j : Int), ⟨by omega, by omega⟩, h2⟩
/-! the twelve places -/
def plc (k : Nat) : Nat := if k = 11 then 23 else 2 * k
def isPl (p : Nat) : Prop := ∃ k, k < 12 ∧ p = plc k
theorem plc_lt {k : Nat} (h : k < 12) : plc k < 24 := by unfold plc; split <;> omega
theorem plc_inj {j k : Nat} (h1 : j < 12) (h2 : k < 12) (h : plc j = plc k) : j = k := by
  unfold plc at h
  split at h <;> split at h <;> omega
theorem not_isPl {p : Nat} (h : p % 2 = 1 ∧ p < 23 ∨ p = 22) : ¬ isPl p := by
  rintro ⟨k, h1, h2⟩
  unfold plc at h2
  split at h2 <;> omega
theorem sh12 {f g : Nat → Int} (hz : ∀ p, p < 24 → ¬ isPl p → f p = 0) : shc f g 24 = shc (fun k => f (plc k)) (fun k => g (plc k)) 12 := by
  have z : ∀ p, p < 24 → (p % 2 = 1 ∧ p < 23 ∨ p = 22) → (if f p ≠ 0 ∧ f p = g p then (1 : Int) else 0) = 0 := fun p h1 h2 => if_neg (fun h => h.1 (hz p h1 (not_isPl h2)))
  simp only [shc, plc]
  rw [z 1 (by decide) (by decide), z 3 (by decide) (by decide), z 5 (by decide) (by decide), z 7 (by decide) (by decide), z 9 (by decide) (by decide), z 11 (by decide) (by decide), z 13 (by decide) (by decide), z 15 (by decide) (by decide), z 17 (by decide) (by decide), z 19 (by decide) (by decide), z 21 (by decide) (by decide), z 22 (by decide) (by decide)]
  simp
theorem wrn12 {g f : Nat → Int} (hz : ∀ p, p < 24 → ¬ isPl p → f p = -1) : wrn g f 24 = wrn (fun k => g (plc k)) (fun k => f (plc k)) 12 := by
  have z : ∀ p, p < 24 → (p % 2 = 1 ∧ p < 23 ∨ p = 22) → b01 (f p ≠ -1 ∧ g p ≠ f p) = 0 := fun p h1 h2 => b01_f (fun h => h.1 (hz p h1 (not_isPl h2)))
  simp only [wrn, plc]
  rw [z 1 (by decide) (by decide), z 3 (by decide) (by decide), z 5 (by decide) (by decide), z 7 (by decide) (by decide), z 9 (by decide) (by decide), z 11 (by decide) (by decide), z 13 (by decide) (by decide), z 15 (by decide) (by decide), z 17 (by decide) (by decide), z 19 (by decide) (by decide), z 21 (by decide) (by decide), z 22 (by decide) (by decide)]
  simp
