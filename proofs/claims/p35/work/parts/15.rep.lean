/-! counting -/
def shc (f g : Nat → Int) : Nat → Int
  | 0 => 0
  | n + 1 => shc f g n + if f n ≠ 0 ∧ f n = g n then 1 else 0
theorem shc_rng (f g : Nat → Int) : ∀ n : Nat, 0 ≤ shc f g n ∧ shc f g n ≤ n
  | 0 => ⟨Int.le_refl 0, Int.le_refl 0⟩
  | n + 1 => by
    have h := shc_rng f g n
    simp only [shc]
    split <;> omega
theorem shc_cong {f g f' g' : Nat → Int} : ∀ n : Nat, (∀ k, k < n → f k = f' k ∧ g k = g' k) → shc f g n = shc f' g' n
  | 0, _ => rfl
  | n + 1, h => by
    have e := shc_cong n (fun k hk => h k (by omega))
    have h1 := h n (by omega)
    simp only [shc, e, h1.1, h1.2]
theorem shc_pos {f g : Nat → Int} : ∀ n : Nat, 0 < shc f g n ↔ ∃ k, k < n ∧ f k ≠ 0 ∧ f k = g k
  | 0 => by simp [shc]
  | n + 1 => by
    have e := shc_pos (f := f) (g := g) n
    have r := shc_rng f g n
    simp only [shc]
    constructor
    · intro h
      by_cases hc : f n ≠ 0 ∧ f n = g n
      · exact ⟨n, by omega, hc⟩
      · rw [if_neg hc] at h
        obtain ⟨k, hk, h2⟩ := e.mp (by omega)
        exact ⟨k, by omega, h2⟩
    · intro ⟨k, hk, h2⟩
      by_cases hkn : k = n
      · subst hkn
        rw [if_pos h2]
        omega
      · have := e.mpr ⟨k, by omega, h2⟩
        split <;> omega
/-- the copy at a, whose readings lie in the row r -/
def isC (L : List Nat) (K : Nat → Nat) (F : Nat → Nat → Option Nat) (N : Nat → Nat) (a r : Nat) : Prop := a ∈ L ∧ K a = 0 ∧ F 2 a = some r ∧ r ∈ L ∧ K r = 7 ∧ N r = 24
def rg9 (f : Nat → Int) : Prop := ∀ k, k < 24 → 0 ≤ f k ∧ f k ≤ 9
/-- a list of the class: its cell a, its row e, cnt elements ad 0 .. -/
def LST (L : List Nat) (K : Nat → Nat) (I : Nat → Nat → Int) (F : Nat → Nat → Option Nat) (N : Nat → Nat) (O : Nat → Nat → Option Nat) (de a e cnt : Nat) (ad : Nat → Nat) : Prop :=
  a ∈ L ∧ K a = 6 ∧ I 16 a = (cnt : Int) ∧ F 14 a = some e ∧ ((cnt = 0 ∧ e = de) ∨ (e ∈ L ∧ K e = 9 ∧ cnt ≤ N e ∧ 2 ≤ N e ∧ N e ≤ 200 ∧ ∀ i, i < cnt → O e i = some (ad i)))
section
variable {κ : KxT} {nL : Nat} {G : GG} {base mc ms : Nat} {post : Option Value → va_W → Prop} {exc : String → va_W → Prop} {cells slots pc : Nat} {lv : List (Nat × Value)} {st : List Value} {ws : va_W}
theorem z_v1 {v : Value} (kk : Z κ nL G base mc ms post exc cells slots pc lv (v :: st) ws) : Z κ nL G base mc ms post exc cells slots pc lv ((some v).toList ++ st) ws := kk
theorem z_v0 (kk : Z κ nL G base mc ms post exc cells slots pc lv st ws) : Z κ nL G base mc ms post exc cells slots pc lv ((none : Option Value).toList ++ st) ws := kk
end
def tmo (I : Nat → Nat → Int) (F : Nat → Nat → Option Nat) (a : Nat) : Option Nat := if I 1 a = 0 then none else F 0 a
def isD (L : List Nat) (K : Nat → Nat) (F : Nat → Nat → Option Nat) (N : Nat → Nat) (a r : Nat) : Prop := a ∈ L ∧ K a = 1 ∧ F 4 a = some r ∧ r ∈ L ∧ K r = 7 ∧ N r = 24
def isH (L : List Nat) (K : Nat → Nat) (F : Nat → Nat → Option Nat) (N : Nat → Nat) (a r : Nat) : Prop := a ∈ L ∧ K a = 2 ∧ F 5 a = some r ∧ r ∈ L ∧ K r = 8 ∧ N r = 60
def rgD (f : Nat → Int) : Prop := ∀ k, k < 24 → -1 ≤ f k ∧ f k ≤ 9
def rgB (f : Nat → Int) (n : Nat) : Prop := ∀ k, k < n → f k = 0 ∨ f k = 1
theorem up2_self {α : Type} (f : Nat → Nat → α) (c a : Nat) : up2 f c a (f c a) = f := by
  funext i j
  by_cases h1 : i = c
  · subst h1
    by_cases h2 : j = a
    · subst h2; simp [up2, va_up]
    · simp [up2, va_up, h2]
  · simp [up2, va_up, h1]
theorem up2_eq {α : Type} (f : Nat → Nat → α) (c a : Nat) {v : α} (h : f c a = v) : up2 f c a v = f := by rw [← h, up2_self]
theorem up2_up2 {α : Type} (f : Nat → Nat → α) (c a : Nat) (v w : α) : up2 (up2 f c a v) c a w = up2 f c a w := by
  funext i j
  by_cases h1 : i = c
  · subst h1
    by_cases h2 : j = a
    · subst h2; simp [up2, va_up]
    · simp [up2, va_up, h2]
  · simp [up2, va_up, h1]
theorem up2_at {α : Type} (f : Nat → Nat → α) (c a : Nat) (v : α) : up2 f c a v c a = v := by simp [up2, va_up]
theorem up2_ne {α : Type} (f : Nat → Nat → α) {c a c' a' : Nat} (v : α) (h : ¬ (c' = c ∧ a' = a)) : up2 f c a v c' a' = f c' a' := by
  by_cases h1 : c' = c
  · subst h1
    have h2 : ¬ a' = a := fun e => h ⟨rfl, e⟩
    simp [up2, va_up, h2]
  · simp [up2, va_up, h1]
theorem up_self {α : Type} (f : Nat → α) (a : Nat) : va_up f a (f a) = f := by
  funext j
  simp only [va_up]
  split
  · subst_vars; rfl
  · rfl
theorem up_up {α : Type} (f : Nat → α) (a : Nat) (v w : α) : va_up (va_up f a v) a w = va_up f a w := by
  funext j
  simp only [va_up]
  split <;> rfl
theorem upne {α : Type} {f : Nat → α} {q a : Nat} {v : α} {L : List Nat} (h : a ∈ L) (hq : q ∉ L) : va_up f q v a = f a := va_up_ne f v (fun e => hq (e ▸ h))
theorem up2_row {α : Type} (f : Nat → Nat → α) (a k : Nat) (v : α) : up2 f a k v = va_up f a (va_up (f a) k v) := rfl
/-- how many days late -/
def lateOf (day last : Int) : Int := if 0 < day - last then day - last else 0
def lostOf (late pledge : Int) : Int := if late = 0 then 0 else if late ≤ 10 then (pledge + 1) / 2 else pledge
theorem iI_div2 {p : Int} (h : 0 ≤ p ∧ p ≤ 1000) : iI p / iI 2 = iI (p / 2) := by
  obtain ⟨n, rfl⟩ : ∃ n : Nat, p = n := ⟨p.toNat, by omega⟩
  have := pk_div (a := n) (d := 2) (by omega) (by omega) (by omega)
  exact this
theorem iI_max0 {z : Int} (h : -2147483648 ≤ z ∧ z < 2147483648) : (if iI 0 < iI z then iI z else iI 0) = iI (if 0 < z then z else 0) := by
  have e := iI_lt (a := 0) (by omega) h
  by_cases c : 0 < z
  · rw [if_pos c, if_pos (e.mpr c)]
  · rw [if_neg c, if_neg (mt e.mp c)]
def cnK (k : Nat) : String := if k = 0 then RX0 else if k = 2 then RX2 else if k = 3 then RX3 else RX4
def okK (k : Nat) : Prop := k = 0 ∨ k = 2 ∨ k = 3 ∨ k = 4
theorem pw_obj {G : GG} {X : va_W} {L : List Nat} {K : Nat → Nat} {I : Nat → Nat → Int} {F : Nat → Nat → Option Nat} {R : Nat → Nat → Int} {N : Nat → Nat} {O : Nat → Nat → Option Nat} {v k : Nat} (hL : v ∈ L) (hK : K v = k) (ok : okK k) :
    ∃ ci fs T n, (v, .inr (ci, fs)) ∈ pw G X L K I F R N O ∧ vwCl[ci]? = some (cnK k, T, n) := by
  rcases ok with rfl | rfl | rfl | rfl
  · exact ⟨1, _, TX0, 7, pwm_Copy hL hK, rfl⟩
  · exact ⟨3, _, TX2, 4, pwm_House hL hK, rfl⟩
  · exact ⟨4, _, TX3, 3, pwm_Letter hL hK, rfl⟩
  · exact ⟨5, _, TX4, 6, pwm_Loan hL hK, rfl⟩
theorem cnK_ok {k : Nat} (ok : okK k) : (cnK k, "java/lang/Object") ∈ castL := by
  rcases ok with rfl | rfl | rfl | rfl
  · exact List.mem_of_getElem? (i := 0) rfl
  · exact List.mem_of_getElem? (i := 1) rfl
  · exact List.mem_of_getElem? (i := 2) rfl
  · exact List.mem_of_getElem? (i := 3) rfl
theorem LST.get {L : List Nat} {K : Nat → Nat} {I : Nat → Nat → Int} {F : Nat → Nat → Option Nat} {N : Nat → Nat} {O : Nat → Nat → Option Nat} {de a e n i : Nat} {ad : Nat → Nat} (h : LST L K I F N O de a e n ad) (hi : i < n) : e ∈ L ∧ K e = 9 ∧ n ≤ N e ∧ N e ≤ 200 ∧ O e i = some (ad i) := by
  rcases h.2.2.2.2 with ⟨h1, -⟩ | ⟨h1, h2, h3, h4, h5, h6⟩
  · omega
  · exact ⟨h1, h2, h3, h5, h6 i hi⟩
/-- the class's object x, whose field f is the list a -/
def isX (L : List Nat) (K : Nat → Nat) (F : Nat → Nat → Option Nat) (x f a : Nat) : Prop := x ∈ L ∧ K x = 5 ∧ F f x = some a
theorem shl1 {i : Nat} (h : i < 60) : (Int64.ofNat ((1 : Fin 2) : Nat)) <<< ((iI (i : Int)).toInt64 &&& 63) = lN (2 ^ i) := by
  have : ∀ i : Nat, i < 60 → (Int64.ofNat ((1 : Fin 2) : Nat)) <<< ((iI (i : Int)).toInt64 &&& 63) = lN (2 ^ i) := by decide +kernel
  exact this i h
