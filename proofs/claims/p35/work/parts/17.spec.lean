/-! what the reference's value V may be, and what each call does to it -/
def goC (a b c : Int) : Int := if a = 0 then 1 else if b = 0 then 2 else if c = 0 then 3 else 0
def b01 (p : Prop) [Decidable p] : Int := if p then 1 else 0
theorem b01_01 (p : Prop) [Decidable p] : b01 p = 0 ∨ b01 p = 1 := by unfold b01; split <;> simp
theorem b01_t {p : Prop} [Decidable p] (h : p) : b01 p = 1 := if_pos h
theorem b01_f {p : Prop} [Decidable p] (h : ¬ p) : b01 p = 0 := if_neg h
def WFV (V : Nat → Nat → Int) (n m t : Nat) : Prop :=
  (V 5 0 = (n : Int) ∧ V 14 0 = (m : Int) ∧ V 21 0 = (t : Int)) ∧ ((1 ≤ n ∧ n ≤ 40) ∧ m ≤ 60 ∧ t ≤ 40) ∧
  (∀ j, j < 960 → 0 ≤ V 0 j ∧ V 0 j ≤ 9) ∧ (V 1 0 = -1 ∧ ∀ i, 0 < i → i < n → 0 ≤ V 1 i ∧ V 1 i < i) ∧ (V 2 0 = 0 ∧ ∀ i, i < 40 → V 2 i = 0 ∨ V 2 i = 1) ∧
  (∀ i, i < n → (0 ≤ V 3 i ∧ V 3 i < 5) ∧ 0 ≤ V 4 i ∧ V 4 i < 5) ∧ (∀ k, k < 24 → -1 ≤ V 6 k ∧ V 6 k ≤ 9) ∧
  (∀ j, j < m → (0 ≤ V 10 j ∧ V 10 j < 24) ∧ (0 ≤ V 11 j ∧ V 11 j ≤ 9) ∧ 0 ≤ V 12 j ∧ V 12 j ≤ 9) ∧
  ((∀ j, j < 300 → V 13 j = 0 ∨ V 13 j = 1) ∧ ∀ h, h < 5 → ∀ j, m ≤ j → j < 60 → V 13 (60 * h + j) = 0) ∧
  (∀ j, j < t → (0 ≤ V 15 j ∧ V 15 j < n) ∧ (0 ≤ V 16 j ∧ V 16 j < 5) ∧ (0 ≤ V 17 j ∧ V 17 j ≤ 2100) ∧ 0 ≤ V 18 j ∧ V 18 j ≤ 50) ∧ (∀ j, j < 40 → V 20 j = 0 ∨ V 20 j = 1) ∧
  (0 ≤ V 9 0 ∧ V 9 0 ≤ 2000)
def wV (V : Nat → Nat → Int) (c k : Nat) : Int := 3 * shV V c k - shV V k k
def bstV (V : Nat → Nat → Int) (c : Nat) : Nat → Nat × Int
  | 0 => (0, 0)
  | k + 1 => if k = 0 ∨ (bstV V c k).2 < wV V c k then (k, wV V c k) else bstV V c k
def gsV (V : Nat → Nat → Int) (c : Nat) : Int := if c = 0 ∨ V 2 c = 1 then V 1 c else ((bstV V c c).1 : Int)
theorem bstV_lt (V : Nat → Nat → Int) (c : Nat) : ∀ k, 0 < k → (bstV V c k).1 < k
  | 0, h => absurd h (Nat.lt_irrefl 0)
  | k + 1, _ => by
    simp only [bstV]
    split
    · exact Nat.lt_succ_self k
    · rename_i h
      have := bstV_lt V c k (by omega)
      omega
theorem wV_rng (V : Nat → Nat → Int) (c k : Nat) : -24 ≤ wV V c k ∧ wV V c k ≤ 72 := by
  have h1 := shc_rng (rdV V c) (rdV V k) 24
  have h2 := shc_rng (rdV V k) (rdV V k) 24
  unfold wV shV
  omega
theorem bstV_rng (V : Nat → Nat → Int) (c : Nat) : ∀ k, -24 ≤ (bstV V c k).2 ∧ (bstV V c k).2 ≤ 72
  | 0 => by show -24 ≤ (0 : Int) ∧ (0 : Int) ≤ 72; omega
  | k + 1 => by
    simp only [bstV]
    split
    · exact wV_rng V c k
    · exact bstV_rng V c k
/-- how many of the places below k a draft f makes unlike to g -/
def wrn (g f : Nat → Int) : Nat → Int
  | 0 => 0
  | k + 1 => wrn g f k + b01 (f k ≠ -1 ∧ g k ≠ f k)
/-- letters worked in, one by one: the row, and how many changed it -/
def wkV (V : Nat → Nat → Int) (h : Nat) (r0 : Nat → Int) : Nat → (Nat → Int) × Int
  | 0 => (r0, 0)
  | j + 1 =>
    let p := wkV V h r0 j
    if V 13 (60 * h + j) = 1 ∧ p.1 (V 10 j).toNat = V 11 j then (va_up p.1 (V 10 j).toNat (V 12 j), p.2 + 1) else p
def smI (f : Nat → Int) : Nat → Int
  | 0 => 0
  | n + 1 => smI f n + f n
theorem smI_cong {f g : Nat → Int} : ∀ n : Nat, (∀ k, k < n → f k = g k) → smI f n = smI g n
  | 0, _ => rfl
  | n + 1, h => by
    have e := smI_cong n (fun k hk => h k (by omega))
    simp only [smI, e, h n (by omega)]
theorem smI_up (f : Nat → Int) (i : Nat) (v : Int) : ∀ n : Nat, smI (va_up f i v) n = if i < n then smI f n - f i + v else smI f n
  | 0 => by rw [if_neg (by omega)]; rfl
  | n + 1 => by
    have e := smI_up f i v n
    simp only [smI]
    by_cases h : i < n
    · rw [if_pos h] at e
      rw [if_pos (by omega), e, va_up_ne _ _ (by omega)]
      omega
    · rw [if_neg h] at e
      by_cases h2 : i = n
      · subst h2
        rw [if_pos (by omega), e, va_up_self]
        omega
      · rw [if_neg (by omega), e, va_up_ne _ _ (by omega)]
theorem smI_nn {f : Nat → Int} : ∀ n : Nat, (∀ k, k < n → 0 ≤ f k) → 0 ≤ smI f n
  | 0, _ => Int.le_refl 0
  | n + 1, h => by
    have e := smI_nn n (fun k hk => h k (by omega))
    have := h n (by omega)
    simp only [smI]
    omega
theorem smI_b01 {p : Nat → Prop} [DecidablePred p] : ∀ n : Nat, 0 ≤ smI (fun k => b01 (p k)) n ∧ smI (fun k => b01 (p k)) n ≤ n
  | 0 => ⟨Int.le_refl 0, Int.le_refl 0⟩
  | n + 1 => by
    have e := smI_b01 (p := p) n
    have := b01_01 (p n)
    simp only [smI]
    omega
/-- what the reference's families may be on the way -/
def FmI (V : Nat → Nat → Int) (n : Nat) (f : Nat → Int) : Prop := ∀ k, k < n → ∃ r : Nat, f k = (r : Int) ∧ r ≤ k ∧ rch V n k r
theorem FmI.step {V : Nat → Nat → Int} {n k j : Nat} {f : Nat → Int} (h : FmI V n f) (hk : k < n) (hj : j < n) (hl : f j < f k) (hkj : kinV V k j = true) : FmI V n (va_up f k (f j)) := by
  intro i hi
  by_cases e : i = k
  · subst e
    obtain ⟨r, a1, a2, a3⟩ := h j hj
    obtain ⟨r2, b1, b2, b3⟩ := h i hk
    exact ⟨r, by rw [va_up_self]; exact a1, by omega, (rch.one hk hj hkj).tr a3⟩
  · obtain ⟨r, a1, a2, a3⟩ := h i hi
    exact ⟨r, by rw [va_up_ne _ _ e]; exact a1, a2, a3⟩
/-- a pass over the pairs, up to (k, j) -/
def PsI (V : Nat → Nat → Int) (n : Nat) (f0 : Nat → Int) (k j : Nat) (f : Nat → Int) (ch : Int) : Prop :=
  FmI V n f ∧ ((ch = 0 ∧ f = f0 ∧ ∀ a b, (a < k ∨ (a = k ∧ b < j)) → a < n → b < n → kinV V a b = true → ¬ f b < f a) ∨ (ch = 1 ∧ smI f n < smI f0 n))
theorem PsI.le {V : Nat → Nat → Int} {n k j : Nat} {f0 f : Nat → Int} {ch : Int} (h : PsI V n f0 k j f ch) : smI f n ≤ smI f0 n := by
  rcases h.2 with ⟨-, h2, -⟩ | ⟨-, h2⟩
  · rw [h2]; exact Int.le_refl _
  · omega
theorem PsI.skip {V : Nat → Nat → Int} {n k j : Nat} {f0 f : Nat → Int} {ch : Int} (h : PsI V n f0 k j f ch) (hn : ¬ (f j < f k ∧ kinV V k j = true)) : PsI V n f0 k (j + 1) f ch := by
  refine ⟨h.1, ?_⟩
  rcases h.2 with ⟨h1, h2, h3⟩ | h1
  · refine .inl ⟨h1, h2, fun a b hab ha hb hk => ?_⟩
    by_cases e : a = k ∧ b = j
    · obtain ⟨rfl, rfl⟩ := e
      exact fun hl => hn ⟨hl, hk⟩
    · exact h3 a b (by omega) ha hb hk
  · exact .inr h1
theorem PsI.set {V : Nat → Nat → Int} {n k j : Nat} {f0 f : Nat → Int} {ch : Int} (h : PsI V n f0 k j f ch) (hk : k < n) (hj : j < n) (hl : f j < f k) (hkj : kinV V k j = true) : PsI V n f0 k (j + 1) (va_up f k (f j)) 1 := by
  have hle := h.le
  refine ⟨h.1.step hk hj hl hkj, .inr ⟨rfl, ?_⟩⟩
  rw [smI_up, if_pos hk]
  omega
theorem PsI.row {V : Nat → Nat → Int} {n k : Nat} {f0 f : Nat → Int} {ch : Int} (h : PsI V n f0 k n f ch) : PsI V n f0 (k + 1) 0 f ch := by
  refine ⟨h.1, ?_⟩
  rcases h.2 with ⟨h1, h2, h3⟩ | h1
  · exact .inl ⟨h1, h2, fun a b hab ha hb hk => h3 a b (by omega) ha hb hk⟩
  · exact .inr h1
theorem PsI.fam {V : Nat → Nat → Int} {n : Nat} {f0 f : Nat → Int} (h : PsI V n f0 n 0 f 0) : IsFam V n f := by
  rcases h.2 with ⟨-, -, h3⟩ | ⟨h1, -⟩
  · refine fun i hi => ⟨h.1 i hi, fun j hj hk => ?_⟩
    have a := h3 i j (.inl hi) hi hj hk
    have b := h3 j i (.inl hj) hj hi (kinV_sym hk)
    omega
  · omega
theorem kinV_fam (V : Nat → Nat → Int) (f : Nat → Int) : kinV (va_up V 24 f) = kinV V := by
  have e0 : va_up V 24 f 0 = V 0 := va_up_ne _ _ (by decide)
  have e1 : va_up V 24 f 1 = V 1 := va_up_ne _ _ (by decide)
  have e2 : va_up V 24 f 2 = V 2 := va_up_ne _ _ (by decide)
  have er : rdV (va_up V 24 f) = rdV V := by
    funext i k
    show va_up V 24 f 0 (24 * i + k) = V 0 (24 * i + k)
    rw [e0]
  have es : shV (va_up V 24 f) = shV V := by
    funext i j
    show shc (rdV (va_up V 24 f) i) (rdV (va_up V 24 f) j) 24 = shc (rdV V i) (rdV V j) 24
    rw [er]
  funext i j
  unfold kinV
  rw [e1, e2, es]
theorem WFV.fam {V : Nat → Nat → Int} {n m t : Nat} (h : WFV V n m t) (f : Nat → Int) : WFV (va_up V 24 f) n m t := by
  unfold WFV at h ⊢
  simp only [va_up, show ¬ (5 = 24) by decide, show ¬ (14 = 24) by decide, show ¬ (21 = 24) by decide, show ¬ (0 = 24) by decide, show ¬ (1 = 24) by decide, show ¬ (2 = 24) by decide, show ¬ (3 = 24) by decide, show ¬ (4 = 24) by decide, show ¬ (6 = 24) by decide, show ¬ (10 = 24) by decide, show ¬ (11 = 24) by decide, show ¬ (12 = 24) by decide, show ¬ (13 = 24) by decide, show ¬ (15 = 24) by decide, show ¬ (16 = 24) by decide, show ¬ (17 = 24) by decide, show ¬ (18 = 24) by decide, show ¬ (20 = 24) by decide, show ¬ (9 = 24) by decide, if_false]
  exact h
theorem WFV.last {V : Nat → Nat → Int} {n m t : Nat} (h : WFV V n m t) (z : Int) : WFV (up2 V 25 0 z) n m t := by
  unfold WFV at h ⊢
  simp only [up2, va_up, show ¬ (5 = 25) by decide, show ¬ (14 = 25) by decide, show ¬ (21 = 25) by decide, show ¬ (0 = 25) by decide, show ¬ (1 = 25) by decide, show ¬ (2 = 25) by decide, show ¬ (3 = 25) by decide, show ¬ (4 = 25) by decide, show ¬ (6 = 25) by decide, show ¬ (10 = 25) by decide, show ¬ (11 = 25) by decide, show ¬ (12 = 25) by decide, show ¬ (13 = 25) by decide, show ¬ (15 = 25) by decide, show ¬ (16 = 25) by decide, show ¬ (17 = 25) by decide, show ¬ (18 = 25) by decide, show ¬ (20 = 25) by decide, show ¬ (9 = 25) by decide, if_false]
  exact h
theorem shV_last (V : Nat → Nat → Int) (z : Int) : shV (up2 V 25 0 z) = shV V := rfl
theorem wV_last (V : Nat → Nat → Int) (z : Int) : wV (up2 V 25 0 z) = wV V := rfl
theorem bstV_last (V : Nat → Nat → Int) (z : Int) (c : Nat) : ∀ k, bstV (up2 V 25 0 z) c k = bstV V c k
  | 0 => rfl
  | k + 1 => by
    have e := bstV_last V z c k
    simp only [bstV, e, wV_last]
theorem gsV_last (V : Nat → Nat → Int) (z : Int) (c : Nat) : gsV (up2 V 25 0 z) c = gsV V c := by
  unfold gsV
  rw [bstV_last]
  rfl
theorem kinV_last (V : Nat → Nat → Int) (z : Int) : kinV (up2 V 25 0 z) = kinV V := rfl
theorem IsFam_last {V : Nat → Nat → Int} {z : Int} {n : Nat} {f : Nat → Int} (h : IsFam (up2 V 25 0 z) n f) : IsFam V n f := h
def rdQ (G : GG) (q : Nat → Nat) (V : Nat → Nat → Int) (Y : va_W) (P : Prop) (ans : Int) : Option Value → va_W → Prop := fun v w =>
  (P ∧ v = some (.int (iI ans)) ∧ w = xm G q (up2 V 25 0 0) ++ Y) ∨ (¬ P ∧ v = some (.int (iI 0)) ∧ w = xm G q (up2 V 25 0 1) ++ Y)
/-- with two ways to fail -/
def rdQ2 (G : GG) (q : Nat → Nat) (V : Nat → Nat → Int) (Y : va_W) (P1 P2 : Prop) (ans : Int) : Option Value → va_W → Prop := fun v w =>
  (P1 ∧ P2 ∧ v = some (.int (iI ans)) ∧ w = xm G q (up2 V 25 0 0) ++ Y) ∨ (¬ P1 ∧ v = some (.int (iI 0)) ∧ w = xm G q (up2 V 25 0 1) ++ Y) ∨ (P1 ∧ ¬ P2 ∧ v = some (.int (iI 0)) ∧ w = xm G q (up2 V 25 0 2) ++ Y)
theorem gsV_rng {V : Nat → Nat → Int} {n m t c : Nat} (hw : WFV V n m t) (hc : c < n) (h0 : 0 < c) : 0 ≤ gsV V c ∧ gsV V c < c := by
  unfold gsV
  split
  · exact hw.2.2.2.1.2 c h0 hc
  · have := bstV_lt V c c h0
    omega
theorem i32_nle {a b : Int32} : ¬ a ≤ b ↔ b < a := Int32.not_le
theorem i32_nlt {a b : Int32} : ¬ a < b ↔ b ≤ a := Int32.not_lt
theorem b01_eq0 {p : Prop} [Decidable p] : b01 p = 0 ↔ ¬ p := by unfold b01; split <;> simp_all
theorem WFV.tell {V : Nat → Nat → Int} {n m t i : Nat} (h : WFV V n m t) (h0 : 0 < i) : WFV (up2 V 2 i 1) n m t := by
  refine ⟨h.1, h.2.1, h.2.2.1, h.2.2.2.1, ⟨?_, fun j hj => ?_⟩, h.2.2.2.2.2⟩
  · rw [up2_ne _ _ (by omega)]; exact h.2.2.2.2.1.1
  · by_cases e : j = i
    · subst e; rw [up2_at]; exact .inr rfl
    · rw [up2_ne _ _ (by omega)]; exact h.2.2.2.2.1.2 j hj
def flQ (G : GG) (q : Nat → Nat) (V : Nat → Nat → Int) (Y : va_W) (k : Int) (v : Option Value) (w : va_W) : Prop := v = some (.int (iI 0)) ∧ w = xm G q (up2 V 25 0 k) ++ Y
def okSlip (V : Nat → Nat → Int) (p r : Int) : Prop := r = -1 ∨ V 6 p.toNat ≠ -1 ∨ iI (V 7 0) < iI 6
def nsSlip (V : Nat → Nat → Int) (p : Nat) (r : Int) : Nat → Nat → Int := up2 (up2 V 7 0 (V 7 0 + (b01 (r ≠ -1) - b01 (V 6 p ≠ -1)))) 6 p r
def okCorrect (V : Nat → Nat → Int) (m : Nat) (h c o p : Int) : Prop := V 4 c.toNat = h ∧ V 4 o.toNat = h ∧ V 0 (24 * c.toNat + p.toNat) ≠ V 0 (24 * o.toNat + p.toNat) ∧ m < 60
def nsCorrect (V : Nat → Nat → Int) (m h c o p : Nat) : Nat → Nat → Int := up2 (up2 (up2 (up2 (up2 (up2 V 10 m p) 11 m (V 0 (24 * c + p))) 12 m (V 0 (24 * o + p))) 13 (60 * h + m) 1) 0 (24 * c + p) (V 0 (24 * o + p))) 14 0 (m + 1)
def okLend (V : Nat → Nat → Int) (t : Nat) (c h pl : Int) : Prop := V 3 c.toNat ≠ h ∧ V 4 c.toNat = V 3 c.toNat ∧ ¬ iI (V 22 h.toNat) < iI pl ∧ t < 40
/-- the letters that the house h has, after it got those of o -/
def gtL (V : Nat → Nat → Int) (m h o : Nat) (f : Nat → Int) : Prop := (∀ k, k < m → f (60 * h + k) = if V 13 (60 * h + k) = 1 ∨ V 13 (60 * o + k) = 1 then 1 else 0) ∧ ∀ j, (∀ k, k < m → j ≠ 60 * h + k) → f j = V 13 j
def nsLend (V : Nat → Nat → Int) (t c h : Nat) (d pl : Int) : Nat → Nat → Int := up2 (up2 (up2 (up2 (up2 (up2 (up2 V 15 t c) 16 t h) 17 t (V 9 0 + d)) 18 t pl) 22 h (V 22 h - pl)) 23 h (V 23 h + pl)) 4 c h
def nsBack (V : Nat → Nat → Int) (l : Nat) : Nat → Nat → Int :=
  let late := lateOf (V 9 0) (V 17 l)
  let lost := lostOf late (V 18 l)
  let b := (V 16 l).toNat
  let o := (V 3 (V 15 l).toNat).toNat
  let V1 := up2 (up2 (up2 V 19 l late) 20 l 1) 23 b (V 23 b - V 18 l)
  let V2 := up2 V1 22 b (V 22 b + (V 18 l - lost))
  up2 (up2 V2 22 o (V2 22 o + lost)) 4 (V 15 l).toNat o
theorem wkV_rng {V : Nat → Nat → Int} {n m t h c : Nat} (hw : WFV V n m t) (hc : c < n) : ∀ j, j ≤ m → (∀ k, k < 24 → 0 ≤ (wkV V h (rdV V c) j).1 k ∧ (wkV V h (rdV V c) j).1 k ≤ 9) ∧ 0 ≤ (wkV V h (rdV V c) j).2 ∧ (wkV V h (rdV V c) j).2 ≤ j
  | 0, _ => by
    have hn := hw.2.1
    exact ⟨fun k hk => hw.2.2.1 (24 * c + k) (by omega), Int.le_refl 0, Int.le_refl 0⟩
  | j + 1, hj => by
    obtain ⟨h1, h2, h3⟩ := wkV_rng (h := h) hw hc j (by omega)
    have l := hw.2.2.2.2.2.2.2.1 j (by omega)
    simp only [wkV]
    split
    · refine ⟨fun k hk => ?_, by show 0 ≤ (wkV V h (rdV V c) j).2 + 1; omega, by show (wkV V h (rdV V c) j).2 + 1 ≤ _; omega⟩
      simp only [va_up]
      split
      · exact l.2.2
      · exact h1 k hk
    · exact ⟨h1, h2, by omega⟩
theorem wrn_rng (g f : Nat → Int) : ∀ k : Nat, 0 ≤ wrn g f k ∧ wrn g f k ≤ k
  | 0 => ⟨Int.le_refl 0, Int.le_refl 0⟩
  | k + 1 => by
    have h := wrn_rng g f k
    have := b01_01 (f k ≠ -1 ∧ g k ≠ f k)
    simp only [wrn]
    omega
/-- the row of readings with the copy c's worked over -/
def wkR (V : Nat → Nat → Int) (h c j : Nat) (f : Nat → Int) : Prop := (∀ k, k < 24 → f (24 * c + k) = (wkV V h (rdV V c) j).1 k) ∧ ∀ i, (∀ k, k < 24 → i ≠ 24 * c + k) → f i = V 0 i
/-- the rows behind a copy's first i places -/
def cpR (V : Nat → Nat → Int) (n mi sc i : Nat) (f0 f6 f8 : Nat → Int) : Prop :=
  (∀ k, k < i → f0 (24 * n + k) = if V 6 k = -1 then V 0 (24 * mi + k) else V 6 k) ∧ (∀ j, (∀ k, k < i → j ≠ 24 * n + k) → f0 j = V 0 j) ∧ (∀ k, k < i → f6 k = -1) ∧ (∀ k, i ≤ k → f6 k = V 6 k) ∧ f8 sc = V 8 sc + wrn (rdV V mi) (V 6) i ∧ ∀ k, k ≠ sc → f8 k = V 8 k
def nsCopy (V : Nat → Nat → Int) (n mi h : Nat) (b : Int) (f0 f6 f8 : Nat → Int) : Nat → Nat → Int := up2 (up2 (up2 (up2 (up2 (up2 (va_up (va_up (va_up V 0 f0) 6 f6) 8 f8) 7 0 0) 1 n mi) 2 n b) 3 n h) 4 n h) 5 0 (n + 1)
theorem w3_0 (V : Nat → Nat → Int) (f0 f6 f8 : Nat → Int) (i : Nat) (v : Int) : up2 (va_up (va_up (va_up V 0 f0) 6 f6) 8 f8) 0 i v = va_up (va_up (va_up V 0 (va_up f0 i v)) 6 f6) 8 f8 := by
  funext c
  by_cases h0 : c = 0
  · subst h0; simp [up2, va_up]
  · by_cases h6 : c = 6
    · subst h6; simp [up2, va_up]
    · by_cases h8 : c = 8
      · subst h8; simp [up2, va_up]
      · simp [up2, va_up, h0, h6, h8]
theorem w3_6 (V : Nat → Nat → Int) (f0 f6 f8 : Nat → Int) (i : Nat) (v : Int) : up2 (va_up (va_up (va_up V 0 f0) 6 f6) 8 f8) 6 i v = va_up (va_up (va_up V 0 f0) 6 (va_up f6 i v)) 8 f8 := by
  funext c
  by_cases h0 : c = 0
  · subst h0; simp [up2, va_up]
  · by_cases h6 : c = 6
    · subst h6; simp [up2, va_up]
    · by_cases h8 : c = 8
      · subst h8; simp [up2, va_up]
      · simp [up2, va_up, h0, h6, h8]
theorem w3_8 (V : Nat → Nat → Int) (f0 f6 f8 : Nat → Int) (i : Nat) (v : Int) : up2 (va_up (va_up (va_up V 0 f0) 6 f6) 8 f8) 8 i v = va_up (va_up (va_up V 0 f0) 6 f6) 8 (va_up f8 i v) := by
  rw [up2_row, va_up_self, up_up]
theorem w3_id (V : Nat → Nat → Int) : va_up (va_up (va_up V 0 (V 0)) 6 (V 6)) 8 (V 8) = V := by
  rw [up_self, up_self, up_self]
