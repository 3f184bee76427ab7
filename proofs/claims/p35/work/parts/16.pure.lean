/-! the reference's rows as the value of the system: V k j; copies, kin, families -/
def rdV (V : Nat → Nat → Int) (i : Nat) : Nat → Int := fun k => V 0 (24 * i + k)
def shV (V : Nat → Nat → Int) (i j : Nat) : Int := shc (rdV V i) (rdV V j) 24
def kinV (V : Nat → Nat → Int) (i j : Nat) : Bool := decide (0 < shV V i j) || decide (V 2 i = 1 ∧ V 1 i = (j : Int)) || decide (V 2 j = 1 ∧ V 1 j = (i : Int))
theorem shV_sym (V : Nat → Nat → Int) (i j : Nat) : 0 < shV V i j ↔ 0 < shV V j i := by
  unfold shV
  rw [shc_pos, shc_pos]
  constructor
  · rintro ⟨k, h1, h2, h3⟩
    exact ⟨k, h1, by rw [← h3]; exact h2, h3.symm⟩
  · rintro ⟨k, h1, h2, h3⟩
    exact ⟨k, h1, by rw [← h3]; exact h2, h3.symm⟩
theorem kinV_sym {V : Nat → Nat → Int} {i j : Nat} (h : kinV V i j = true) : kinV V j i = true := by
  unfold kinV at h ⊢
  simp only [Bool.or_eq_true, decide_eq_true_eq] at h ⊢
  rcases h with (h | h) | h
  · exact .inl (.inl ((shV_sym V i j).mp h))
  · exact .inr h
  · exact .inl (.inr h)
/-- j is reached from i within the copies below n -/
def rch (V : Nat → Nat → Int) (n i j : Nat) : Prop := ∀ P : Nat → Prop, P i → (∀ a b, a < n → b < n → kinV V a b = true → P a → P b) → P j
theorem rch.rf {V : Nat → Nat → Int} {n i : Nat} : rch V n i i := fun _ h _ => h
theorem rch.tr {V : Nat → Nat → Int} {n i j k : Nat} (h1 : rch V n i j) (h2 : rch V n j k) : rch V n i k := fun P hi hs => h2 P (h1 P hi hs) hs
theorem rch.one {V : Nat → Nat → Int} {n i j : Nat} (hi : i < n) (hj : j < n) (h : kinV V i j = true) : rch V n i j := fun _ hP hs => hs i j hi hj h hP
theorem rch.sym {V : Nat → Nat → Int} {n i j : Nat} (h : rch V n i j) : rch V n j i := h (fun z => rch V n z i) .rf (fun _ _ ha hb hk hP => (rch.one hb ha (kinV_sym hk)).tr hP)
theorem rch.up {V : Nat → Nat → Int} {n m i j : Nat} (h : rch V n i j) (hm : n ≤ m) : rch V m i j := fun P hP hs => h P hP (fun a b ha hb => hs a b (by omega) (by omega))
def IsFam (V : Nat → Nat → Int) (n : Nat) (f : Nat → Int) : Prop := ∀ i, i < n → (∃ r : Nat, f i = (r : Int) ∧ r ≤ i ∧ rch V n i r) ∧ ∀ j, j < n → kinV V i j = true → f i = f j
theorem IsFam.const {V : Nat → Nat → Int} {n : Nat} {f : Nat → Int} (h : IsFam V n f) {i j : Nat} (hi : i < n) (hr : rch V n i j) : j < n ∧ f i = f j :=
  hr (fun z => z < n ∧ f i = f z) ⟨hi, rfl⟩ (fun a b ha hb hk hP => ⟨hb, hP.2.trans ((h a ha).2 b hb hk)⟩)
theorem IsFam.uniq {V : Nat → Nat → Int} {n : Nat} {f g : Nat → Int} (hf : IsFam V n f) (hg : IsFam V n g) {i : Nat} (hi : i < n) : f i = g i := by
  obtain ⟨⟨r, h1, h2, h3⟩, -⟩ := hf i hi
  obtain ⟨⟨q, g1, g2, g3⟩, -⟩ := hg i hi
  obtain ⟨hr, e1⟩ := hg.const hi h3
  obtain ⟨hq, e2⟩ := hf.const hi g3
  obtain ⟨⟨r2, a1, a2, -⟩, -⟩ := hf q hq
  obtain ⟨⟨q2, b1, b2, -⟩, -⟩ := hg r hr
  omega
theorem IsFam.cong {V : Nat → Nat → Int} {n : Nat} {f g : Nat → Int} (hf : IsFam V n f) (h : ∀ i, i < n → f i = g i) : IsFam V n g := fun i hi => by
  obtain ⟨⟨r, h1, h2, h3⟩, h4⟩ := hf i hi
  exact ⟨⟨r, by rw [← h i hi]; exact h1, h2, h3⟩, fun j hj hk => by rw [← h i hi, ← h j hj]; exact h4 j hj hk⟩
/-- one family gets the other's number, the lower one -/
def jnF (a b : Int) (f : Nat → Int) : Nat → Int := fun i => if f i = max a b then min a b else f i
/-- the state while the copy k is entered: families of the copies up to k, and its kin below c joined -/
def EntF (V : Nat → Nat → Int) (k c : Nat) (f : Nat → Int) : Prop :=
  (∀ i, i ≤ k → ∃ r : Nat, f i = (r : Int) ∧ r ≤ i ∧ rch V (k + 1) i r) ∧ (∀ i j, i < k → j < k → kinV V i j = true → f i = f j) ∧ ∀ j, j < c → kinV V k j = true → f k = f j
theorem EntF.start {V : Nat → Nat → Int} {k : Nat} {f : Nat → Int} (h : IsFam V k f) : EntF V k 0 (fun i => if i = k then (k : Int) else f i) := by
  refine ⟨fun i hi => ?_, fun i j hi hj hk => ?_, fun j hj => absurd hj (by omega)⟩
  · by_cases e : i = k
    · subst e
      exact ⟨i, by simp, Nat.le_refl _, .rf⟩
    · obtain ⟨⟨r, h1, h2, h3⟩, -⟩ := h i (by omega)
      exact ⟨r, by simp only [if_neg e]; exact h1, h2, h3.up (by omega)⟩
  · simp only [if_neg (show ¬ i = k by omega), if_neg (show ¬ j = k by omega)]
    exact (h i hi).2 j hj hk
theorem EntF.skip {V : Nat → Nat → Int} {k c : Nat} {f : Nat → Int} (h : EntF V k c f) (hc : f c = f k ∨ kinV V k c = false) : EntF V k (c + 1) f := by
  refine ⟨h.1, h.2.1, fun j hj hk => ?_⟩
  by_cases e : j = c
  · subst e
    rcases hc with h1 | h1
    · exact h1.symm
    · rw [h1] at hk; cases hk
  · exact h.2.2 j (by omega) hk
theorem EntF.join {V : Nat → Nat → Int} {k c : Nat} {f : Nat → Int} (h : EntF V k c f) (hck : c < k) (hk : kinV V k c = true) : EntF V k (c + 1) (jnF (f c) (f k) f) := by
  obtain ⟨h1, h2, h3⟩ := h
  have lo : ∀ i, i ≤ k → f i = max (f c) (f k) → rch V (k + 1) i c := by
    intro i hi e
    obtain ⟨r, a1, a2, a3⟩ := h1 i hi
    obtain ⟨rc, b1, b2, b3⟩ := h1 c (by omega)
    obtain ⟨rk, c1, c2, c3⟩ := h1 k (Nat.le_refl _)
    have kc : rch V (k + 1) k c := .one (by omega) (by omega) hk
    by_cases q : f k ≤ f c
    · have : r = rc := by omega
      subst this
      exact a3.tr b3.sym
    · have : r = rk := by omega
      subst this
      exact (a3.tr c3.sym).tr kc
  refine ⟨fun i hi => ?_, fun i j hi hj hij => ?_, fun j hj hkj => ?_⟩
  · by_cases e : f i = max (f c) (f k)
    · obtain ⟨r, a1, a2, a3⟩ := h1 i hi
      obtain ⟨rc, b1, b2, b3⟩ := h1 c (by omega)
      obtain ⟨rk, c1, c2, c3⟩ := h1 k (Nat.le_refl _)
      have l := lo i hi e
      have ck : rch V (k + 1) c k := .one (by omega) (by omega) (kinV_sym hk)
      by_cases q : f k ≤ f c
      · exact ⟨rk, by rw [jnF, if_pos e]; omega, by omega, (l.tr ck).tr c3⟩
      · exact ⟨rc, by rw [jnF, if_pos e]; omega, by omega, l.tr b3⟩
    · obtain ⟨r, a1, a2, a3⟩ := h1 i hi
      exact ⟨r, by rw [jnF, if_neg e]; exact a1, a2, a3⟩
  · simp only [jnF, h2 i j hi hj hij]
  · by_cases e : j = c
    · subst e
      simp only [jnF]
      by_cases q : f j = f k
      · rw [q]
      · by_cases q2 : f k ≤ f j
        · rw [if_neg (by omega), if_pos (by omega)]; omega
        · rw [if_pos (by omega), if_neg (by omega)]; omega
    · simp only [jnF, h3 j (by omega) hkj]
theorem EntF.done {V : Nat → Nat → Int} {k : Nat} {f : Nat → Int} (h : EntF V k k f) : IsFam V (k + 1) f := by
  obtain ⟨h1, h2, h3⟩ := h
  refine fun i hi => ⟨h1 i (by omega), fun j hj hk => ?_⟩
  by_cases ei : i = k
  · subst ei
    by_cases ej : j = i
    · rw [ej]
    · exact h3 j (by omega) hk
  · by_cases ej : j = k
    · subst ej
      exact (h3 i (by omega) (kinV_sym hk)).symm
    · exact h2 i j (by omega) (by omega) hk
/-- a told model joins two families that stand -/
theorem IsFam.tell {V V' : Nat → Nat → Int} {n : Nat} {f : Nat → Int} {a b : Nat} (h : IsFam V n f) (ha : a < n) (hb : b < n) (h0 : V' 0 = V 0) (hk : ∀ i j, i < n → j < n → (kinV V' i j = true ↔ kinV V i j = true ∨ (i = a ∧ j = b) ∨ (i = b ∧ j = a))) : IsFam V' n (jnF (f a) (f b) f) := by
  have up : ∀ {i j : Nat}, rch V n i j → rch V' n i j := fun h P hP hs => h P hP (fun x y hx hy hxy => hs x y hx hy ((hk x y hx hy).mpr (.inl hxy)))
  have ab : rch V' n a b := .one ha hb ((hk a b ha hb).mpr (.inr (.inl ⟨rfl, rfl⟩)))
  obtain ⟨⟨ra, a1, a2, a3⟩, -⟩ := h a ha
  obtain ⟨⟨rb, b1, b2, b3⟩, -⟩ := h b hb
  have lo : ∀ i, i < n → f i = max (f a) (f b) → rch V' n i a := by
    intro i hi e
    obtain ⟨⟨r, c1, c2, c3⟩, -⟩ := h i hi
    by_cases q : f b ≤ f a
    · have : r = ra := by omega
      subst this
      exact (up c3).tr (up a3).sym
    · have : r = rb := by omega
      subst this
      exact ((up c3).tr (up b3).sym).tr ab.sym
  refine fun i hi => ⟨?_, fun j hj hij => ?_⟩
  · obtain ⟨⟨r, c1, c2, c3⟩, -⟩ := h i hi
    by_cases e : f i = max (f a) (f b)
    · have l := lo i hi e
      by_cases q : f b ≤ f a
      · exact ⟨rb, by rw [jnF, if_pos e]; omega, by omega, (l.tr ab).tr (up b3)⟩
      · exact ⟨ra, by rw [jnF, if_pos e]; omega, by omega, l.tr (up a3)⟩
    · exact ⟨r, by rw [jnF, if_neg e]; exact c1, c2, up c3⟩
  · rcases (hk i j hi hj).mp hij with h1 | ⟨h1, h2⟩ | ⟨h1, h2⟩
    · simp only [jnF, (h i hi).2 j hj h1]
    · subst h1 h2
      simp only [jnF]
      by_cases q : f i = f j
      · rw [q]
      · by_cases q2 : f j ≤ f i
        · rw [if_pos (by omega), if_neg (by omega)]; omega
        · rw [if_neg (by omega), if_pos (by omega)]; omega
    · subst h1 h2
      simp only [jnF]
      by_cases q : f i = f j
      · rw [q]
      · by_cases q2 : f j ≤ f i
        · rw [if_pos (by omega), if_neg (by omega)]; omega
        · rw [if_neg (by omega), if_pos (by omega)]; omega
/-- the copies of the class: the list, each copy's cell and row -/
def CPS (L : List Nat) (K : Nat → Nat) (I : Nat → Nat → Int) (F : Nat → Nat → Option Nat) (N : Nat → Nat) (O : Nat → Nat → Option Nat) (de x cl ec n : Nat) (cA rA : Nat → Nat) : Prop :=
  isX L K F x 9 cl ∧ LST L K I F N O de cl ec n cA ∧ (1 ≤ n ∧ n ≤ 40) ∧ (∀ i, i < n → isC L K F N (cA i) (rA i)) ∧ (∀ i, i < n → I 0 (cA i) = (i : Int)) ∧ (∀ i j, i < n → j < n → cA i = cA j → i = j)
def CPV (I : Nat → Nat → Int) (R : Nat → Nat → Int) (n : Nat) (cA rA : Nat → Nat) : Prop := ∀ i, i < n → rg9 (R (rA i)) ∧ (I 1 (cA i) = 0 ∨ I 1 (cA i) = 1)
def CPK (V : Nat → Nat → Int) (I : Nat → Nat → Int) (F : Nat → Nat → Option Nat) (R : Nat → Nat → Int) (n : Nat) (cA rA : Nat → Nat) : Prop :=
  ∀ i j, i < n → j < n → ((tmo I F (cA i) = some (cA j) ∨ tmo I F (cA j) = some (cA i) ∨ 0 < shc (R (rA i)) (R (rA j)) 24) ↔ kinV V i j = true)
theorem CPS.fam {L : List Nat} {K : Nat → Nat} {I : Nat → Nat → Int} {F : Nat → Nat → Option Nat} {N : Nat → Nat} {O : Nat → Nat → Option Nat} {de x cl ec n : Nat} {cA rA : Nat → Nat} (h : CPS L K I F N O de x cl ec n cA rA) (f : Nat → Int) : CPS L K (va_up I 2 f) F N O de x cl ec n cA rA := by
  have e1 : va_up I 2 f 16 = I 16 := va_up_ne _ _ (by decide)
  have e2 : va_up I 2 f 0 = I 0 := va_up_ne _ _ (by decide)
  unfold CPS LST at h ⊢
  rw [e1, e2]
  exact h
theorem CPV.fam {I : Nat → Nat → Int} {R : Nat → Nat → Int} {n : Nat} {cA rA : Nat → Nat} (h : CPV I R n cA rA) (f : Nat → Int) : CPV (va_up I 2 f) R n cA rA := by
  have e1 : va_up I 2 f 1 = I 1 := va_up_ne _ _ (by decide)
  unfold CPV at h ⊢
  rw [e1]
  exact h
theorem tmo_fam (I : Nat → Nat → Int) (F : Nat → Nat → Option Nat) (f : Nat → Int) (a : Nat) : tmo (va_up I 2 f) F a = tmo I F a := by
  unfold tmo
  rw [va_up_ne I f (by decide)]
theorem CPK.fam {V : Nat → Nat → Int} {I : Nat → Nat → Int} {F : Nat → Nat → Option Nat} {R : Nat → Nat → Int} {n : Nat} {cA rA : Nat → Nat} (h : CPK V I F R n cA rA) (f : Nat → Int) : CPK V (va_up I 2 f) F R n cA rA := by
  intro i j hi hj
  rw [tmo_fam, tmo_fam]
  exact h i j hi hj
def rgF (f : Nat → Int) (n : Nat) (cA : Nat → Nat) : Prop := ∀ i, i < n → 0 ≤ f (cA i) ∧ f (cA i) < 100
theorem up2_fam (I : Nat → Nat → Int) (f : Nat → Int) (a : Nat) (v : Int) : up2 (va_up I 2 f) 2 a v = va_up I 2 (va_up f a v) := by
  simp only [up2]
  rw [up_up, va_up_self]
theorem iI_mn {a b : Int} (ha : 0 ≤ a ∧ a < 100) (hb : 0 ≤ b ∧ b < 100) : (if iI b < iI a then iI b else iI a) = iI (min a b) := by
  have e2 := iI_lt (a := b) (b := a) (by omega) (by omega)
  by_cases c : b < a
  · rw [if_pos (e2.mpr c)]; congr 1; omega
  · rw [if_neg (mt e2.mp c)]; congr 1; omega
theorem iI_mx {a b : Int} (ha : 0 ≤ a ∧ a < 100) (hb : 0 ≤ b ∧ b < 100) : (if iI a < iI b then iI b else iI a) = iI (max a b) := by
  have e2 := iI_lt (a := a) (b := b) (by omega) (by omega)
  by_cases c : a < b
  · rw [if_pos (e2.mpr c)]; congr 1; omega
  · rw [if_neg (mt e2.mp c)]; congr 1; omega
