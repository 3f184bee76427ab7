/-! what each call leaves of the value and of the law's rows -/
section
variable {V : Nat → Nat → Int} {n m t : Nat} {B : Nat → Nat → Int64} {A : Nat → Nat → Int} {f : Nat → Int}
theorem isPl_plc {k : Nat} (hk : k < 12) : isPl (plc k) := ⟨k, hk, rfl⟩
theorem mu_slip {k : Nat} {r s : Int} (hk : k < 12) (hr : -1 ≤ r ∧ r ≤ 9) (hI : LInv V n m t) (hW : LWr V n m t B A) (hs : s = V 7 0 + (b01 (r ≠ -1) - b01 (V 6 (plc k) ≠ -1))) :
    LInv (nsSlip V (plc k) r) n m t ∧ LWr (nsSlip V (plc k) r) n m t B (up2 (up2 A 8 1 s) 2 k r) := by
  obtain ⟨i1, i2, i3, i4, i5, i6⟩ := hI
  obtain ⟨⟨m0, m1, m2, m3, m4⟩, ww, wc, wq, wl, wx, wo, wn, wp⟩ := hW
  refine ⟨⟨i1.slip hr, i2, i3, i4, fun p hp h => ?_, i6⟩, ⟨m0, hs, m2, m3, m4⟩, ww, wc, fun j hj => ?_, wl, wx, wo, wn, wp⟩
  · show va_up (V 6) (plc k) r p = -1
    rw [va_up_ne _ _ (show p ≠ plc k from fun e => h (by rw [e]; exact isPl_plc hk))]
    exact i5 p hp h
  · show va_up (A 2) k r j = va_up (V 6) (plc k) r (plc j)
    by_cases e : j = k
    · subst e; rw [va_up_self, va_up_self]
    · rw [va_up_ne _ _ e, va_up_ne _ _ (fun q => e (plc_inj hj hk q))]
      exact wq j hj
theorem mu_tell {i : Nat} (hi : i < n) (h0 : 0 < i) (hI : LInv V n m t) (hW : LWr V n m t B A) : LInv (up2 V 2 i 1) n m t ∧ LWr (up2 V 2 i 1) n m t B (up2 A 1 (4 * i + 1) 1) := by
  obtain ⟨i1, i2, i3, i4, i5, i6⟩ := hI
  obtain ⟨wm, ww, wc, wq, wl, wx, wo, wn, wp⟩ := hW
  refine ⟨⟨i1.tell h0, i2, i3, i4, i5, i6⟩, wm, ww, fun j hj => ?_, wq, wl, wx, wo, wn, wp⟩
  have a := wc j hj
  show va_up (A 1) (4 * i + 1) 1 (4 * j) = V 1 j ∧ va_up (A 1) (4 * i + 1) 1 (4 * j + 1) = va_up (V 2) i 1 j ∧ va_up (A 1) (4 * i + 1) 1 (4 * j + 2) = V 3 j ∧ va_up (A 1) (4 * i + 1) 1 (4 * j + 3) = V 4 j
  rw [va_up_ne (A 1) (1 : Int) (show 4 * j ≠ 4 * i + 1 by omega), va_up_ne (A 1) (1 : Int) (show 4 * j + 2 ≠ 4 * i + 1 by omega), va_up_ne (A 1) (1 : Int) (show 4 * j + 3 ≠ 4 * i + 1 by omega)]
  refine ⟨a.1, ?_, a.2.2⟩
  by_cases e : j = i
  · subst e; rw [va_up_self, va_up_self]
  · rw [va_up_ne _ _ e, va_up_ne (A 1) (1 : Int) (show 4 * j + 1 ≠ 4 * i + 1 by omega)]
    exact a.2.1
theorem mu_pass {z : Int} (hz : 0 ≤ z ∧ z ≤ 2000) (hI : LInv V n m t) (hW : LWr V n m t B A) : LInv (up2 V 9 0 z) n m t ∧ LWr (up2 V 9 0 z) n m t B (up2 A 8 2 z) := by
  obtain ⟨i1, i2, i3, i4, i5, i6⟩ := hI
  obtain ⟨⟨m0, m1, m2, m3, m4⟩, ww, wc, wq, wl, wx, wo, wn, wp⟩ := hW
  exact ⟨⟨i1.pass hz, i2, i3, i4, i5, i6⟩, ⟨m0, m1, rfl, m3, m4⟩, ww, wc, wq, wl, wx, wo, wn, wp⟩
theorem mu_correct {h c o k : Nat} {s : Int} (hm : m < 40) (hh : h < 5) (hc : c < n) (ho : o < n) (hk : k < 12) (hI : LInv V n m t) (hW : LWr V n m t B A) (hs : s = 100 * (plc k : Int) + 10 * V 0 (24 * c + plc k) + V 0 (24 * o + plc k)) :
    LInv (nsCorrect V m h c o (plc k)) n (m + 1) t ∧ LWr (nsCorrect V m h c o (plc k)) n (m + 1) t (up2 (up2 B 0 c (pubt (B 0 c) k (V 0 (24 * o + plc k)))) 4 h (B 4 h ||| (1 <<< ((iI (m : Int)).toInt64 &&& 63)))) (up2 (up2 A 3 m s) 8 3 ((m : Int) + 1)) := by
  have ro := hI.rd ho hk
  have hp := plc_lt hk
  obtain ⟨i1, i2, i3, i4, i5, i6⟩ := hI
  obtain ⟨⟨m0, m1, m2, m3, m4⟩, ww, wc, wq, wl, wx, wo, wn, wp⟩ := hW
  refine ⟨⟨i1.correct (by omega) hh hc ho hp, i2, ⟨i3.1, by omega, i3.2.2⟩, fun i hi p hp2 hne => ?_, i5, fun j hj => ?_⟩, ⟨m0, m1, m2, ?_, m4⟩, fun i hi j hj => ?_, wc, wq, fun j hj => ?_, fun h' hh' j hj => ?_, wo, wn, wp⟩
  · show va_up (V 0) (24 * c + plc k) (V 0 (24 * o + plc k)) (24 * i + p) = 0
    rw [va_up_ne _ _ (fun e => hne (by
      have : p = plc k := by omega
      rw [this]; exact isPl_plc hk))]
    exact i4 i hi p hp2 hne
  · show ∃ k', k' < 12 ∧ va_up (V 10) m ((plc k : Nat) : Int) j = (plc k' : Int)
    by_cases e : j = m
    · subst e
      exact ⟨k, hk, by rw [va_up_self]⟩
    · rw [va_up_ne _ _ e]
      exact i6 j (by omega)
  · show (m : Int) + 1 = ((m + 1 : Nat) : Int)
    omega
  · show nibt (va_up (B 0) c (pubt (B 0 c) k (V 0 (24 * o + plc k))) i) j = iI (va_up (V 0) (24 * c + plc k) (V 0 (24 * o + plc k)) (24 * i + plc j))
    have hj2 := plc_lt hj
    by_cases e : i = c
    · subst e
      rw [va_up_self]
      by_cases e2 : j = k
      · subst e2
        rw [va_up_self, nibt_pub _ (by omega) hk]
      · rw [nibt_pubne _ (by omega) hk hj e2, va_up_ne _ _ (fun q => e2 (plc_inj hj hk (by omega)))]
        exact ww i hi j hj
    · rw [va_up_ne _ _ e, va_up_ne _ _ (by omega)]
      exact ww i hi j hj
  · show va_up (A 3) m s j = 100 * va_up (V 10) m ((plc k : Nat) : Int) j + 10 * va_up (V 11) m (V 0 (24 * c + plc k)) j + va_up (V 12) m (V 0 (24 * o + plc k)) j
    by_cases e : j = m
    · subst e
      simp only [va_up_self]
      exact hs
    · rw [va_up_ne (A 3) _ e, va_up_ne (V 10) _ e, va_up_ne (V 11) _ e, va_up_ne (V 12) _ e]
      exact wl j (by omega)
  · show lbt (va_up (B 4) h (B 4 h ||| (1 <<< ((iI (m : Int)).toInt64 &&& 63))) h') j = true ↔ va_up (V 13) (60 * h + m) 1 (60 * h' + j) = 1
    have a := wx h' hh' j hj
    by_cases e : h' = h
    · subst e
      rw [va_up_self, lbt_set _ (by omega) (by omega)]
      by_cases e2 : j = m
      · subst e2
        rw [va_up_self]
        simp
      · rw [va_up_ne _ _ (by omega), decide_eq_false e2, Bool.or_false]
        exact a
    · rw [va_up_ne _ _ e, va_up_ne _ _ (by omega)]
      exact a
theorem wk_odd {h c : Nat} (hI : LInv V n m t) : ∀ j, j ≤ m → ∀ p, ¬ isPl p → (wkV V h (rdV V c) j).1 p = rdV V c p
  | 0, _, _, _ => rfl
  | j + 1, hj, p, hp => by
    have e := wk_odd (h := h) (c := c) hI j (by omega) p hp
    obtain ⟨k, hk, ek⟩ := hI.2.2.2.2.2 j (by omega)
    simp only [wkV]
    split
    · show va_up (wkV V h (rdV V c) j).1 (V 10 j).toNat (V 12 j) p = _
      rw [va_up_ne _ _ (fun q => hp (by rw [q, ek]; exact isPl_plc hk))]
      exact e
    · exact e
theorem mu_work {h c : Nat} {x : Int64} (hc : c < n) (hI : LInv V n m t) (hW : LWr V n m t B A) (hx : ∀ k, k < 12 → nibt x k = iI ((wkV V h (rdV V c) m).1 (plc k))) (hf : wkR V h c m f) :
    LInv (va_up V 0 f) n m t ∧ LWr (va_up V 0 f) n m t (up2 B 0 c x) A := by
  have ho := wk_odd (h := h) (c := c) hI m (Nat.le_refl _)
  obtain ⟨i1, i2, i3, i4, i5, i6⟩ := hI
  obtain ⟨wm, ww, wc, wq, wl, wx, wo, wn, wp⟩ := hW
  refine ⟨⟨i1.work hc hf, i2, i3, fun i hi p hp hne => ?_, i5, i6⟩, wm, fun i hi j hj => ?_, wc, wq, wl, wx, wo, wn, wp⟩
  · show f (24 * i + p) = 0
    by_cases e : i = c
    · subst e
      rw [hf.1 p hp, ho p hne]
      exact i4 i hi p hp hne
    · rw [hf.2 _ (fun k hk q => by omega)]
      exact i4 i hi p hp hne
  · show nibt (va_up (B 0) c x i) j = iI (f (24 * i + plc j))
    have hp := plc_lt hj
    by_cases e : i = c
    · subst e
      rw [va_up_self, hx j hj, hf.1 _ hp]
    · rw [va_up_ne _ _ e, hf.2 _ (fun k hk q => by omega)]
      exact ww i hi j hj
/-- letters that a house gets of another -/
theorem mu_get {h o : Nat} (hh : h < 5) (ho : o < 5) (hI : LInv V n m t) (hx : LWrx V B) (hg : gtL V m h o f) : ∀ h', h' < 5 → ∀ j, j < 60 → (lbt (va_up (B 4) h (B 4 h ||| B 4 o) h') j = true ↔ f (60 * h' + j) = 1) := by
  intro h' hh' j hj
  have a := hx h' hh' j hj
  have w9 := hI.1.2.2.2.2.2.2.2.2.1
  have hm40 := hI.2.2.1
  by_cases e : h' = h
  · subst e
    have b := hx o ho j hj
    rw [va_up_self, lbt_or, Bool.or_eq_true, a, b]
    by_cases c : j < m
    · rw [hg.1 j c]
      by_cases c2 : V 13 (60 * h' + j) = 1 ∨ V 13 (60 * o + j) = 1
      · rw [if_pos c2]; simp [c2]
      · rw [if_neg c2]; simp [c2]
    · rw [hg.2 _ (fun k hk q => by omega), w9.2 h' hh' j (by omega) hj, w9.2 o ho j (by omega) hj]
      simp
  · rw [va_up_ne _ _ e, hg.2 _ (fun k hk q => by omega)]
    exact a
theorem mu_lend {c h o : Nat} {d pl : Int} (hc : c < n) (hh : h < 5) (ht : t < 10) (ho : V 3 c = (o : Int)) (hd : 1 ≤ d ∧ d ≤ 100) (hpl : 0 ≤ pl ∧ pl ≤ 50) (hI : LInv V n m t) (hW : LWr V n m t B A) (hg : gtL V m h o f) :
    LInv (up2 (va_up (nsLend V t c h d pl) 13 f) 21 0 (t + 1)) n m (t + 1) ∧ LWr (up2 (va_up (nsLend V t c h d pl) 13 f) 21 0 (t + 1)) n m (t + 1) (up2 B 4 h (B 4 h ||| B 4 o))
      (up2 (up2 (up2 (up2 (up2 (up2 (up2 (up2 (up2 (up2 A 5 (6 * t) c) 5 (6 * t + 1) h) 5 (6 * t + 2) (V 9 0 + d)) 5 (6 * t + 3) pl) 5 (6 * t + 4) 0) 5 (6 * t + 5) 0) 6 h (V 22 h - pl)) 6 (5 + h) (V 23 h + pl)) 1 (4 * c + 3) h) 8 4 ((t : Int) + 1)) := by
  have ow := (hI.1.2.2.2.2.2.1 c hc).1
  have ho5 : o < 5 := by omega
  have hget := mu_get hh ho5 hI hW.2.2.2.2.2.1 hg
  obtain ⟨i1, i2, i3, i4, i5, i6⟩ := hI
  obtain ⟨⟨m0, m1, m2, m3, m4⟩, ww, wc, wq, wl, wx, wo, wn, wp⟩ := hW
  refine ⟨⟨i1.lend hc hh hd hpl (by omega) hg, fun j hj => i2 j (by omega), ⟨i3.1, i3.2.1, by omega⟩, i4, i5, i6⟩, ⟨m0, m1, m2, m3, ?_⟩, ww, fun j hj => ?_, wq, wl, hget, fun j hj => ?_, fun j hj => ?_, wp⟩
  · show (t : Int) + 1 = ((t + 1 : Nat) : Int)
    omega
  · have a := wc j hj
    show va_up (A 1) (4 * c + 3) (h : Int) (4 * j) = V 1 j ∧ va_up (A 1) (4 * c + 3) (h : Int) (4 * j + 1) = V 2 j ∧ va_up (A 1) (4 * c + 3) (h : Int) (4 * j + 2) = V 3 j ∧ va_up (A 1) (4 * c + 3) (h : Int) (4 * j + 3) = va_up (V 4) c (h : Int) j
    rw [va_up_ne (A 1) (h : Int) (show 4 * j ≠ 4 * c + 3 by omega), va_up_ne (A 1) (h : Int) (show 4 * j + 1 ≠ 4 * c + 3 by omega), va_up_ne (A 1) (h : Int) (show 4 * j + 2 ≠ 4 * c + 3 by omega)]
    refine ⟨a.1, a.2.1, a.2.2.1, ?_⟩
    by_cases e : j = c
    · subst e; rw [va_up_self, va_up_self]
    · rw [va_up_ne _ _ e, va_up_ne (A 1) (h : Int) (show 4 * j + 3 ≠ 4 * c + 3 by omega)]
      exact a.2.2.2
  · show (up2 (up2 (up2 (up2 (up2 (up2 A 5 (6 * t) c) 5 (6 * t + 1) h) 5 (6 * t + 2) (V 9 0 + d)) 5 (6 * t + 3) pl) 5 (6 * t + 4) 0) 5 (6 * t + 5) 0) 5 (6 * j) = va_up (V 15) t (c : Int) j ∧ _
    by_cases e : j = t
    · subst e
      refine ⟨?_, ?_, ?_, ?_, fun q => ?_, ?_⟩
      · rw [va_up_self]
        rw [up2_ne _ _ (by omega), up2_ne _ _ (by omega), up2_ne _ _ (by omega), up2_ne _ _ (by omega), up2_ne _ _ (by omega), up2_at]
      · show (up2 (up2 (up2 (up2 (up2 (up2 A 5 (6 * j) c) 5 (6 * j + 1) h) 5 (6 * j + 2) (V 9 0 + d)) 5 (6 * j + 3) pl) 5 (6 * j + 4) 0) 5 (6 * j + 5) 0) 5 (6 * j + 1) = va_up (V 16) j (h : Int) j
        rw [va_up_self, up2_ne _ _ (by omega), up2_ne _ _ (by omega), up2_ne _ _ (by omega), up2_ne _ _ (by omega), up2_at]
      · show (up2 (up2 (up2 (up2 (up2 (up2 A 5 (6 * j) c) 5 (6 * j + 1) h) 5 (6 * j + 2) (V 9 0 + d)) 5 (6 * j + 3) pl) 5 (6 * j + 4) 0) 5 (6 * j + 5) 0) 5 (6 * j + 2) = va_up (V 17) j (V 9 0 + d) j
        rw [va_up_self, up2_ne _ _ (by omega), up2_ne _ _ (by omega), up2_ne _ _ (by omega), up2_at]
      · show (up2 (up2 (up2 (up2 (up2 (up2 A 5 (6 * j) c) 5 (6 * j + 1) h) 5 (6 * j + 2) (V 9 0 + d)) 5 (6 * j + 3) pl) 5 (6 * j + 4) 0) 5 (6 * j + 5) 0) 5 (6 * j + 3) = va_up (V 18) j pl j
        rw [va_up_self, up2_ne _ _ (by omega), up2_ne _ _ (by omega), up2_at]
      · have z : V 20 j = 0 := i2 j (Nat.le_refl _)
        have q' : V 20 j = 1 := q
        omega
      · show (up2 (up2 (up2 (up2 (up2 (up2 A 5 (6 * j) c) 5 (6 * j + 1) h) 5 (6 * j + 2) (V 9 0 + d)) 5 (6 * j + 3) pl) 5 (6 * j + 4) 0) 5 (6 * j + 5) 0) 5 (6 * j + 5) = V 20 j
        rw [up2_at]
        exact (i2 j (Nat.le_refl _)).symm
    · have a := wo j (by omega)
      have un : ∀ y, y < 6 → (up2 (up2 (up2 (up2 (up2 (up2 A 5 (6 * t) c) 5 (6 * t + 1) h) 5 (6 * t + 2) (V 9 0 + d)) 5 (6 * t + 3) pl) 5 (6 * t + 4) 0) 5 (6 * t + 5) 0) 5 (6 * j + y) = A 5 (6 * j + y) := fun y hy => by
        rw [up2_ne _ _ (by omega), up2_ne _ _ (by omega), up2_ne _ _ (by omega), up2_ne _ _ (by omega), up2_ne _ _ (by omega), up2_ne _ _ (by omega)]
      refine ⟨?_, ?_, ?_, ?_, fun q => ?_, ?_⟩
      · rw [va_up_ne _ _ e]; exact (un 0 (by decide)).trans a.1
      · refine (un 1 (by decide)).trans (a.2.1.trans ?_)
        show V 16 j = va_up (V 16) t (h : Int) j
        rw [va_up_ne _ _ e]
      · refine (un 2 (by decide)).trans (a.2.2.1.trans ?_)
        show V 17 j = va_up (V 17) t (V 9 0 + d) j
        rw [va_up_ne _ _ e]
      · refine (un 3 (by decide)).trans (a.2.2.2.1.trans ?_)
        show V 18 j = va_up (V 18) t pl j
        rw [va_up_ne _ _ e]
      · exact (un 4 (by decide)).trans (a.2.2.2.2.1 q)
      · exact (un 5 (by decide)).trans a.2.2.2.2.2
  · have a := wn j hj
    show va_up (va_up (A 6) h (V 22 h - pl)) (5 + h) (V 23 h + pl) j = va_up (V 22) h (V 22 h - pl) j ∧ va_up (va_up (A 6) h (V 22 h - pl)) (5 + h) (V 23 h + pl) (5 + j) = va_up (V 23) h (V 23 h + pl) j
    rw [va_up_ne (va_up (A 6) h (V 22 h - pl)) (V 23 h + pl) (show j ≠ 5 + h by omega)]
    by_cases e : j = h
    · subst e; rw [va_up_self, va_up_self, va_up_self, va_up_self]; exact ⟨rfl, rfl⟩
    · rw [va_up_ne (A 6) _ e, va_up_ne (V 22) _ e, va_up_ne (V 23) _ e, va_up_ne (va_up (A 6) h (V 22 h - pl)) (V 23 h + pl) (show 5 + j ≠ 5 + h by omega), va_up_ne (A 6) _ (show 5 + j ≠ h by omega)]
      exact a
theorem mu_back {y b o c : Nat} (hy : y < t) (hb : V 16 y = (b : Int)) (hc : V 15 y = (c : Int)) (ho : V 3 c = (o : Int)) (hI : LInv V n m t) (hW : LWr V n m t B A) (hg : gtL V m o b f)
    {late lost : Int} (h1 : late = lateOf (V 9 0) (V 17 y)) (h2 : lost = lostOf late (V 18 y)) :
    LInv (va_up (nsBack V y) 13 f) n m t ∧ LWr (va_up (nsBack V y) 13 f) n m t (up2 B 4 o (B 4 o ||| B 4 b))
      (up2 (up2 (up2 (up2 (up2 (up2 A 5 (6 * y + 4) late) 5 (6 * y + 5) 1) 6 (5 + b) (V 23 b - V 18 y)) 6 b (V 22 b + (V 18 y - lost))) 6 o (va_up (V 22) b (V 22 b + (V 18 y - lost)) o + lost)) 1 (4 * c + 3) o) := by
  subst h2
  subst h1
  have hl := hI.1.2.2.2.2.2.2.2.2.2.1 y hy
  have hcn : c < n := by omega
  have hb5 : b < 5 := by omega
  have ow := (hI.1.2.2.2.2.2.1 c hcn).1
  have ho5 : o < 5 := by omega
  have eb : (V 16 y).toNat = b := by omega
  have ec : (V 15 y).toNat = c := by omega
  have eo : (V 3 c).toNat = o := by omega
  have hget := mu_get ho5 hb5 hI hW.2.2.2.2.2.1 hg
  have w1 : WFV (va_up (nsBack V y) 13 f) n m t := hI.1.back hy hg
  obtain ⟨i1, i2, i3, i4, i5, i6⟩ := hI
  obtain ⟨⟨m0, m1, m2, m3, m4⟩, ww, wc, wq, wl, wx, wo, wn, wp⟩ := hW
  refine ⟨⟨w1, fun j hj => ?_, i3, i4, i5, i6⟩, ⟨m0, m1, m2, m3, m4⟩, ww, fun j hj => ?_, wq, wl, hget, fun j hj => ?_, fun j hj => ?_, wp⟩
  · show va_up (V 20) y 1 j = 0
    rw [va_up_ne _ _ (by omega)]
    exact i2 j hj
  · have a := wc j hj
    show va_up (A 1) (4 * c + 3) (o : Int) (4 * j) = V 1 j ∧ va_up (A 1) (4 * c + 3) (o : Int) (4 * j + 1) = V 2 j ∧ va_up (A 1) (4 * c + 3) (o : Int) (4 * j + 2) = V 3 j ∧ va_up (A 1) (4 * c + 3) (o : Int) (4 * j + 3) = va_up (V 4) (V 15 y).toNat (((V 3 (V 15 y).toNat).toNat : Nat) : Int) j
    rw [ec, eo, va_up_ne (A 1) (o : Int) (show 4 * j ≠ 4 * c + 3 by omega), va_up_ne (A 1) (o : Int) (show 4 * j + 1 ≠ 4 * c + 3 by omega), va_up_ne (A 1) (o : Int) (show 4 * j + 2 ≠ 4 * c + 3 by omega)]
    refine ⟨a.1, a.2.1, a.2.2.1, ?_⟩
    by_cases e : j = c
    · subst e; rw [va_up_self, va_up_self]
    · rw [va_up_ne _ _ e, va_up_ne (A 1) (o : Int) (show 4 * j + 3 ≠ 4 * c + 3 by omega)]
      exact a.2.2.2
  · have a := wo j hj
    have un : ∀ u, u < 4 → va_up (va_up (A 5) (6 * y + 4) (lateOf (V 9 0) (V 17 y))) (6 * y + 5) 1 (6 * j + u) = A 5 (6 * j + u) := fun u hu => by
      rw [va_up_ne _ _ (by omega), va_up_ne _ _ (by omega)]
    refine ⟨(un 0 (by decide)).trans a.1, (un 1 (by decide)).trans a.2.1, (un 2 (by decide)).trans a.2.2.1, (un 3 (by decide)).trans a.2.2.2.1, fun q => ?_, ?_⟩
    · show va_up (va_up (A 5) (6 * y + 4) (lateOf (V 9 0) (V 17 y))) (6 * y + 5) 1 (6 * j + 4) = va_up (V 19) y (lateOf (V 9 0) (V 17 y)) j
      rw [va_up_ne _ _ (show 6 * j + 4 ≠ 6 * y + 5 by omega)]
      by_cases e : j = y
      · subst e; rw [va_up_self, va_up_self]
      · rw [va_up_ne _ _ (show 6 * j + 4 ≠ 6 * y + 4 by omega), va_up_ne _ _ e]
        refine a.2.2.2.2.1 ?_
        have q' : va_up (V 20) y 1 j = 1 := q
        rw [va_up_ne _ _ e] at q'
        exact q'
    · show va_up (va_up (A 5) (6 * y + 4) (lateOf (V 9 0) (V 17 y))) (6 * y + 5) 1 (6 * j + 5) = va_up (V 20) y 1 j
      by_cases e : j = y
      · subst e; rw [va_up_self, va_up_self]
      · rw [va_up_ne _ _ (show 6 * j + 5 ≠ 6 * y + 5 by omega), va_up_ne _ _ (show 6 * j + 5 ≠ 6 * y + 4 by omega), va_up_ne _ _ e]
        exact a.2.2.2.2.2
  · have a := wn j hj
    show va_up (va_up (va_up (A 6) (5 + b) (V 23 b - V 18 y)) b (V 22 b + (V 18 y - lostOf (lateOf (V 9 0) (V 17 y)) (V 18 y)))) o (va_up (V 22) b (V 22 b + (V 18 y - lostOf (lateOf (V 9 0) (V 17 y)) (V 18 y))) o + lostOf (lateOf (V 9 0) (V 17 y)) (V 18 y)) j = va_up (va_up (V 22) (V 16 y).toNat (V 22 (V 16 y).toNat + (V 18 y - lostOf (lateOf (V 9 0) (V 17 y)) (V 18 y)))) (V 3 (V 15 y).toNat).toNat (va_up (V 22) (V 16 y).toNat (V 22 (V 16 y).toNat + (V 18 y - lostOf (lateOf (V 9 0) (V 17 y)) (V 18 y))) (V 3 (V 15 y).toNat).toNat + lostOf (lateOf (V 9 0) (V 17 y)) (V 18 y)) j ∧ va_up (va_up (va_up (A 6) (5 + b) (V 23 b - V 18 y)) b (V 22 b + (V 18 y - lostOf (lateOf (V 9 0) (V 17 y)) (V 18 y)))) o (va_up (V 22) b (V 22 b + (V 18 y - lostOf (lateOf (V 9 0) (V 17 y)) (V 18 y))) o + lostOf (lateOf (V 9 0) (V 17 y)) (V 18 y)) (5 + j) = va_up (V 23) (V 16 y).toNat (V 23 (V 16 y).toNat - V 18 y) j
    rw [eb, ec, eo]
    generalize lostOf (lateOf (V 9 0) (V 17 y)) (V 18 y) = z
    constructor
    · by_cases e : j = o
      · subst e; rw [va_up_self, va_up_self]
      · rw [va_up_ne _ _ e, va_up_ne _ _ e]
        by_cases e2 : j = b
        · subst e2; rw [va_up_self, va_up_self]
        · rw [va_up_ne _ _ e2, va_up_ne _ _ (show j ≠ 5 + b by omega), va_up_ne _ _ e2]
          exact a.1
    · rw [va_up_ne _ _ (show 5 + j ≠ o by omega), va_up_ne _ _ (show 5 + j ≠ b by omega)]
      by_cases e2 : j = b
      · subst e2; rw [va_up_self, va_up_self]
      · rw [va_up_ne _ _ (show 5 + j ≠ 5 + b by omega), va_up_ne _ _ e2]
        exact a.2
/-- the law's rows while a copy's places below i are written -/
def CpS (V : Nat → Nat → Int) (A : Nat → Nat → Int) (c s i : Nat) (x : Int64) (a2 a7 : Nat → Int) : Prop :=
  (∀ k, k < 12 → nibt x k = iI (if k < i ∧ V 6 (plc k) ≠ -1 then V 6 (plc k) else V 0 (24 * c + plc k))) ∧ (∀ k, k < i → a2 k = -1) ∧ (∀ k, i ≤ k → a2 k = A 2 k) ∧ a7 s = A 7 s + wrn (fun k => V 0 (24 * c + plc k)) (fun k => V 6 (plc k)) i ∧ ∀ j, j ≠ s → a7 j = A 7 j
theorem CpS.skip {c s i : Nat} {x : Int64} {a2 a7 : Nat → Int} (h : CpS V A c s i x a2 a7) (hi : i < 12) (hq : A 2 i = -1) (hv : V 6 (plc i) = -1) : CpS V A c s (i + 1) x a2 a7 := by
  obtain ⟨h1, h2, h3, h4, h5⟩ := h
  refine ⟨fun k hk => ?_, fun k hk => ?_, fun k hk => h3 k (by omega), ?_, h5⟩
  · rw [h1 k hk]
    by_cases e : k = i
    · subst e
      rw [if_neg (fun q => q.2 hv), if_neg (fun q => q.2 hv)]
    · by_cases e2 : k < i ∧ V 6 (plc k) ≠ -1
      · rw [if_pos e2, if_pos ⟨by omega, e2.2⟩]
      · rw [if_neg e2, if_neg (fun q => e2 ⟨by omega, q.2⟩)]
  · by_cases e : k = i
    · subst e; rw [h3 k (Nat.le_refl _)]; exact hq
    · exact h2 k (by omega)
  · rw [h4]
    simp only [wrn]
    rw [b01_f (fun q => q.1 hv), Int.add_zero]
theorem CpS.put {c s i : Nat} {x : Int64} {a2 a7 : Nat → Int} {z : Int} (h : CpS V A c s i x a2 a7) (hi : i < 12) (hv : 0 ≤ V 6 (plc i) ∧ V 6 (plc i) ≤ 9) (hz : z = b01 (V 0 (24 * c + plc i) ≠ V 6 (plc i))) : CpS V A c s (i + 1) (pubt x i (V 6 (plc i))) (va_up a2 i (-1)) (va_up a7 s (a7 s + z)) := by
  obtain ⟨h1, h2, h3, h4, h5⟩ := h
  refine ⟨fun k hk => ?_, fun k hk => ?_, fun k hk => ?_, ?_, fun j hj => ?_⟩
  · by_cases e : k = i
    · subst e
      rw [nibt_pub _ (by omega) hi, if_pos ⟨by omega, by omega⟩]
    · rw [nibt_pubne _ (by omega) hi hk e, h1 k hk]
      by_cases e2 : k < i ∧ V 6 (plc k) ≠ -1
      · rw [if_pos e2, if_pos ⟨by omega, e2.2⟩]
      · rw [if_neg e2, if_neg (fun q => e2 ⟨by omega, q.2⟩)]
  · by_cases e : k = i
    · subst e; rw [va_up_self]
    · rw [va_up_ne _ _ e]; exact h2 k (by omega)
  · rw [va_up_ne _ _ (by omega)]; exact h3 k (by omega)
  · rw [va_up_self, h4, hz]
    simp only [wrn]
    by_cases e : V 0 (24 * c + plc i) = V 6 (plc i)
    · rw [b01_f (fun q => q e), b01_f (fun q => q.2 e)]
      omega
    · rw [b01_t e, b01_t ⟨by omega, e⟩]
      omega
  · rw [va_up_ne _ _ hj]; exact h5 j hj
theorem mu_copy {c s h : Nat} {b : Int} {x : Int64} {a2 a7 f0 f6 f8 : Nat → Int} (hc : c < n) (hs : s < 6) (hh : h < 5) (hn : n < 16) (hb : b = 0 ∨ b = 1) (hI : LInv V n m t) (hW : LWr V n m t B A) (hS : CpS V A c s 12 x a2 a7) (hf : cpR V n c s 24 f0 f6 f8) :
    LInv (nsCopy V n c h b f0 f6 f8) (n + 1) m t ∧ LWr (nsCopy V n c h b f0 f6 f8) (n + 1) m t (up2 B 0 n x)
      (up2 (up2 (up2 (up2 (up2 (up2 (va_up (va_up A 2 a2) 7 a7) 1 (4 * n) c) 1 (4 * n + 1) b) 1 (4 * n + 2) h) 1 (4 * n + 3) h) 8 1 0) 8 0 ((n : Int) + 1)) := by
  have w1 := hI.1.copy (b := b) (by omega) hc hh hb hf
  obtain ⟨i1, i2, i3, i4, i5, i6⟩ := hI
  obtain ⟨⟨m0, m1, m2, m3, m4⟩, ww, wc, wq, wl, wx, wo, wn, wp⟩ := hW
  obtain ⟨h1, h2, h3, h4, h5⟩ := hS
  obtain ⟨g1, g2, g3, g4, g5, g6⟩ := hf
  refine ⟨⟨w1, i2, ⟨by omega, i3.2⟩, fun i hi p hp hne => ?_, fun p hp hne => ?_, i6⟩, ⟨?_, rfl, m2, m3, m4⟩, fun i hi j hj => ?_, fun j hj => ?_, fun j hj => ?_, wl, wx, wo, wn, fun j hj => ?_⟩
  · show f0 (24 * i + p) = 0
    by_cases e : i = n
    · subst e
      rw [g1 p hp, if_pos (i5 p hp hne)]
      exact i4 c hc p hp hne
    · rw [g2 _ (fun k hk q => by omega)]
      exact i4 i (by omega) p hp hne
  · exact g3 p hp
  · show (n : Int) + 1 = ((n + 1 : Nat) : Int)
    omega
  · show nibt (va_up (B 0) n x i) j = iI (f0 (24 * i + plc j))
    have hp := plc_lt hj
    by_cases e : i = n
    · subst e
      rw [va_up_self, h1 j hj, g1 _ hp]
      by_cases e2 : V 6 (plc j) = -1
      · rw [if_neg (fun q => q.2 e2), if_pos e2]
      · rw [if_pos ⟨hj, e2⟩, if_neg e2]
    · rw [va_up_ne _ _ e, g2 _ (fun k hk q => by omega)]
      exact ww i (by omega) j hj
  · show va_up (va_up (va_up (va_up (A 1) (4 * n) (c : Int)) (4 * n + 1) b) (4 * n + 2) (h : Int)) (4 * n + 3) (h : Int) (4 * j) = va_up (V 1) n (c : Int) j ∧ va_up (va_up (va_up (va_up (A 1) (4 * n) (c : Int)) (4 * n + 1) b) (4 * n + 2) (h : Int)) (4 * n + 3) (h : Int) (4 * j + 1) = va_up (V 2) n b j ∧ va_up (va_up (va_up (va_up (A 1) (4 * n) (c : Int)) (4 * n + 1) b) (4 * n + 2) (h : Int)) (4 * n + 3) (h : Int) (4 * j + 2) = va_up (V 3) n (h : Int) j ∧ va_up (va_up (va_up (va_up (A 1) (4 * n) (c : Int)) (4 * n + 1) b) (4 * n + 2) (h : Int)) (4 * n + 3) (h : Int) (4 * j + 3) = va_up (V 4) n (h : Int) j
    by_cases e : j = n
    · subst e
      refine ⟨?_, ?_, ?_, ?_⟩
      · rw [va_up_ne _ _ (by omega), va_up_ne _ _ (by omega), va_up_ne _ _ (by omega), va_up_self, va_up_self]
      · rw [va_up_ne _ _ (by omega), va_up_ne _ _ (by omega), va_up_self, va_up_self]
      · rw [va_up_ne _ _ (by omega), va_up_self, va_up_self]
      · rw [va_up_self, va_up_self]
    · have a := wc j (by omega)
      have un : ∀ u, u < 4 → va_up (va_up (va_up (va_up (A 1) (4 * n) (c : Int)) (4 * n + 1) b) (4 * n + 2) (h : Int)) (4 * n + 3) (h : Int) (4 * j + u) = A 1 (4 * j + u) := fun u hu => by
        rw [va_up_ne _ _ (by omega), va_up_ne _ _ (by omega), va_up_ne _ _ (by omega), va_up_ne _ _ (by omega)]
      rw [va_up_ne (V 1) _ e, va_up_ne (V 2) _ e, va_up_ne (V 3) _ e, va_up_ne (V 4) _ e]
      exact ⟨(un 0 (by decide)).trans a.1, (un 1 (by decide)).trans a.2.1, (un 2 (by decide)).trans a.2.2.1, (un 3 (by decide)).trans a.2.2.2⟩
  · show a2 j = f6 (plc j)
    rw [h2 j hj, g3 _ (plc_lt hj)]
  · show a7 j = f8 j
    by_cases e : j = s
    · subst e
      rw [h4, g5, wp j hj, wrn12 (g := rdV V c) (f := V 6) i5]
      rfl
    · rw [h5 j e, g6 j e]
      exact wp j hj
end
