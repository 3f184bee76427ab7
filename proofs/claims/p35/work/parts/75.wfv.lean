/-! what the value may be is kept by each call -/
section
variable {V : Nat → Nat → Int} {n m t : Nat} {f : Nat → Int}
def WB (V : Nat → Nat → Int) (t : Nat) : Prop := ∀ j, t ≤ j → V 20 j = 0
theorem WFV.slip {p : Nat} {r : Int} (hw : WFV V n m t) (hr : -1 ≤ r ∧ r ≤ 9) : WFV (nsSlip V p r) n m t := by
  obtain ⟨w1, w2, w3, w4, w5, w6, w7, w8, w9, w10, w11, w12⟩ := hw
  refine ⟨w1, w2, w3, w4, w5, w6, fun k hk => ?_, w8, w9, w10, w11, w12⟩
  show -1 ≤ up2 (up2 V 7 0 _) 6 p r 6 k ∧ up2 (up2 V 7 0 _) 6 p r 6 k ≤ 9
  by_cases e : k = p
  · subst e; rw [up2_at]; exact hr
  · rw [up2_ne _ _ (fun q => e q.2)]; exact w7 k hk
theorem WFV.pass {z : Int} (hw : WFV V n m t) (hz : 0 ≤ z ∧ z ≤ 2000) : WFV (up2 V 9 0 z) n m t := by
  obtain ⟨w1, w2, w3, w4, w5, w6, w7, w8, w9, w10, w11, w12⟩ := hw
  exact ⟨w1, w2, w3, w4, w5, w6, w7, w8, w9, w10, w11, by rw [up2_at]; exact hz⟩
theorem WFV.correct {h c o p : Nat} (hw : WFV V n m t) (hm : m < 60) (hh : h < 5) (hc : c < n) (ho : o < n) (hp : p < 24) : WFV (nsCorrect V m h c o p) n (m + 1) t := by
  obtain ⟨w1, w2, w3, w4, w5, w6, w7, w8, ⟨w9, w9'⟩, w10, w11, w12⟩ := hw
  have ro := w3 (24 * o + p) (by omega)
  have rc := w3 (24 * c + p) (by omega)
  refine ⟨⟨w1.1, ?_, w1.2.2⟩, ⟨w2.1, by omega, w2.2.2⟩, fun j hj => ?_, w4, w5, w6, w7, fun j hj => ?_, ⟨fun j hj => ?_, fun h' hh' j hj1 hj2 => ?_⟩, w10, w11, w12⟩
  · show up2 _ 14 0 _ 14 0 = _
    rw [up2_at]; omega
  · show 0 ≤ va_up (V 0) (24 * c + p) (V 0 (24 * o + p)) j ∧ va_up (V 0) (24 * c + p) (V 0 (24 * o + p)) j ≤ 9
    simp only [va_up]
    split
    · exact ro
    · exact w3 j hj
  · show (0 ≤ va_up (V 10) m (p : Int) j ∧ va_up (V 10) m (p : Int) j < 24) ∧ (0 ≤ va_up (V 11) m (V 0 (24 * c + p)) j ∧ va_up (V 11) m (V 0 (24 * c + p)) j ≤ 9) ∧ 0 ≤ va_up (V 12) m (V 0 (24 * o + p)) j ∧ va_up (V 12) m (V 0 (24 * o + p)) j ≤ 9
    by_cases e : j = m
    · subst e
      simp only [va_up_self]
      exact ⟨by omega, rc, ro⟩
    · rw [va_up_ne _ _ e, va_up_ne _ _ e, va_up_ne _ _ e]
      exact w8 j (by omega)
  · show va_up (V 13) (60 * h + m) 1 j = 0 ∨ va_up (V 13) (60 * h + m) 1 j = 1
    simp only [va_up]
    split
    · exact .inr rfl
    · exact w9 j hj
  · show va_up (V 13) (60 * h + m) 1 (60 * h' + j) = 0
    rw [va_up_ne _ _ (by omega)]
    exact w9' h' hh' j (by omega) hj2
theorem WFV.work {h c : Nat} (hw : WFV V n m t) (hc : c < n) (hf : wkR V h c m f) : WFV (va_up V 0 f) n m t := by
  have hr := wkV_rng (h := h) hw hc m (Nat.le_refl _)
  obtain ⟨w1, w2, w3, w4, w5, w6, w7, w8, w9, w10, w11, w12⟩ := hw
  refine ⟨w1, w2, fun j hj => ?_, w4, w5, w6, w7, w8, w9, w10, w11, w12⟩
  rw [va_up_self]
  by_cases e : ∃ k, k < 24 ∧ j = 24 * c + k
  · obtain ⟨k, hk, rfl⟩ := e
    rw [hf.1 k hk]
    exact hr.1 k hk
  · rw [hf.2 j (fun k hk q => e ⟨k, hk, q⟩)]
    exact w3 j hj
theorem gtL.w9 {h o : Nat} (hw : WFV V n m t) (hg : gtL V m h o f) : (∀ j, j < 300 → f j = 0 ∨ f j = 1) ∧ ∀ h, h < 5 → ∀ j, m ≤ j → j < 60 → f (60 * h + j) = 0 := by
  obtain ⟨g1, g2⟩ := hg
  obtain ⟨w9, w9'⟩ := hw.2.2.2.2.2.2.2.2.1
  have hm := hw.2.1
  refine ⟨fun j hj => ?_, fun h' hh' j hj1 hj2 => ?_⟩
  · by_cases e : ∃ k, k < m ∧ j = 60 * h + k
    · obtain ⟨k, hk, rfl⟩ := e
      rw [g1 k hk]
      split
      · exact .inr rfl
      · exact .inl rfl
    · rw [g2 j (fun k hk q => e ⟨k, hk, q⟩)]
      exact w9 j hj
  · rw [g2 _ (fun k hk q => by omega)]
    exact w9' h' hh' j hj1 hj2
theorem WFV.lend {c h o : Nat} {d pl : Int} (hw : WFV V n m t) (hc : c < n) (hh : h < 5) (hd : 1 ≤ d ∧ d ≤ 100) (hpl : 0 ≤ pl ∧ pl ≤ 50) (ht : t < 40) (hg : gtL V m h o f) : WFV (up2 (va_up (nsLend V t c h d pl) 13 f) 21 0 (t + 1)) n m (t + 1) := by
  have g9 := hg.w9 hw
  obtain ⟨w1, w2, w3, w4, w5, w6, w7, w8, w9, w10, w11, w12⟩ := hw
  refine ⟨⟨w1.1, w1.2.1, ?_⟩, ⟨w2.1, w2.2.1, by omega⟩, w3, w4, w5, fun i hi => ⟨(w6 i hi).1, ?_⟩, w7, w8, g9, fun j hj => ?_, w11, w12⟩
  · rw [up2_at]; omega
  · show 0 ≤ va_up (V 4) c (h : Int) i ∧ va_up (V 4) c (h : Int) i < 5
    simp only [va_up]
    split
    · omega
    · exact (w6 i hi).2
  · show (0 ≤ va_up (V 15) t (c : Int) j ∧ va_up (V 15) t (c : Int) j < n) ∧ (0 ≤ va_up (V 16) t (h : Int) j ∧ va_up (V 16) t (h : Int) j < 5) ∧ (0 ≤ va_up (V 17) t (V 9 0 + d) j ∧ va_up (V 17) t (V 9 0 + d) j ≤ 2100) ∧ 0 ≤ va_up (V 18) t pl j ∧ va_up (V 18) t pl j ≤ 50
    by_cases e : j = t
    · subst e
      simp only [va_up_self]
      omega
    · rw [va_up_ne _ _ e, va_up_ne _ _ e, va_up_ne _ _ e, va_up_ne _ _ e]
      exact w10 j (by omega)
theorem WFV.back {l h o : Nat} (hw : WFV V n m t) (hl : l < t) (hg : gtL V m h o f) : WFV (va_up (nsBack V l) 13 f) n m t := by
  have g9 := hg.w9 hw
  obtain ⟨w1, w2, w3, w4, w5, w6, w7, w8, w9, w10, w11, w12⟩ := hw
  have a := w10 l hl
  have b := w6 (V 15 l).toNat (by omega)
  refine ⟨w1, w2, w3, w4, w5, fun i hi => ⟨(w6 i hi).1, ?_⟩, w7, w8, g9, w10, fun j hj => ?_, w12⟩
  · show 0 ≤ va_up (V 4) (V 15 l).toNat (((V 3 (V 15 l).toNat).toNat : Nat) : Int) i ∧ va_up (V 4) (V 15 l).toNat (((V 3 (V 15 l).toNat).toNat : Nat) : Int) i < 5
    simp only [va_up]
    split
    · omega
    · exact (w6 i hi).2
  · show va_up (V 20) l 1 j = 0 ∨ va_up (V 20) l 1 j = 1
    simp only [va_up]
    split
    · exact .inr rfl
    · exact w11 j hj
theorem WFV.copy {c s h : Nat} {b : Int} {f0 f6 f8 : Nat → Int} (hw : WFV V n m t) (hn : n < 40) (hc : c < n) (hh : h < 5) (hb : b = 0 ∨ b = 1) (hf : cpR V n c s 24 f0 f6 f8) : WFV (nsCopy V n c h b f0 f6 f8) (n + 1) m t := by
  obtain ⟨w1, w2, w3, w4, w5, w6, w7, w8, w9, w10, w11, w12⟩ := hw
  obtain ⟨g1, g2, g3, g4, g5, g6⟩ := hf
  refine ⟨⟨?_, w1.2.1, w1.2.2⟩, ⟨by omega, w2.2.1, w2.2.2⟩, fun j hj => ?_, ⟨?_, fun i hi1 hi2 => ?_⟩, ⟨?_, fun i hi => ?_⟩, fun i hi => ?_, fun k hk => ?_, w8, w9, fun j hj => ?_, w11, w12⟩
  · show up2 _ 5 0 _ 5 0 = _
    rw [up2_at]; omega
  · show 0 ≤ f0 j ∧ f0 j ≤ 9
    by_cases e : ∃ k, k < 24 ∧ j = 24 * n + k
    · obtain ⟨k, hk, rfl⟩ := e
      rw [g1 k hk]
      have a := w7 k hk
      have a2 := w3 (24 * c + k) (by omega)
      split
      · exact a2
      · omega
    · rw [g2 j (fun k hk q => e ⟨k, hk, q⟩)]
      exact w3 j hj
  · show va_up (V 1) n (c : Int) 0 = -1
    rw [va_up_ne _ _ (by omega)]; exact w4.1
  · show 0 ≤ va_up (V 1) n (c : Int) i ∧ va_up (V 1) n (c : Int) i < i
    by_cases e : i = n
    · subst e; rw [va_up_self]; omega
    · rw [va_up_ne _ _ e]; exact w4.2 i hi1 (by omega)
  · show va_up (V 2) n b 0 = 0
    rw [va_up_ne _ _ (by omega)]; exact w5.1
  · show va_up (V 2) n b i = 0 ∨ va_up (V 2) n b i = 1
    by_cases e : i = n
    · subst e; rw [va_up_self]; exact hb
    · rw [va_up_ne _ _ e]; exact w5.2 i hi
  · show (0 ≤ va_up (V 3) n (h : Int) i ∧ va_up (V 3) n (h : Int) i < 5) ∧ 0 ≤ va_up (V 4) n (h : Int) i ∧ va_up (V 4) n (h : Int) i < 5
    by_cases e : i = n
    · subst e; simp only [va_up_self]; omega
    · rw [va_up_ne _ _ e, va_up_ne _ _ e]; exact w6 i (by omega)
  · show -1 ≤ f6 k ∧ f6 k ≤ 9
    rw [g3 k hk]; omega
  · have a := w10 j hj
    show (0 ≤ V 15 j ∧ V 15 j < ((n + 1 : Nat) : Int)) ∧ _
    exact ⟨by omega, a.2⟩
end
