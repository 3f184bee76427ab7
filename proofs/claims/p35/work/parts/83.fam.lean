theorem hd83_L_shared : yL_shared.cls ≠ "java/lang/invoke/MethodHandle" ∧ yL_shared.cls ≠ "java/lang/invoke/VarHandle" ∧ (parseMethodDescriptor yL_shared.desc).map (fun d => d.parameters.length) = some 2 := by decide +kernel
theorem hd83_L_errors : yL_errors.cls ≠ "java/lang/invoke/MethodHandle" ∧ yL_errors.cls ≠ "java/lang/invoke/VarHandle" ∧ (parseMethodDescriptor yL_errors.desc).map (fun d => d.parameters.length) = some 1 := by decide +kernel
/-! the law's families as bits, and its guess -/
theorem bst_sp (V : Nat → Nat → Int) (c : Nat) : ∀ k, 0 < k → (bstV V c k).1 < k ∧ (bstV V c k).2 = wV V c (bstV V c k).1 ∧ (∀ j, j < k → wV V c j ≤ (bstV V c k).2) ∧ ∀ j, j < (bstV V c k).1 → wV V c j < (bstV V c k).2
  | 0, h => absurd h (Nat.lt_irrefl 0)
  | k + 1, _ => by
    simp only [bstV]
    by_cases e : k = 0
    · subst e
      rw [if_pos (.inl rfl)]
      refine ⟨by show 0 < 1; omega, rfl, fun j hj => ?_, fun j hj => absurd hj (Nat.not_lt_zero j)⟩
      have : j = 0 := by omega
      subst this
      exact Int.le_refl _
    · obtain ⟨h1, h2, h3, h4⟩ := bst_sp V c k (by omega)
      by_cases hc : (bstV V c k).2 < wV V c k
      · rw [if_pos (.inr hc)]
        refine ⟨by show k < k + 1; omega, rfl, fun j hj => ?_, fun j hj => ?_⟩
        · by_cases ej : j = k
          · subst ej; exact Int.le_refl _
          · have := h3 j (by omega)
            show wV V c j ≤ wV V c k
            omega
        · have := h3 j hj
          show wV V c j < wV V c k
          omega
      · rw [if_neg (by rintro (h | h); exact e h; exact hc h)]
        refine ⟨by omega, h2, fun j hj => ?_, h4⟩
        by_cases ej : j = k
        · subst ej; omega
        · exact h3 j (by omega)
theorem bst_un {V : Nat → Nat → Int} {c b : Nat} (hb : b < c) (h1 : ∀ j, j < c → wV V c j ≤ wV V c b) (h2 : ∀ j, j < b → wV V c j < wV V c b) : (bstV V c c).1 = b := by
  obtain ⟨g1, g2, g3, g4⟩ := bst_sp V c c (by omega)
  have a1 := h1 _ g1
  have a2 := g3 b hb
  rcases Nat.lt_trichotomy (bstV V c c).1 b with h | h | h
  · have := h2 _ h; omega
  · exact h
  · have := g4 _ h; omega
/-- what the guess's way down has found: the copies from k on are looked at -/
def GsI (V : Nat → Nat → Int) (c k b : Nat) (w : Int) : Prop := b < c ∧ ((k = c ∧ w = -100 ∧ b + 1 = c) ∨ (k ≤ b ∧ w = wV V c b ∧ (∀ j, k ≤ j → j < c → wV V c j ≤ w) ∧ ∀ j, k ≤ j → j < b → wV V c j < w))
theorem GsI.rng {V : Nat → Nat → Int} {c k b : Nat} {w : Int} (h : GsI V c k b w) : -100 ≤ w ∧ w ≤ 100 := by
  have := wV_rng V c b
  rcases h.2 with ⟨-, h, -⟩ | ⟨-, h, -⟩ <;> omega
theorem GsI.take {V : Nat → Nat → Int} {c k b : Nat} {w : Int} (h : GsI V c (k + 1) b w) (hk : k < c) (hw : w ≤ wV V c k) : GsI V c k k (wV V c k) := by
  refine ⟨hk, .inr ⟨Nat.le_refl _, rfl, fun j h1 h2 => ?_, fun j h1 h2 => by omega⟩⟩
  by_cases e : j = k
  · subst e; exact Int.le_refl _
  · rcases h.2 with ⟨h3, -, -⟩ | ⟨-, -, h3, -⟩
    · omega
    · have := h3 j (by omega) h2
      omega
theorem GsI.keep {V : Nat → Nat → Int} {c k b : Nat} {w : Int} (h : GsI V c (k + 1) b w) (hw : ¬ w ≤ wV V c k) : GsI V c k b w := by
  refine ⟨h.1, ?_⟩
  rcases h.2 with ⟨-, h3, -⟩ | ⟨h1, h2, h3, h4⟩
  · have := wV_rng V c k
    omega
  · refine .inr ⟨by omega, h2, fun j a1 a2 => ?_, fun j a1 a2 => ?_⟩
    · by_cases e : j = k
      · subst e; omega
      · exact h3 j (by omega) a2
    · by_cases e : j = k
      · subst e; omega
      · exact h4 j (by omega) a2
theorem GsI.done {V : Nat → Nat → Int} {c b : Nat} {w : Int} (h : GsI V c 0 b w) (h0 : 0 < c) : (bstV V c c).1 = b := by
  rcases h.2 with ⟨h1, -, -⟩ | ⟨-, h2, h3, h4⟩
  · omega
  · subst h2
    exact bst_un h.1 (fun j hj => h3 j (Nat.zero_le _) hj) (fun j hj => h4 j (Nat.zero_le _) hj)
/-- a family on its way: what the set holds is reached -/
def FmB (V : Nat → Nat → Int) (n c : Nat) (x : Int32) : Prop := ibt x c = true ∧ ∀ j, j < 32 → ibt x j = true → j < n ∧ rch V n c j
theorem FmB.set {V : Nat → Nat → Int} {n c i j : Nat} {x : Int32} (h : FmB V n c x) (hn : n ≤ 16) (hi : i < n) (hj : j < n) (hx : ibt x i = true) (hk : kinV V i j = true) : FmB V n c (x ||| (iI 1 <<< (iI (j : Int) &&& 31))) := by
  refine ⟨by rw [ibt_or, h.1]; rfl, fun k hk1 hk2 => ?_⟩
  rw [ibt_or, ibt_sh1 j (by omega) k hk1] at hk2
  by_cases e : k = j
  · subst e
    exact ⟨hj, (h.2 i (by omega) hx).2.tr (.one hi hj hk)⟩
  · rw [decide_eq_false e, Bool.or_false] at hk2
    exact h.2 k hk1 hk2
/-- a pass over the pairs: up to (i, j) nothing was added, or there is more than before -/
def PsB (V : Nat → Nat → Int) (n : Nat) (x0 x : Int32) (i j : Nat) : Prop :=
  (x = x0 ∧ ∀ a b, (a < i ∨ (a = i ∧ b < j)) → a < n → b < n → ibt x a = true → kinV V a b = true → ibt x b = true) ∨ cntt x0 n < cntt x n
theorem PsB.skip {V : Nat → Nat → Int} {n i j : Nat} {x0 x : Int32} (h : PsB V n x0 x i j) (hk : kinV V i j = false) : PsB V n x0 x i (j + 1) := by
  rcases h with ⟨h1, h2⟩ | h
  · refine .inl ⟨h1, fun a b hab ha hb hx hkk => ?_⟩
    by_cases e : a = i ∧ b = j
    · obtain ⟨rfl, rfl⟩ := e
      rw [hk] at hkk; cases hkk
    · exact h2 a b (by omega) ha hb hx hkk
  · exact .inr h
theorem PsB.set {V : Nat → Nat → Int} {n i j : Nat} {x0 x : Int32} (h : PsB V n x0 x i j) (hn : n ≤ 16) (hj : j < n) : PsB V n x0 (x ||| (iI 1 <<< (iI (j : Int) &&& 31))) i (j + 1) := by
  by_cases hx : ibt x j = true
  · rw [ibt_same x (by omega) hx]
    rcases h with ⟨h1, h2⟩ | h
    · refine .inl ⟨h1, fun a b hab ha hb hxa hkk => ?_⟩
      by_cases e : b = j
      · subst e; exact hx
      · exact h2 a b (by omega) ha hb hxa hkk
    · exact .inr h
  · have hx' : ibt x j = false := by simpa using hx
    have e := cntt_set x (by omega) hx' n (by omega)
    rw [if_pos hj] at e
    rcases h with ⟨h1, h2⟩ | h
    · subst h1
      exact .inr (by omega)
    · exact .inr (by omega)
theorem PsB.row {V : Nat → Nat → Int} {n i : Nat} {x0 x : Int32} (h : PsB V n x0 x i n) : PsB V n x0 x (i + 1) 0 := by
  rcases h with ⟨h1, h2⟩ | h
  · exact .inl ⟨h1, fun a b hab ha hb hx hkk => h2 a b (by omega) ha hb hx hkk⟩
  · exact .inr h
theorem PsB.out {V : Nat → Nat → Int} {n i j : Nat} {x0 x : Int32} (h : PsB V n x0 x i j) (hx : ibt x i = false) : PsB V n x0 x (i + 1) 0 := by
  rcases h with ⟨h1, h2⟩ | h
  · refine .inl ⟨h1, fun a b hab ha hb hxa hkk => ?_⟩
    by_cases e : a = i
    · subst e; rw [hx] at hxa; cases hxa
    · exact h2 a b (by omega) ha hb hxa hkk
  · exact .inr h
def ClB (V : Nat → Nat → Int) (n : Nat) (x : Int32) : Prop := ∀ a b, a < n → b < n → ibt x a = true → kinV V a b = true → ibt x b = true
theorem PsB.fin {V : Nat → Nat → Int} {n : Nat} {x0 x : Int32} (h : PsB V n x0 x n 0) : (x = x0 ∧ ClB V n x) ∨ cntt x0 n < cntt x n := by
  rcases h with ⟨h1, h2⟩ | h
  · exact .inl ⟨h1, fun a b ha hb hx hkk => h2 a b (.inl ha) ha hb hx hkk⟩
  · exact .inr h
theorem FmB.fin {V : Nat → Nat → Int} {n c : Nat} {x : Int32} (h : FmB V n c x) (hn : n ≤ 16) (hcl : ClB V n x) : ∀ j, j < 32 → (ibt x j = true ↔ j < n ∧ rch V n c j) := fun j hj =>
  ⟨fun hx => h.2 j hj hx, fun hr => (hr.2 (fun z => ibt x z = true) h.1 (fun a b ha hb hk hP => hcl a b ha hb hP hk))⟩
/-- the lowest of a family -/
theorem fam_low {V : Nat → Nat → Int} {n c : Nat} {x : Int32} {f : Nat → Int} (hn : n ≤ 16) (hc : c < n) (hx : ∀ j, j < 32 → (ibt x j = true ↔ j < n ∧ rch V n c j)) (hf : IsFam V n f) : ∃ z : Nat, z < 16 ∧ z ≤ c ∧ f c = (z : Int) ∧ ibt x z = true ∧ ∀ j, j < z → ibt x j = false := by
  obtain ⟨⟨r, h1, h2, h3⟩, -⟩ := hf c hc
  refine ⟨r, by omega, h2, h1, (hx r (by omega)).mpr ⟨by omega, h3⟩, fun j hj => ?_⟩
  cases e : ibt x j with
  | false => rfl
  | true =>
    obtain ⟨a1, a2⟩ := (hx j (by omega)).mp e
    obtain ⟨-, b2⟩ := hf.const hc a2
    obtain ⟨⟨r2, c1, c2, -⟩, -⟩ := hf j a1
    omega
theorem kin_un {V : Nat → Nat → Int} {n i j : Nat} (i1 : V 2 i = 0 ∨ V 2 i = 1) (j1 : V 2 j = 0 ∨ V 2 j = 1) : kinV V i j = true ↔ 0 < shV V i j ∨ (V 2 i = 1 ∧ V 1 i = (j : Int)) ∨ (V 2 j = 1 ∧ V 1 j = (i : Int)) := by
  unfold kinV
  simp only [Bool.or_eq_true, decide_eq_true_eq]
  exact or_assoc
section
variable {κ : KxT} {G : GG} {base mc ms : Nat} {post : Option Value → va_W → Prop} {exc : String → va_W → Prop} {q : Nat → Nat} {V : Nat → Nat → Int} {B : Nat → Nat → Int64} {A : Nat → Nat → Int} {Y : va_W} {l : Launch} {n m t : Nat}
abbrev rmL_family : Room := { frames := 2, cells := 0, slots := 0, locals := 80 }
theorem lp_L_family_j (C : Cx κ cL_family 9 wsL_family RL (some .int) rmL_family G base) {c i : Nat} {x0 : Int32} (hc : c < n) (hI : LInv V n m t) (hm : LWrm V A n m t) (hw : LWrw V B n) (hcr : LWrc V A n) (hi : i < n)
    (kk : ∀ x, FmB V n c x → PsB V n x0 x (i + 1) 0 → Z κ 9 G base mc ms post exc 0 0 143 [(6, .int (iI (i : Int))), (5, .int x0), (4, .int x), (0, .ref (q 0)), (1, .ref (q 1)), (2, .ref (q 8)), (3, .int (iI (c : Int)))] [] (lwW G q B A ++ Y)) :
    ∀ (d j : Nat) (x : Int32), j + d = n → FmB V n c x → PsB V n x0 x i j → Z κ 9 G base mc ms post exc 0 0 33 [(7, .int (iI (j : Int))), (6, .int (iI (i : Int))), (5, .int x0), (4, .int x), (0, .ref (q 0)), (1, .ref (q 1)), (2, .ref (q 8)), (3, .int (iI (c : Int)))] [] (lwW G q B A ++ Y) := by
  have hb := hI.2.2.1
  intro d
  induction d with
  | zero =>
    intro j x hj hF hP
    have e : j = n := by omega
    subst e
    refine z_iload C 0 rfl dL_family_33 (rfl : 33 + 2 = 35) ?_
    refine z_aload_n C 6 rfl rfl dL_family_35 (rfl : 35 + 1 = 36) ?_
    refine z_iconst C dL_family_36 (rfl : 36 + 1 = 37) ?_
    refine z_iald C lwm_8 ⟨by omega, by omega⟩ (by omega) (rdA hm.1 (by omega)) dL_family_37 (rfl : 37 + 1 = 38) ?_
    refine z_icmp_ge (pt := 143) C dL_family_38 (by decide) (rfl : 38 + 3 = 41) (iI_le (by omega) (by omega)).1 (fun q => mt (iI_le (by omega) (by omega)).2 q) (fun c1 => ?_) (fun c1 => ?_)
    · exact z_sub [1, 2, 3, 4, 5, 6, 7] rfl (kk x hF hP.row)
    · exact absurd c1 (by omega)
  | succ d ih =>
    intro j x hj hF hP
    have hjn : j < n := by omega
    have ti := hI.1.2.2.2.2.1.2 i (by omega)
    have tj := hI.1.2.2.2.2.1.2 j (by omega)
    have mi := hI.1.mo hi
    have mj := hI.1.mo hjn
    have hku := kin_un (n := n) (i := i) (j := j) ti tj
    have hs := hI.sh (j := j) hi
    have hr := shc_rng (rdV V i) (rdV V j) 24
    have hsv : shV V i j = shc (rdV V i) (rdV V j) 24 := rfl
    refine z_iload C 0 rfl dL_family_33 (rfl : 33 + 2 = 35) ?_
    refine z_aload_n C 6 rfl rfl dL_family_35 (rfl : 35 + 1 = 36) ?_
    refine z_iconst C dL_family_36 (rfl : 36 + 1 = 37) ?_
    refine z_iald C lwm_8 ⟨by omega, by omega⟩ (by omega) (rdA hm.1 (by omega)) dL_family_37 (rfl : 37 + 1 = 38) ?_
    refine z_icmp_ge (pt := 143) C dL_family_38 (by decide) (rfl : 38 + 3 = 41) (iI_le (by omega) (by omega)).1 (fun q => mt (iI_le (by omega) (by omega)).2 q) (fun c1 => ?_) (fun c1 => ?_)
    · exact absurd c1 (by omega)
    refine z_iload C 3 rfl dL_family_41 (rfl : 41 + 2 = 43) ?_
    refine z_iload C 1 rfl dL_family_43 (rfl : 43 + 2 = 45) ?_
    refine z_ishr C dL_family_45 (rfl : 45 + 1 = 46) ?_
    refine z_iconst C dL_family_46 (rfl : 46 + 1 = 47) ?_
    refine z_iand C dL_family_47 (rfl : 47 + 1 = 48) ?_
    refine z_iconst C dL_family_48 (rfl : 48 + 1 = 49) ?_
    refine z_icmp_ne (pt := 143) C dL_family_49 (by decide) (rfl : 49 + 3 = 52) (fun q => mt (Iff.rfl).2 q) (Iff.rfl).1 (fun c2 => ?_) (fun c2 => ?_)
    · refine z_sub [1, 2, 3, 4, 5, 6, 7] rfl (kk x hF (hP.out ?_))
      cases e : ibt x i with
      | false => rfl
      | true => exact absurd ((ibt_t1 x (by omega)).mpr e) c2
    have hxi : ibt x i = true := (ibt_t1 x (by omega)).mp c2
    have yes : kinV V i j = true → Z κ 9 G base mc ms post exc 0 0 112 [(7, .int (iI (j : Int))), (6, .int (iI (i : Int))), (5, .int x0), (4, .int x), (0, .ref (q 0)), (1, .ref (q 1)), (2, .ref (q 8)), (3, .int (iI (c : Int)))] [] (lwW G q B A ++ Y) := by
      intro hk
      refine z_iconst C dL_family_112 (rfl : 112 + 1 = 113) ?_
      refine z_goto (pc' := 117) C dL_family_113 (by decide) ?_
      refine z_istore (lv' := [(8, _), (7, _), (6, _), (5, _), (4, _), (0, _), (1, _), (2, _), (3, _)]) C dL_family_117 (rfl : 117 + 2 = 119) (by decide) rfl ?_
      refine z_iload C 4 rfl dL_family_119 (rfl : 119 + 2 = 121) ?_
      refine z_iload C 0 rfl dL_family_121 (rfl : 121 + 2 = 123) ?_
      refine z_if_eq (pt := 133) C dL_family_123 (by decide) (rfl : 123 + 3 = 126) (iI_eq0 (by decide)).1 (fun q => mt (iI_eq0 (by decide)).2 q) (fun c3 => ?_) (fun c3 => ?_)
      · exact absurd c3 (by decide)
      refine z_iconst C dL_family_126 (rfl : 126 + 1 = 127) ?_
      refine z_iload C 1 rfl dL_family_127 (rfl : 127 + 2 = 129) ?_
      refine z_ishl C dL_family_129 (rfl : 129 + 1 = 130) ?_
      refine z_goto (pc' := 134) C dL_family_130 (by decide) ?_
      refine z_ior C dL_family_134 (rfl : 134 + 1 = 135) ?_
      refine z_istore (lv' := [(4, _), (8, _), (7, _), (6, _), (5, _), (0, _), (1, _), (2, _), (3, _)]) C dL_family_135 (rfl : 135 + 2 = 137) (by decide) rfl ?_
      refine z_iinc (lv' := [(7, _), (4, _), (8, _), (6, _), (5, _), (0, _), (1, _), (2, _), (3, _)]) C 2 dL_family_137 (rfl : 137 + 3 = 140) rfl rfl (by decide) rfl ?_
      refine z_goto (pc' := 33) C dL_family_140 (by decide) ?_
      exact z_sub [0, 3, 4, 1, 5, 6, 7, 8] rfl (ih (j + 1) _ (by omega) (hF.set hb.1 hi hjn hxi hk) (hP.set hb.1 hjn))
    have no : kinV V i j = false → Z κ 9 G base mc ms post exc 0 0 116 [(7, .int (iI (j : Int))), (6, .int (iI (i : Int))), (5, .int x0), (4, .int x), (0, .ref (q 0)), (1, .ref (q 1)), (2, .ref (q 8)), (3, .int (iI (c : Int)))] [] (lwW G q B A ++ Y) := by
      intro hk
      refine z_iconst C dL_family_116 (rfl : 116 + 1 = 117) ?_
      refine z_istore (lv' := [(8, _), (7, _), (6, _), (5, _), (4, _), (0, _), (1, _), (2, _), (3, _)]) C dL_family_117 (rfl : 117 + 2 = 119) (by decide) rfl ?_
      refine z_iload C 4 rfl dL_family_119 (rfl : 119 + 2 = 121) ?_
      refine z_iload C 0 rfl dL_family_121 (rfl : 121 + 2 = 123) ?_
      refine z_if_eq (pt := 133) C dL_family_123 (by decide) (rfl : 123 + 3 = 126) (iI_eq0 (by decide)).1 (fun q => mt (iI_eq0 (by decide)).2 q) (fun c3 => ?_) (fun c3 => ?_)
      rotate_left
      · exact absurd rfl c3
      refine z_iconst C dL_family_133 (rfl : 133 + 1 = 134) ?_
      refine z_ior C dL_family_134 (rfl : 134 + 1 = 135) ?_
      rw [ibt_or0]
      refine z_istore (lv' := [(4, _), (8, _), (7, _), (6, _), (5, _), (0, _), (1, _), (2, _), (3, _)]) C dL_family_135 (rfl : 135 + 2 = 137) (by decide) rfl ?_
      refine z_iinc (lv' := [(7, _), (4, _), (8, _), (6, _), (5, _), (0, _), (1, _), (2, _), (3, _)]) C 2 dL_family_137 (rfl : 137 + 3 = 140) rfl rfl (by decide) rfl ?_
      refine z_goto (pc' := 33) C dL_family_140 (by decide) ?_
      exact z_sub [0, 3, 4, 1, 5, 6, 7, 8] rfl (ih (j + 1) _ (by omega) hF (hP.skip hk))
    have nk : ¬ (0 < shV V i j ∨ (V 2 i = 1 ∧ V 1 i = (j : Int)) ∨ (V 2 j = 1 ∧ V 1 j = (i : Int))) → kinV V i j = false := fun h => by
      cases e : kinV V i j with
      | false => rfl
      | true => exact absurd (hku.mp e) h
    refine z_aload_n C 4 rfl rfl dL_family_52 (rfl : 52 + 1 = 53) ?_
    refine z_iload C 1 rfl dL_family_53 (rfl : 53 + 2 = 55) ?_
    refine z_lald (x := B 0 (i)) C lwm_0 ⟨by omega, by omega⟩ (by omega) (congrArg (B 0) (by omega)) dL_family_55 (rfl : 55 + 1 = 56) ?_
    refine z_aload_n C 4 rfl rfl dL_family_56 (rfl : 56 + 1 = 57) ?_
    refine z_iload C 0 rfl dL_family_57 (rfl : 57 + 2 = 59) ?_
    refine z_lald (x := B 0 (j)) C lwm_0 ⟨by omega, by omega⟩ (by omega) (congrArg (B 0) (by omega)) dL_family_59 (rfl : 59 + 1 = 60) ?_
    refine z_callS C 0 0 (c_L_shared (f := fun k => V 0 (24 * i + plc k)) (g := fun k => V 0 (24 * j + plc k)) (fun k hk => ⟨hw i hi k hk, hI.rd hi hk⟩) (fun k hk => ⟨hw j hjn k hk, hI.rd hjn hk⟩)) gL_family_L_shared rfl hd83_L_shared ⟨Nat.le_of_ble_eq_true rfl, Nat.le_of_ble_eq_true rfl⟩ rfl (Nat.le_of_ble_eq_true rfl) dL_family_60 (rfl : 60 + 3 = 63) rfl rfl ⟨Nat.le_of_ble_eq_true rfl, Nat.le_of_ble_eq_true rfl⟩ (fun _ _ h => h.elim) ?_ rfl
    rintro _ _ ⟨rfl, rfl⟩
    refine z_v1 (z_topi (y := iI (shV V i j)) (congrArg iI hs.symm) ?_)
    refine z_if_gt (pt := 112) C dL_family_63 (by decide) (rfl : 63 + 3 = 66) (iI_0lt (by omega)).1 (fun q => mt (iI_0lt (by omega)).2 q) (fun c4 => ?_) (fun c4 => ?_)
    · exact yes (hku.mpr (.inl c4))
    refine z_aload_n C 5 rfl rfl dL_family_66 (rfl : 66 + 1 = 67) ?_
    refine z_iconst C dL_family_67 (rfl : 67 + 1 = 68) ?_
    refine z_iload C 1 rfl dL_family_68 (rfl : 68 + 2 = 70) ?_
    refine z_imul C dL_family_70 (rfl : 70 + 1 = 71) rfl ?_
    refine z_iconst C dL_family_71 (rfl : 71 + 1 = 72) ?_
    refine z_iadd C dL_family_72 (rfl : 72 + 1 = 73) rfl ?_
    refine z_iald C lwm_1 ⟨by omega, by omega⟩ (by omega) (rdA (hcr i hi).2.1 (by omega)) dL_family_73 (rfl : 73 + 1 = 74) ?_
    refine z_iconst C dL_family_74 (rfl : 74 + 1 = 75) ?_
    refine z_icmp_ne (pt := 89) C dL_family_75 (by decide) (rfl : 75 + 3 = 78) (fun q => mt (iI_eq (by omega) (by omega)).2 q) (iI_eq (by omega) (by omega)).1 (fun c5 => ?_) (fun c5 => ?_)
    rotate_left
    · refine z_aload_n C 5 rfl rfl dL_family_78 (rfl : 78 + 1 = 79) ?_
      refine z_iconst C dL_family_79 (rfl : 79 + 1 = 80) ?_
      refine z_iload C 1 rfl dL_family_80 (rfl : 80 + 2 = 82) ?_
      refine z_imul C dL_family_82 (rfl : 82 + 1 = 83) rfl ?_
      refine z_iald C lwm_1 ⟨by omega, by omega⟩ (by omega) (rdA (hcr i hi).1 (by omega)) dL_family_83 (rfl : 83 + 1 = 84) ?_
      refine z_iload C 0 rfl dL_family_84 (rfl : 84 + 2 = 86) ?_
      refine z_icmp_eq (pt := 112) C dL_family_86 (by decide) (rfl : 86 + 3 = 89) (iI_eq (by omega) (by omega)).1 (fun q => mt (iI_eq (by omega) (by omega)).2 q) (fun c6 => ?_) (fun c6 => ?_)
      · exact yes (hku.mpr (.inr (.inl ⟨c5, c6⟩)))
      refine z_aload_n C 5 rfl rfl dL_family_89 (rfl : 89 + 1 = 90) ?_
      refine z_iconst C dL_family_90 (rfl : 90 + 1 = 91) ?_
      refine z_iload C 0 rfl dL_family_91 (rfl : 91 + 2 = 93) ?_
      refine z_imul C dL_family_93 (rfl : 93 + 1 = 94) rfl ?_
      refine z_iconst C dL_family_94 (rfl : 94 + 1 = 95) ?_
      refine z_iadd C dL_family_95 (rfl : 95 + 1 = 96) rfl ?_
      refine z_iald C lwm_1 ⟨by omega, by omega⟩ (by omega) (rdA (hcr j hjn).2.1 (by omega)) dL_family_96 (rfl : 96 + 1 = 97) ?_
      refine z_iconst C dL_family_97 (rfl : 97 + 1 = 98) ?_
      refine z_icmp_ne (pt := 116) C dL_family_98 (by decide) (rfl : 98 + 3 = 101) (fun q => mt (iI_eq (by omega) (by omega)).2 q) (iI_eq (by omega) (by omega)).1 (fun c7 => ?_) (fun c7 => ?_)
      · exact no (nk (by omega))
      refine z_aload_n C 5 rfl rfl dL_family_101 (rfl : 101 + 1 = 102) ?_
      refine z_iconst C dL_family_102 (rfl : 102 + 1 = 103) ?_
      refine z_iload C 0 rfl dL_family_103 (rfl : 103 + 2 = 105) ?_
      refine z_imul C dL_family_105 (rfl : 105 + 1 = 106) rfl ?_
      refine z_iald C lwm_1 ⟨by omega, by omega⟩ (by omega) (rdA (hcr j hjn).1 (by omega)) dL_family_106 (rfl : 106 + 1 = 107) ?_
      refine z_iload C 1 rfl dL_family_107 (rfl : 107 + 2 = 109) ?_
      refine z_icmp_ne (pt := 116) C dL_family_109 (by decide) (rfl : 109 + 3 = 112) (fun q => mt (iI_eq (by omega) (by omega)).2 q) (iI_eq (by omega) (by omega)).1 (fun c8 => ?_) (fun c8 => ?_)
      · exact no (nk (by omega))
      · exact yes (hku.mpr (.inr (.inr ⟨c7, c8⟩)))
    · refine z_aload_n C 5 rfl rfl dL_family_89 (rfl : 89 + 1 = 90) ?_
      refine z_iconst C dL_family_90 (rfl : 90 + 1 = 91) ?_
      refine z_iload C 0 rfl dL_family_91 (rfl : 91 + 2 = 93) ?_
      refine z_imul C dL_family_93 (rfl : 93 + 1 = 94) rfl ?_
      refine z_iconst C dL_family_94 (rfl : 94 + 1 = 95) ?_
      refine z_iadd C dL_family_95 (rfl : 95 + 1 = 96) rfl ?_
      refine z_iald C lwm_1 ⟨by omega, by omega⟩ (by omega) (rdA (hcr j hjn).2.1 (by omega)) dL_family_96 (rfl : 96 + 1 = 97) ?_
      refine z_iconst C dL_family_97 (rfl : 97 + 1 = 98) ?_
      refine z_icmp_ne (pt := 116) C dL_family_98 (by decide) (rfl : 98 + 3 = 101) (fun q => mt (iI_eq (by omega) (by omega)).2 q) (iI_eq (by omega) (by omega)).1 (fun c7 => ?_) (fun c7 => ?_)
      · exact no (nk (by omega))
      refine z_aload_n C 5 rfl rfl dL_family_101 (rfl : 101 + 1 = 102) ?_
      refine z_iconst C dL_family_102 (rfl : 102 + 1 = 103) ?_
      refine z_iload C 0 rfl dL_family_103 (rfl : 103 + 2 = 105) ?_
      refine z_imul C dL_family_105 (rfl : 105 + 1 = 106) rfl ?_
      refine z_iald C lwm_1 ⟨by omega, by omega⟩ (by omega) (rdA (hcr j hjn).1 (by omega)) dL_family_106 (rfl : 106 + 1 = 107) ?_
      refine z_iload C 1 rfl dL_family_107 (rfl : 107 + 2 = 109) ?_
      refine z_icmp_ne (pt := 116) C dL_family_109 (by decide) (rfl : 109 + 3 = 112) (fun q => mt (iI_eq (by omega) (by omega)).2 q) (iI_eq (by omega) (by omega)).1 (fun c8 => ?_) (fun c8 => ?_)
      · exact no (nk (by omega))
      · exact yes (hku.mpr (.inr (.inr ⟨c7, c8⟩)))
theorem lp_L_family_i (C : Cx κ cL_family 9 wsL_family RL (some .int) rmL_family G base) {c : Nat} {x0 : Int32} (hc : c < n) (hI : LInv V n m t) (hm : LWrm V A n m t) (hw : LWrw V B n) (hcr : LWrc V A n)
    (kk : ∀ x, FmB V n c x → PsB V n x0 x n 0 → Z κ 9 G base mc ms post exc 0 0 8 [(5, .int x0), (4, .int x), (0, .ref (q 0)), (1, .ref (q 1)), (2, .ref (q 8)), (3, .int (iI (c : Int)))] [] (lwW G q B A ++ Y)) :
    ∀ (d i : Nat) (x : Int32), i + d = n → FmB V n c x → PsB V n x0 x i 0 → Z κ 9 G base mc ms post exc 0 0 22 [(6, .int (iI (i : Int))), (5, .int x0), (4, .int x), (0, .ref (q 0)), (1, .ref (q 1)), (2, .ref (q 8)), (3, .int (iI (c : Int)))] [] (lwW G q B A ++ Y) := by
  have hb := hI.2.2.1
  intro d
  induction d with
  | zero =>
    intro i x hi hF hP
    have e : i = n := by omega
    subst e
    refine z_iload C 0 rfl dL_family_22 (rfl : 22 + 2 = 24) ?_
    refine z_aload_n C 5 rfl rfl dL_family_24 (rfl : 24 + 1 = 25) ?_
    refine z_iconst C dL_family_25 (rfl : 25 + 1 = 26) ?_
    refine z_iald C lwm_8 ⟨by omega, by omega⟩ (by omega) (rdA hm.1 (by omega)) dL_family_26 (rfl : 26 + 1 = 27) ?_
    refine z_icmp_ge (pt := 149) C dL_family_27 (by decide) (rfl : 27 + 3 = 30) (iI_le (by omega) (by omega)).1 (fun q => mt (iI_le (by omega) (by omega)).2 q) (fun c1 => ?_) (fun c1 => ?_)
    · refine z_goto (pc' := 8) C dL_family_149 (by decide) ?_
      exact z_sub [1, 2, 3, 4, 5, 6] rfl (kk x hF hP)
    · exact absurd c1 (by omega)
  | succ d ih =>
    intro i x hi hF hP
    refine z_iload C 0 rfl dL_family_22 (rfl : 22 + 2 = 24) ?_
    refine z_aload_n C 5 rfl rfl dL_family_24 (rfl : 24 + 1 = 25) ?_
    refine z_iconst C dL_family_25 (rfl : 25 + 1 = 26) ?_
    refine z_iald C lwm_8 ⟨by omega, by omega⟩ (by omega) (rdA hm.1 (by omega)) dL_family_26 (rfl : 26 + 1 = 27) ?_
    refine z_icmp_ge (pt := 149) C dL_family_27 (by decide) (rfl : 27 + 3 = 30) (iI_le (by omega) (by omega)).1 (fun q => mt (iI_le (by omega) (by omega)).2 q) (fun c1 => ?_) (fun c1 => ?_)
    · exact absurd c1 (by omega)
    refine z_iconst C dL_family_30 (rfl : 30 + 1 = 31) ?_
    refine z_istore (lv' := [(7, _), (6, _), (5, _), (4, _), (0, _), (1, _), (2, _), (3, _)]) C dL_family_31 (rfl : 31 + 2 = 33) (by decide) rfl ?_
    refine lp_L_family_j C hc hI hm hw hcr (by omega) (fun y hF2 hP2 => ?_) n 0 x (by omega) hF hP
    refine z_iinc (lv' := [(6, _), (5, _), (4, _), (0, _), (1, _), (2, _), (3, _)]) C 0 dL_family_143 (rfl : 143 + 3 = 146) rfl rfl (by decide) rfl ?_
    refine z_goto (pc' := 22) C dL_family_146 (by decide) ?_
    exact ih (i + 1) y (by omega) hF2 hP2
theorem lp_L_family (C : Cx κ cL_family 9 wsL_family RL (some .int) rmL_family G base) {c : Nat} (hc : c < n) (hI : LInv V n m t) (hm : LWrm V A n m t) (hw : LWrw V B n) (hcr : LWrc V A n)
    (hq : ∀ x, (∀ j, j < 32 → (ibt x j = true ↔ j < n ∧ rch V n c j)) → post (some (.int x)) (lwW G q B A ++ Y)) :
    ∀ (d : Nat) (x0 x : Int32), (n : Int) - cntt x n ≤ d → FmB V n c x → (x = x0 → ClB V n x) → Z κ 9 G base mc ms post exc 0 0 8 [(5, .int x0), (4, .int x), (0, .ref (q 0)), (1, .ref (q 1)), (2, .ref (q 8)), (3, .int (iI (c : Int)))] [] (lwW G q B A ++ Y) := by
  have hb := hI.2.2.1
  have fin : ∀ x, FmB V n c x → ClB V n x → Z κ 9 G base mc ms post exc 0 0 8 [(5, .int x), (4, .int x), (0, .ref (q 0)), (1, .ref (q 1)), (2, .ref (q 8)), (3, .int (iI (c : Int)))] [] (lwW G q B A ++ Y) := by
    intro x hF hC
    refine z_iload C 1 rfl dL_family_8 (rfl : 8 + 2 = 10) ?_
    refine z_iload C 0 rfl dL_family_10 (rfl : 10 + 2 = 12) ?_
    refine z_icmp_eq (pt := 152) C dL_family_12 (by decide) (rfl : 12 + 3 = 15) (Iff.rfl).1 (fun q => mt (Iff.rfl).2 q) (fun c1 => ?_) (fun c1 => ?_)
    · refine z_iload C 1 rfl dL_family_152 (rfl : 152 + 2 = 154) ?_
      exact z_iret C rfl dL_family_154 (hq x (hF.fin hb.1 hC)) (Nat.zero_le _) (Nat.zero_le _)
    · exact absurd rfl c1
  intro d
  induction d with
  | zero =>
    intro x0 x hd hF hC
    by_cases e : x = x0
    · subst e
      exact fin x hF (hC rfl)
    refine z_iload C 1 rfl dL_family_8 (rfl : 8 + 2 = 10) ?_
    refine z_iload C 0 rfl dL_family_10 (rfl : 10 + 2 = 12) ?_
    refine z_icmp_eq (pt := 152) C dL_family_12 (by decide) (rfl : 12 + 3 = 15) (Iff.rfl).1 (fun q => mt (Iff.rfl).2 q) (fun c1 => ?_) (fun c1 => ?_)
    · exact absurd c1 e
    refine z_iload C 1 rfl dL_family_15 (rfl : 15 + 2 = 17) ?_
    refine z_istore (lv' := [(5, _), (4, _), (0, _), (1, _), (2, _), (3, _)]) C dL_family_17 (rfl : 17 + 2 = 19) (by decide) rfl ?_
    refine z_iconst C dL_family_19 (rfl : 19 + 1 = 20) ?_
    refine z_istore (lv' := [(6, _), (5, _), (4, _), (0, _), (1, _), (2, _), (3, _)]) C dL_family_20 (rfl : 20 + 2 = 22) (by decide) rfl ?_
    refine lp_L_family_i C hc hI hm hw hcr (fun y hF2 hP2 => ?_) n 0 x (by omega) hF (.inl ⟨rfl, fun a b hab => by omega⟩)
    rcases hP2.fin with ⟨h1, h2⟩ | h1
    · subst h1
      exact fin y hF2 h2
    · have := (cntt_le y n).2
      omega
  | succ d ih =>
    intro x0 x hd hF hC
    by_cases e : x = x0
    · subst e
      exact fin x hF (hC rfl)
    refine z_iload C 1 rfl dL_family_8 (rfl : 8 + 2 = 10) ?_
    refine z_iload C 0 rfl dL_family_10 (rfl : 10 + 2 = 12) ?_
    refine z_icmp_eq (pt := 152) C dL_family_12 (by decide) (rfl : 12 + 3 = 15) (Iff.rfl).1 (fun q => mt (Iff.rfl).2 q) (fun c1 => ?_) (fun c1 => ?_)
    · exact absurd c1 e
    refine z_iload C 1 rfl dL_family_15 (rfl : 15 + 2 = 17) ?_
    refine z_istore (lv' := [(5, _), (4, _), (0, _), (1, _), (2, _), (3, _)]) C dL_family_17 (rfl : 17 + 2 = 19) (by decide) rfl ?_
    refine z_iconst C dL_family_19 (rfl : 19 + 1 = 20) ?_
    refine z_istore (lv' := [(6, _), (5, _), (4, _), (0, _), (1, _), (2, _), (3, _)]) C dL_family_20 (rfl : 20 + 2 = 22) (by decide) rfl ?_
    refine lp_L_family_i C hc hI hm hw hcr (fun y hF2 hP2 => ?_) n 0 x (by omega) hF (.inl ⟨rfl, fun a b hab => by omega⟩)
    rcases hP2.fin with ⟨h1, h2⟩ | h1
    · subst h1
      exact fin y hF2 h2
    · exact ih x y (by omega) hF2 (fun e2 => by subst e2; omega)
theorem c_L_family {c : Nat} (hc : c < n) (hI : LInv V n m t) (hm : LWrm V A n m t) (hw : LWrw V B n) (hcr : LWrc V A n) : MC l yL_family wsL_family rmL_family G base [.ref (q 0), .ref (q 1), .ref (q 8), .int (iI (c : Int))] (lwW G q B A ++ Y) (fun v w => w = (lwW G q B A ++ Y) ∧ ∃ x : Int32, v = some (.int x) ∧ ∀ j, j < 32 → (ibt x j = true ↔ j < n ∧ rch V n c j)) (fun _ _ => False) := by
  refine MC.of (cc := cL_family) (by decide) rfl rfl (Nat.le_of_ble_eq_true rfl) ?_
  intro κ C hT hl hnm
  have hb := hI.2.2.1
  refine z_sub [0, 1, 2, 3] (lv' := [(0, .ref (q 0)), (1, .ref (q 1)), (2, .ref (q 8)), (3, .int (iI (c : Int)))]) rfl ?_
  refine z_iconst C dL_family_0 (rfl : 0 + 1 = 1) ?_
  refine z_iload_n C 3 rfl rfl dL_family_1 (rfl : 1 + 1 = 2) ?_
  refine z_ishl C dL_family_2 (rfl : 2 + 1 = 3) ?_
  refine z_istore (lv' := [(4, _), (0, _), (1, _), (2, _), (3, _)]) C dL_family_3 (rfl : 3 + 2 = 5) (by decide) rfl ?_
  refine z_iconst C dL_family_5 (rfl : 5 + 1 = 6) ?_
  refine z_istore (lv' := [(5, _), (4, _), (0, _), (1, _), (2, _), (3, _)]) C dL_family_6 (rfl : 6 + 2 = 8) (by decide) rfl ?_
  have e1 : ∀ j, j < 32 → ibt (iI 1 <<< (iI (c : Int) &&& 31)) j = decide (j = c) := fun j hj => ibt_sh1 c (by omega) j hj
  refine lp_L_family C hc hI hm hw hcr (fun x hx => ⟨rfl, x, rfl, hx⟩) (n : Nat) (iI 0) _ (by have := (cntt_le (iI 1 <<< (iI (c : Int) &&& 31)) n).1; omega) ⟨by rw [e1 c (by omega)]; simp, fun j hj hx => ?_⟩ (fun e => ?_)
  · rw [e1 j hj] at hx
    have : j = c := of_decide_eq_true hx
    subst this
    exact ⟨hc, .rf⟩
  · have e2 := e1 c (by omega)
    rw [e, ibt_0 c (by omega)] at e2
    simp at e2
abbrev rmL_guess : Room := { frames := 2, cells := 0, slots := 0, locals := 80 }
theorem lp_L_guess (C : Cx κ cL_guess 8 wsL_guess RL (some .int) rmL_guess G base) {c : Nat} (hc : c < n) (h0 : 0 < c) (hI : LInv V n m t) (hw : LWrw V B n)
    (hq : post (some (.int (iI (((bstV V c c).1 : Nat) : Int)))) (lwW G q B A ++ Y)) :
    ∀ (k b : Nat) (w : Int), k ≤ c → GsI V c k b w → Z κ 8 G base mc ms post exc 0 0 34 [(5, .int (iI ((k : Int) - 1))), (4, .int (iI w)), (3, .int (iI (b : Int))), (0, .ref (q 0)), (1, .ref (q 1)), (2, .int (iI (c : Int)))] [] (lwW G q B A ++ Y) := by
  have hb := hI.2.2.1
  intro k
  induction k with
  | zero =>
    intro b w hk hG
    refine z_iload C 0 rfl dL_guess_34 (rfl : 34 + 2 = 36) ?_
    refine z_if_lt (pt := 104) C dL_guess_36 (by decide) (rfl : 36 + 3 = 39) (iI_lt0 (by omega)).1 (fun q => mt (iI_lt0 (by omega)).2 q) (fun c1 => ?_) (fun c1 => ?_)
    · refine z_iload_n C 2 rfl rfl dL_guess_104 (rfl : 104 + 1 = 105) ?_
      have e := hG.done h0
      rw [e] at hq
      exact z_iret C rfl dL_guess_105 hq (Nat.zero_le _) (Nat.zero_le _)
    · exact absurd c1 (by omega)
  | succ k ih =>
    intro b w hk hG
    have hwr := hG.rng
    have hkn : k < n := by omega
    have s1 := hI.sh (j := k) hc
    have s2 := hI.sh (j := k) hkn
    have r1 := shc_rng (rdV V c) (rdV V k) 24
    have r2 := shc_rng (rdV V k) (rdV V k) 24
    have v1 : shV V c k = shc (rdV V c) (rdV V k) 24 := rfl
    have v2 : shV V k k = shc (rdV V k) (rdV V k) 24 := rfl
    have hwv : wV V c k = 3 * shV V c k - shV V k k := rfl
    refine z_iload C 0 rfl dL_guess_34 (rfl : 34 + 2 = 36) ?_
    refine z_if_lt (pt := 104) C dL_guess_36 (by decide) (rfl : 36 + 3 = 39) (iI_lt0 (by omega)).1 (fun q => mt (iI_lt0 (by omega)).2 q) (fun c1 => ?_) (fun c1 => ?_)
    · exact absurd c1 (by omega)
    refine z_aload_n C 3 rfl rfl dL_guess_39 (rfl : 39 + 1 = 40) ?_
    refine z_iload_n C 5 rfl rfl dL_guess_40 (rfl : 40 + 1 = 41) ?_
    refine z_lald (x := B 0 (c)) C lwm_0 ⟨by omega, by omega⟩ (by omega) (congrArg (B 0) (by omega)) dL_guess_41 (rfl : 41 + 1 = 42) ?_
    refine z_aload_n C 3 rfl rfl dL_guess_42 (rfl : 42 + 1 = 43) ?_
    refine z_iload C 0 rfl dL_guess_43 (rfl : 43 + 2 = 45) ?_
    refine z_lald (x := B 0 (k)) C lwm_0 ⟨by omega, by omega⟩ (by omega) (congrArg (B 0) (by omega)) dL_guess_45 (rfl : 45 + 1 = 46) ?_
    refine z_callS C 0 0 (c_L_shared (f := fun k => V 0 (24 * c + plc k)) (g := fun j => V 0 (24 * k + plc j)) (fun j hj => ⟨hw c hc j hj, hI.rd hc hj⟩) (fun j hj => ⟨hw k hkn j hj, hI.rd hkn hj⟩)) gL_guess_L_shared rfl hd83_L_shared ⟨Nat.le_of_ble_eq_true rfl, Nat.le_of_ble_eq_true rfl⟩ rfl (Nat.le_of_ble_eq_true rfl) dL_guess_46 (rfl : 46 + 3 = 49) rfl rfl ⟨Nat.le_of_ble_eq_true rfl, Nat.le_of_ble_eq_true rfl⟩ (fun _ _ h => h.elim) ?_ rfl
    rintro _ _ ⟨rfl, rfl⟩
    refine z_v1 (z_topi (y := iI (shV V c k)) (congrArg iI s1.symm) ?_)
    refine z_istore (lv' := [(6, _), (5, _), (4, _), (3, _), (0, _), (1, _), (2, _)]) C dL_guess_49 (rfl : 49 + 2 = 51) (by decide) rfl ?_
    refine z_iconst C dL_guess_51 (rfl : 51 + 1 = 52) ?_
    refine z_iload C 0 rfl dL_guess_52 (rfl : 52 + 2 = 54) ?_
    refine z_imul C dL_guess_54 (rfl : 54 + 1 = 55) rfl ?_
    refine z_aload_n C 4 rfl rfl dL_guess_55 (rfl : 55 + 1 = 56) ?_
    refine z_iload C 1 rfl dL_guess_56 (rfl : 56 + 2 = 58) ?_
    refine z_lald (x := B 0 (k)) C lwm_0 ⟨by omega, by omega⟩ (by omega) (congrArg (B 0) (by omega)) dL_guess_58 (rfl : 58 + 1 = 59) ?_
    refine z_callS C 0 0 (c_L_errors (f := fun j => V 0 (24 * k + plc j)) (fun j hj => ⟨hw k hkn j hj, hI.rd hkn hj⟩)) gL_guess_L_errors rfl hd83_L_errors ⟨Nat.le_of_ble_eq_true rfl, Nat.le_of_ble_eq_true rfl⟩ rfl (Nat.le_of_ble_eq_true rfl) dL_guess_59 (rfl : 59 + 3 = 62) rfl rfl ⟨Nat.le_of_ble_eq_true rfl, Nat.le_of_ble_eq_true rfl⟩ (fun _ _ h => h.elim) ?_ rfl
    rintro _ _ ⟨rfl, rfl⟩
    refine z_v1 (z_topi (y := iI (shV V k k)) (congrArg iI s2.symm) ?_)
    refine z_iload C 0 rfl dL_guess_62 (rfl : 62 + 2 = 64) ?_
    refine z_isub C dL_guess_64 (rfl : 64 + 1 = 65) rfl ?_
    refine z_isub C dL_guess_65 (rfl : 65 + 1 = 66) rfl ?_
    refine z_topi (y := iI (wV V c k)) (congrArg iI (by omega)) ?_
    refine z_istore (lv' := [(7, _), (6, _), (5, _), (4, _), (3, _), (0, _), (1, _), (2, _)]) C dL_guess_66 (rfl : 66 + 2 = 68) (by decide) rfl ?_
    refine z_iload C 0 rfl dL_guess_68 (rfl : 68 + 2 = 70) ?_
    refine z_iload C 3 rfl dL_guess_70 (rfl : 70 + 2 = 72) ?_
    refine z_icmp_lt (pt := 80) C dL_guess_72 (by decide) (rfl : 72 + 3 = 75) (iI_lt (by omega) (by omega)).1 (fun q => mt (iI_lt (by omega) (by omega)).2 q) (fun c2 => ?_) (fun c2 => ?_)
    · refine z_iload_n C 4 rfl rfl dL_guess_80 (rfl : 80 + 1 = 81) ?_
      refine z_istore_n (lv' := [(3, _), (7, _), (6, _), (5, _), (4, _), (0, _), (1, _), (2, _)]) C rfl dL_guess_81 (rfl : 81 + 1 = 82) (by decide) rfl ?_
      refine z_iload C 1 rfl dL_guess_82 (rfl : 82 + 2 = 84) ?_
      refine z_iload C 4 rfl dL_guess_84 (rfl : 84 + 2 = 86) ?_
      refine z_icmp_lt (pt := 94) C dL_guess_86 (by decide) (rfl : 86 + 3 = 89) (iI_lt (by omega) (by omega)).1 (fun q => mt (iI_lt (by omega) (by omega)).2 q) (fun c3 => ?_) (fun c3 => ?_)
      · refine z_iload C 4 rfl dL_guess_94 (rfl : 94 + 2 = 96) ?_
        refine z_istore (lv' := [(4, _), (3, _), (7, _), (6, _), (5, _), (0, _), (1, _), (2, _)]) C dL_guess_96 (rfl : 96 + 2 = 98) (by decide) rfl ?_
        refine z_iinc (lv' := [(5, _), (4, _), (3, _), (7, _), (6, _), (0, _), (1, _), (2, _)]) C 4 dL_guess_98 (rfl : 98 + 3 = 101) rfl rfl (by decide) rfl ?_
        refine z_goto (pc' := 34) C dL_guess_101 (by decide) ?_
        refine z_sub [0, 1, 2, 5, 6, 7] (lv' := [(5, .int (iI ((k : Int) - 1))), (4, .int (iI w)), (3, .int (iI (b : Int))), (0, .ref (q 0)), (1, .ref (q 1)), (2, .int (iI (c : Int)))]) (by rw [show ((k + 1 : Nat) : Int) - 1 + -1 = (k : Int) - 1 from by omega]; rfl) ?_
        exact ih b w (by omega) (hG.keep (by omega))
      · exact absurd c2 c3
    · refine z_iload C 2 rfl dL_guess_75 (rfl : 75 + 2 = 77) ?_
      refine z_goto (pc' := 81) C dL_guess_77 (by decide) ?_
      refine z_istore_n (lv' := [(3, _), (7, _), (6, _), (5, _), (4, _), (0, _), (1, _), (2, _)]) C rfl dL_guess_81 (rfl : 81 + 1 = 82) (by decide) rfl ?_
      refine z_iload C 1 rfl dL_guess_82 (rfl : 82 + 2 = 84) ?_
      refine z_iload C 4 rfl dL_guess_84 (rfl : 84 + 2 = 86) ?_
      refine z_icmp_lt (pt := 94) C dL_guess_86 (by decide) (rfl : 86 + 3 = 89) (iI_lt (by omega) (by omega)).1 (fun q => mt (iI_lt (by omega) (by omega)).2 q) (fun c3 => ?_) (fun c3 => ?_)
      · exact absurd c3 c2
      · refine z_iload C 1 rfl dL_guess_89 (rfl : 89 + 2 = 91) ?_
        refine z_goto (pc' := 96) C dL_guess_91 (by decide) ?_
        refine z_istore (lv' := [(4, _), (3, _), (7, _), (6, _), (5, _), (0, _), (1, _), (2, _)]) C dL_guess_96 (rfl : 96 + 2 = 98) (by decide) rfl ?_
        refine z_iinc (lv' := [(5, _), (4, _), (3, _), (7, _), (6, _), (0, _), (1, _), (2, _)]) C 4 dL_guess_98 (rfl : 98 + 3 = 101) rfl rfl (by decide) rfl ?_
        refine z_goto (pc' := 34) C dL_guess_101 (by decide) ?_
        refine z_sub [0, 1, 2, 5, 6, 7] (lv' := [(5, .int (iI ((k : Int) - 1))), (4, .int (iI (wV V c k))), (3, .int (iI (k : Int))), (0, .ref (q 0)), (1, .ref (q 1)), (2, .int (iI (c : Int)))]) (by rw [show ((k + 1 : Nat) : Int) - 1 + -1 = (k : Int) - 1 from by omega, show ((k + 1 : Nat) : Int) - 1 = (k : Int) from by omega]; rfl) ?_
        exact ih k _ (by omega) (hG.take (by omega) (by omega))
theorem c_L_guess {c : Nat} (hc : c < n) (hI : LInv V n m t) (hw : LWrw V B n) (hcr : LWrc V A n) : MC l yL_guess wsL_guess rmL_guess G base [.ref (q 0), .ref (q 1), .int (iI (c : Int))] (lwW G q B A ++ Y) (fun v w => v = some (.int (iI (gsV V c))) ∧ w = (lwW G q B A ++ Y)) (fun _ _ => False) := by
  refine MC.of (cc := cL_guess) (by decide) rfl rfl (Nat.le_of_ble_eq_true rfl) ?_
  intro κ C hT hl hnm
  have hb := hI.2.2.1
  have tc := hI.1.2.2.2.2.1.2 c (by omega)
  refine z_sub [0, 1, 2] (lv' := [(0, .ref (q 0)), (1, .ref (q 1)), (2, .int (iI (c : Int)))]) rfl ?_
  refine z_iload_n C 2 rfl rfl dL_guess_0 (rfl : 0 + 1 = 1) ?_
  refine z_if_eq (pt := 15) C dL_guess_1 (by decide) (rfl : 1 + 3 = 4) (iI_eq0 (by omega)).1 (fun q => mt (iI_eq0 (by omega)).2 q) (fun c1 => ?_) (fun c1 => ?_)
  · unfold gsV
    rw [if_pos (.inl (by omega))]
    refine z_aload_n C 1 rfl rfl dL_guess_15 (rfl : 15 + 1 = 16) ?_
    refine z_iconst C dL_guess_16 (rfl : 16 + 1 = 17) ?_
    refine z_iload_n C 2 rfl rfl dL_guess_17 (rfl : 17 + 1 = 18) ?_
    refine z_imul C dL_guess_18 (rfl : 18 + 1 = 19) rfl ?_
    refine z_iald C lwm_1 ⟨by omega, by omega⟩ (by omega) (rdA (hcr c hc).1 (by omega)) dL_guess_19 (rfl : 19 + 1 = 20) ?_
    exact z_iret C rfl dL_guess_20 ⟨rfl, rfl⟩ (Nat.le_refl _) (Nat.le_refl _)
  refine z_aload_n C 1 rfl rfl dL_guess_4 (rfl : 4 + 1 = 5) ?_
  refine z_iconst C dL_guess_5 (rfl : 5 + 1 = 6) ?_
  refine z_iload_n C 2 rfl rfl dL_guess_6 (rfl : 6 + 1 = 7) ?_
  refine z_imul C dL_guess_7 (rfl : 7 + 1 = 8) rfl ?_
  refine z_iconst C dL_guess_8 (rfl : 8 + 1 = 9) ?_
  refine z_iadd C dL_guess_9 (rfl : 9 + 1 = 10) rfl ?_
  refine z_iald C lwm_1 ⟨by omega, by omega⟩ (by omega) (rdA (hcr c hc).2.1 (by omega)) dL_guess_10 (rfl : 10 + 1 = 11) ?_
  refine z_iconst C dL_guess_11 (rfl : 11 + 1 = 12) ?_
  refine z_icmp_ne (pt := 21) C dL_guess_12 (by decide) (rfl : 12 + 3 = 15) (fun q => mt (iI_eq (by omega) (by omega)).2 q) (iI_eq (by omega) (by omega)).1 (fun c2 => ?_) (fun c2 => ?_)
  · unfold gsV
    rw [if_neg (by omega)]
    refine z_iload_n C 2 rfl rfl dL_guess_21 (rfl : 21 + 1 = 22) ?_
    refine z_iconst C dL_guess_22 (rfl : 22 + 1 = 23) ?_
    refine z_isub C dL_guess_23 (rfl : 23 + 1 = 24) rfl ?_
    refine z_istore_n (lv' := [(3, _), (0, _), (1, _), (2, _)]) C rfl dL_guess_24 (rfl : 24 + 1 = 25) (by decide) rfl ?_
    refine z_bipush (c := (-100)) C (by decide) dL_guess_25 (rfl : 25 + 2 = 27) ?_
    refine z_istore (lv' := [(4, _), (3, _), (0, _), (1, _), (2, _)]) C dL_guess_27 (rfl : 27 + 2 = 29) (by decide) rfl ?_
    refine z_iload_n C 4 rfl rfl dL_guess_29 (rfl : 29 + 1 = 30) ?_
    refine z_iconst C dL_guess_30 (rfl : 30 + 1 = 31) ?_
    refine z_isub C dL_guess_31 (rfl : 31 + 1 = 32) rfl ?_
    refine z_istore (lv' := [(5, _), (4, _), (3, _), (0, _), (1, _), (2, _)]) C dL_guess_32 (rfl : 32 + 2 = 34) (by decide) rfl ?_
    refine z_sub [0, 1, 2, 3, 4, 5] (lv' := [(5, .int (iI ((c : Int) - 1))), (4, .int (iI (-100))), (3, .int (iI ((c - 1 : Nat) : Int))), (0, .ref (q 0)), (1, .ref (q 1)), (2, .int (iI (c : Int)))]) (by rw [show ((c - 1 : Nat) : Int) = (c : Int) - 1 from by omega]; rfl) ?_
    exact lp_L_guess C hc (by omega) hI hw ⟨rfl, rfl⟩ c (c - 1) (-100) (Nat.le_refl _) ⟨by omega, .inl ⟨rfl, rfl, by omega⟩⟩
  · unfold gsV
    rw [if_pos (.inr c2)]
    refine z_aload_n C 1 rfl rfl dL_guess_15 (rfl : 15 + 1 = 16) ?_
    refine z_iconst C dL_guess_16 (rfl : 16 + 1 = 17) ?_
    refine z_iload_n C 2 rfl rfl dL_guess_17 (rfl : 17 + 1 = 18) ?_
    refine z_imul C dL_guess_18 (rfl : 18 + 1 = 19) rfl ?_
    refine z_iald C lwm_1 ⟨by omega, by omega⟩ (by omega) (rdA (hcr c hc).1 (by omega)) dL_guess_19 (rfl : 19 + 1 = 20) ?_
    exact z_iret C rfl dL_guess_20 ⟨rfl, rfl⟩ (Nat.le_refl _) (Nat.le_refl _)
end
