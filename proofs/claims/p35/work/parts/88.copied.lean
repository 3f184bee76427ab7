theorem hd88_L_place : yL_place.cls ≠ "java/lang/invoke/MethodHandle" ∧ yL_place.cls ≠ "java/lang/invoke/VarHandle" ∧ (parseMethodDescriptor yL_place.desc).map (fun d => d.parameters.length) = some 1 := by decide +kernel
theorem hd88_L_slipped : yL_slipped.cls ≠ "java/lang/invoke/MethodHandle" ∧ yL_slipped.cls ≠ "java/lang/invoke/VarHandle" ∧ (parseMethodDescriptor yL_slipped.desc).map (fun d => d.parameters.length) = some 3 := by decide +kernel
theorem hd88_L_told : yL_told.cls ≠ "java/lang/invoke/MethodHandle" ∧ yL_told.cls ≠ "java/lang/invoke/VarHandle" ∧ (parseMethodDescriptor yL_told.desc).map (fun d => d.parameters.length) = some 2 := by decide +kernel
theorem hd88_L_family : yL_family.cls ≠ "java/lang/invoke/MethodHandle" ∧ yL_family.cls ≠ "java/lang/invoke/VarHandle" ∧ (parseMethodDescriptor yL_family.desc).map (fun d => d.parameters.length) = some 4 := by decide +kernel
theorem hd88_L_lowest : yL_lowest.cls ≠ "java/lang/invoke/MethodHandle" ∧ yL_lowest.cls ≠ "java/lang/invoke/VarHandle" ∧ (parseMethodDescriptor yL_lowest.desc).map (fun d => d.parameters.length) = some 1 := by decide +kernel
theorem hd88_L_copied : yL_copied.cls ≠ "java/lang/invoke/MethodHandle" ∧ yL_copied.cls ≠ "java/lang/invoke/VarHandle" ∧ (parseMethodDescriptor yL_copied.desc).map (fun d => d.parameters.length) = some 5 := by decide +kernel
theorem hd88_L_put : yL_put.cls ≠ "java/lang/invoke/MethodHandle" ∧ yL_put.cls ≠ "java/lang/invoke/VarHandle" ∧ (parseMethodDescriptor yL_put.desc).map (fun d => d.parameters.length) = some 3 := by decide +kernel
theorem hd88_L_get : yL_get.cls ≠ "java/lang/invoke/MethodHandle" ∧ yL_get.cls ≠ "java/lang/invoke/VarHandle" ∧ (parseMethodDescriptor yL_get.desc).map (fun d => d.parameters.length) = some 2 := by decide +kernel
/-! the law's slips, told models and copies -/
def INV5 (G : GG) (q : Nat → Nat) (x : Nat) (D : Int) (w : va_W) : Prop :=
  ∃ (V : Nat → Nat → Int) (n m t : Nat) (B : Nat → Nat → Int64) (A : Nat → Nat → Int) (L : List Nat) (K : Nat → Nat) (I : Nat → Nat → Int) (F : Nat → Nat → Option Nat) (R : Nat → Nat → Int) (N : Nat → Nat) (O : Nat → Nat → Option Nat) (T : Nat → Nat) (g : Nat → Nat → Nat),
    w = pw G (lwW G q B A) L K I F R N O ∧ g 6 0 = x ∧ RX (gde G) L K I F R N O T g V n m t ∧ LInv V n m t ∧ LWr V n m t B A ∧ V 9 0 ≤ D
theorem INV5.le {G : GG} {q : Nat → Nat} {x : Nat} {D D' : Int} {w : va_W} (h : INV5 G q x D w) (hD : D ≤ D') : INV5 G q x D' w := by
  obtain ⟨V, n, m, t, B, A, L, K, I, F, R, N, O, T, g, h1, h2, h3, h4, h5, h6⟩ := h
  exact ⟨V, n, m, t, B, A, L, K, I, F, R, N, O, T, g, h1, h2, h3, h4, h5, by omega⟩
theorem ex_cpR (V : Nat → Nat → Int) (n c s : Nat) : ∃ f0 f6 f8, cpR V n c s 24 f0 f6 f8 := by
  refine ⟨fun j => if 24 * n ≤ j ∧ j < 24 * n + 24 then (if V 6 (j - 24 * n) = -1 then V 0 (24 * c + (j - 24 * n)) else V 6 (j - 24 * n)) else V 0 j, fun k => if k < 24 then -1 else V 6 k, fun k => if k = s then V 8 s + wrn (rdV V c) (V 6) 24 else V 8 k, fun k hk => ?_, fun j hj => ?_, fun k hk => ?_, fun k hk => ?_, ?_, fun k hk => ?_⟩
  · show (if 24 * n ≤ 24 * n + k ∧ 24 * n + k < 24 * n + 24 then (if V 6 (24 * n + k - 24 * n) = -1 then V 0 (24 * c + (24 * n + k - 24 * n)) else V 6 (24 * n + k - 24 * n)) else V 0 (24 * n + k)) = _
    rw [if_pos ⟨by omega, by omega⟩, Nat.add_sub_cancel_left]
  · show (if 24 * n ≤ j ∧ j < 24 * n + 24 then (if V 6 (j - 24 * n) = -1 then V 0 (24 * c + (j - 24 * n)) else V 6 (j - 24 * n)) else V 0 j) = V 0 j
    rw [if_neg (fun q => hj (j - 24 * n) (by omega) (by omega))]
  · show (if k < 24 then (-1 : Int) else V 6 k) = -1
    rw [if_pos hk]
  · show (if k < 24 then (-1 : Int) else V 6 k) = V 6 k
    rw [if_neg (by omega)]
  · show (if s = s then V 8 s + wrn (rdV V c) (V 6) 24 else V 8 s) = _
    rw [if_pos rfl]
  · show (if k = s then V 8 s + wrn (rdV V c) (V 6) 24 else V 8 k) = V 8 k
    rw [if_neg hk]
theorem ex_wkR (V : Nat → Nat → Int) (h c m : Nat) : ∃ f, wkR V h c m f := by
  refine ⟨fun j => if 24 * c ≤ j ∧ j < 24 * c + 24 then (wkV V h (rdV V c) m).1 (j - 24 * c) else V 0 j, fun k hk => ?_, fun j hj => ?_⟩
  · show (if 24 * c ≤ 24 * c + k ∧ 24 * c + k < 24 * c + 24 then (wkV V h (rdV V c) m).1 (24 * c + k - 24 * c) else V 0 (24 * c + k)) = _
    rw [if_pos ⟨by omega, by omega⟩, Nat.add_sub_cancel_left]
  · show (if 24 * c ≤ j ∧ j < 24 * c + 24 then (wkV V h (rdV V c) m).1 (j - 24 * c) else V 0 j) = V 0 j
    rw [if_neg (fun q => hj (j - 24 * c) (by omega) (by omega))]
theorem ex_gtL (V : Nat → Nat → Int) (m h o : Nat) : ∃ f, gtL V m h o f := by
  refine ⟨fun j => if 60 * h ≤ j ∧ j < 60 * h + m then (if V 13 j = 1 ∨ V 13 (60 * o + (j - 60 * h)) = 1 then 1 else 0) else V 13 j, fun k hk => ?_, fun j hj => ?_⟩
  · show (if 60 * h ≤ 60 * h + k ∧ 60 * h + k < 60 * h + m then (if V 13 (60 * h + k) = 1 ∨ V 13 (60 * o + (60 * h + k - 60 * h)) = 1 then (1 : Int) else 0) else V 13 (60 * h + k)) = _
    rw [if_pos ⟨by omega, by omega⟩, Nat.add_sub_cancel_left]
  · show (if 60 * h ≤ j ∧ j < 60 * h + m then (if V 13 j = 1 ∨ V 13 (60 * o + (j - 60 * h)) = 1 then (1 : Int) else 0) else V 13 j) = V 13 j
    rw [if_neg (fun q => hj (j - 60 * h) (by omega) (by omega))]
theorem mxP_ex {P : Prop} {ans : Int} {Q : va_W → Prop} : ∀ v w, mxP P ans Q v w → ∃ z : Int, v = some (.int (iI z)) := fun _ _ hv => ⟨ans, hv.2.1⟩
theorem mxE_ise {w0 : va_W} {E1 : String} {P1 P2 : Prop} (h1 : P1) : ∀ E w, mxE w0 E1 sISE P1 P2 E w → E = sISE ∧ w = w0 ∧ ¬ P2 := fun E w hE => by
  rcases hE.2 with ⟨-, h⟩ | ⟨he, -, h⟩
  · exact absurd h1 h
  · exact ⟨he, hE.1, h⟩
theorem mxE3_ise {w0 : va_W} {P1 P2 P3 : Prop} (h1 : P1) (h2 : P2) : ∀ E w, mxE3 w0 P1 P2 P3 E w → E = sISE ∧ w = w0 ∧ ¬ P3 := fun E w hE => by
  rcases hE.2 with ⟨-, h⟩ | ⟨-, -, h⟩ | ⟨he, -, -, h⟩
  · exact absurd h1 h
  · exact absurd h2 h
  · exact ⟨he, hE.1, h⟩
theorem cp_7 (A : Nat → Nat → Int) (a2 a7 : Nat → Int) (i : Nat) (v : Int) : up2 (va_up (va_up A 2 a2) 7 a7) 7 i v = va_up (va_up A 2 a2) 7 (va_up a7 i v) := by
  rw [up2_row, va_up_self, up_up]
theorem cp_2 (A : Nat → Nat → Int) (a2 a7 : Nat → Int) (i : Nat) (v : Int) : up2 (va_up (va_up A 2 a2) 7 a7) 2 i v = va_up (va_up A 2 (va_up a2 i v)) 7 a7 := by
  funext c
  by_cases h2 : c = 2
  · subst h2; simp [up2, va_up]
  · by_cases h7 : c = 7
    · subst h7; simp [up2, va_up]
    · simp [up2, va_up, h2, h7]
section
variable {κ : KxT} {G : GG} {base mc ms : Nat} {post : Option Value → va_W → Prop} {exc : String → va_W → Prop} {L : List Nat} {K : Nat → Nat} {I : Nat → Nat → Int} {F : Nat → Nat → Option Nat} {R : Nat → Nat → Int} {N : Nat → Nat} {O : Nat → Nat → Option Nat} {l : Launch} {q : Nat → Nat} {V : Nat → Nat → Int} {B : Nat → Nat → Int64} {A : Nat → Nat → Int} {n m t : Nat} {T : Nat → Nat} {g : Nat → Nat → Nat}
abbrev rmL_isCopied : Room := { frames := 9, cells := 8, slots := 300, locals := 340 }
theorem tl_L_slip1 (C : Cx κ cL_isCopied 13 wsL_isCopied RL (some .boolean) rmL_isCopied G base) {D z : Int} {way : Nat} {r : Int} {k : Nat} (hk : k < 12) (hr : -1 ≤ r ∧ r ≤ 9) (hz : 0 ≤ z ∧ z < 20000000) (h : RX (gde G) L K I F R N O T g V n m t) (hI : LInv V n m t) (hW : LWr V n m t B A) (hD : V 9 0 ≤ D) (hq : ∀ w, INV5 G q (g 6 0) D w → post (some (.int (iI 1))) w) (hmc : mc = 8) (hms : ms = 300) (hok : okSlip V ((plc k : Nat) : Int) r) : Z κ 13 G base mc ms post exc 0 0 77 [(9, .int (iI r)), (8, .int (iI (k : Int))), (0, .ref (g 6 0)), (1, .ref (q 0)), (2, .ref (q 1)), (3, .ref (q 2)), (4, .ref (q 7)), (5, .ref (q 8)), (6, .int (iI (way : Int))), (7, .int (iI z))] [] (pw G (lwW G q B A) L K I F R N O) := by
  have hpl := plc_lt hk
  have wq := hW.2.2.2.1 k hk
  have v6 := hI.1.2.2.2.2.2.2.1 (plc k) hpl
  have k116 : ∀ a b : Int, a = b01 (r ≠ -1) → b = b01 (V 6 (plc k) ≠ -1) → Z κ 13 G base mc ms post exc 0 0 116 [(10, .int (iI 1)), (9, .int (iI r)), (8, .int (iI (k : Int))), (0, .ref (g 6 0)), (1, .ref (q 0)), (2, .ref (q 1)), (3, .ref (q 2)), (4, .ref (q 7)), (5, .ref (q 8)), (6, .int (iI (way : Int))), (7, .int (iI z))] [.int (iI b), .int (iI a), .int (iI (V 7 0)), .int (iI 1), .ref (q 8)] (pw G (lwW G q B A) L K I F R N O) := by
    intro a b ha hb
    obtain ⟨hI2, hW2⟩ := mu_slip (s := V 7 0 + (a - b)) hk hr hI hW (by rw [ha, hb])
    refine z_isub C dL_isCopied_116 (rfl : 116 + 1 = 117) rfl ?_
    refine z_iadd C dL_isCopied_117 (rfl : 117 + 1 = 118) rfl ?_
    refine z_iastN (i := 1) C lwm_8 ⟨by omega, by omega⟩ (by omega) (by omega) dL_isCopied_118 (rfl : 118 + 1 = 119) lws_8 ?_
    refine z_aload_n C 6 rfl rfl dL_isCopied_119 (rfl : 119 + 1 = 120) ?_
    refine z_iload C 2 rfl dL_isCopied_120 (rfl : 120 + 2 = 122) ?_
    refine z_iload C 1 rfl dL_isCopied_122 (rfl : 122 + 2 = 124) ?_
    refine z_iastN (i := k) C lwm_2 ⟨by omega, by omega⟩ (by omega) (by omega) dL_isCopied_124 (rfl : 124 + 1 = 125) lws_2 ?_
    refine z_aload_n C 3 rfl rfl dL_isCopied_125 (rfl : 125 + 1 = 126) ?_
    refine z_iload C 2 rfl dL_isCopied_126 (rfl : 126 + 2 = 128) ?_
    refine z_callS C (0) (0) (c_L_place hk) gL_isCopied_L_place rfl hd88_L_place ⟨Nat.le_of_ble_eq_true rfl, Nat.le_of_ble_eq_true rfl⟩ rfl (Nat.le_of_ble_eq_true rfl) dL_isCopied_128 (rfl : 128 + 3 = 131) rfl rfl ⟨by show 0 ≤ 8; omega, by show 0 ≤ 300; omega⟩ (fun _ _ h => h.elim) ?_ rfl
    rintro _ _ ⟨rfl, rfl⟩
    refine z_v1 ?_
    refine z_iload C 1 rfl dL_isCopied_131 (rfl : 131 + 2 = 133) ?_
    refine z_callH C (2) (12) (c_L_slipped ⟨h.1.x8.1, h.1.x8.2.1⟩ (c_X5_slip (p := ((plc k : Nat) : Int)) (r := r) ⟨by omega, by omega⟩ ⟨by omega, by omega⟩ h hI.1) mxP_ex (mxE3_ise ⟨by omega, by omega⟩ hr)) gL_isCopied_L_slipped rfl hd88_L_slipped ⟨Nat.le_of_ble_eq_true rfl, Nat.le_of_ble_eq_true rfl⟩ rfl (Nat.le_of_ble_eq_true rfl) dL_isCopied_133 (rfl : 133 + 3 = 136) rfl rfl ⟨by show 2 ≤ 8; omega, by show 12 ≤ 300; omega⟩ ?_ rfl
    rintro v w (⟨hP, rfl, hm⟩ | ⟨hbad, -, -⟩)
    rotate_left
    · exact absurd hok hbad
    obtain ⟨L', K', I', F', R', N', O', T', g', rfl, hg, hR⟩ := hm
    refine z_v1 ?_
    refine z_iload C 0 rfl dL_isCopied_136 (rfl : 136 + 2 = 138) ?_
    refine z_if_eq (pt := 148) C dL_isCopied_138 (by decide) (rfl : 138 + 3 = 141) (iI_eq0 (by decide)).1 (fun q => mt (iI_eq0 (by decide)).2 q) (fun c1 => ?_) (fun c1 => ?_)
    · exact absurd c1 (by decide)
    refine z_aload C 8 rfl dL_isCopied_141 (rfl : 141 + 2 = 143) ?_
    refine z_iconst C dL_isCopied_143 (rfl : 143 + 1 = 144) ?_
    refine z_iald C lwm_8 ⟨by omega, by omega⟩ (by omega) (rdA hW2.1.2.1 (by omega)) dL_isCopied_144 (rfl : 144 + 1 = 145) ?_
    refine z_goto (pc' := 150) C dL_isCopied_145 (by decide) ?_
    refine z_same (pt := 157) C rfl dL_isCopied_150 (by decide) (rfl : 150 + 3 = 153) ?_
    refine z_iconst C dL_isCopied_153 (rfl : 153 + 1 = 154) ?_
    refine z_goto (pc' := 158) C dL_isCopied_154 (by decide) ?_
    exact z_zret C rfl (.inr rfl) dL_isCopied_158 (hq _ ⟨_, _, _, _, _, _, L', K', I', F', R', N', O', T', g', rfl, hg, hR _ rfl, hI2, hW2, hD⟩) (by omega) (by omega)
  have k104 : ∀ a : Int, a = b01 (r ≠ -1) → Z κ 13 G base mc ms post exc 0 0 104 [(10, .int (iI 1)), (9, .int (iI r)), (8, .int (iI (k : Int))), (0, .ref (g 6 0)), (1, .ref (q 0)), (2, .ref (q 1)), (3, .ref (q 2)), (4, .ref (q 7)), (5, .ref (q 8)), (6, .int (iI (way : Int))), (7, .int (iI z))] [.int (iI a), .int (iI (V 7 0)), .int (iI 1), .ref (q 8)] (pw G (lwW G q B A) L K I F R N O) := by
    intro a ha
    refine z_aload_n C 6 rfl rfl dL_isCopied_104 (rfl : 104 + 1 = 105) ?_
    refine z_iload C 2 rfl dL_isCopied_105 (rfl : 105 + 2 = 107) ?_
    refine z_iald C lwm_2 ⟨by omega, by omega⟩ (by omega) (rdA wq (by omega)) dL_isCopied_107 (rfl : 107 + 1 = 108) ?_
    refine z_if_ge (pt := 115) C dL_isCopied_108 (by decide) (rfl : 108 + 3 = 111) (iI_0le (by omega)).1 (fun q => mt (iI_0le (by omega)).2 q) (fun c1 => ?_) (fun c1 => ?_)
    · refine z_iconst C dL_isCopied_115 (rfl : 115 + 1 = 116) ?_
      exact k116 a _ ha (b01_t (by omega)).symm
    · refine z_iconst C dL_isCopied_111 (rfl : 111 + 1 = 112) ?_
      refine z_goto (pc' := 116) C dL_isCopied_112 (by decide) ?_
      exact k116 a _ ha (b01_f (by omega)).symm
  refine z_iconst C dL_isCopied_77 (rfl : 77 + 1 = 78) ?_
  refine z_goto (pc' := 82) C dL_isCopied_78 (by decide) ?_
  refine z_istore (lv' := [(10, _), (9, _), (8, _), (0, _), (1, _), (2, _), (3, _), (4, _), (5, _), (6, _), (7, _)]) C dL_isCopied_82 (rfl : 82 + 2 = 84) (by decide) rfl ?_
  refine z_iload C 0 rfl dL_isCopied_84 (rfl : 84 + 2 = 86) ?_
  refine z_if_eq (pt := 125) C dL_isCopied_86 (by decide) (rfl : 86 + 3 = 89) (iI_eq0 (by decide)).1 (fun q => mt (iI_eq0 (by decide)).2 q) (fun c1 => ?_) (fun c1 => ?_)
  · exact absurd c1 (by decide)
  refine z_aload C 8 rfl dL_isCopied_89 (rfl : 89 + 2 = 91) ?_
  refine z_iconst C dL_isCopied_91 (rfl : 91 + 1 = 92) ?_
  refine z_dup2 C rfl rfl dL_isCopied_92 (rfl : 92 + 1 = 93) ?_
  refine z_iald C lwm_8 ⟨by omega, by omega⟩ (by omega) (rdA hW.1.2.1 (by omega)) dL_isCopied_93 (rfl : 93 + 1 = 94) ?_
  refine z_iload C 1 rfl dL_isCopied_94 (rfl : 94 + 2 = 96) ?_
  refine z_if_ge (pt := 103) C dL_isCopied_96 (by decide) (rfl : 96 + 3 = 99) (iI_0le (by omega)).1 (fun q => mt (iI_0le (by omega)).2 q) (fun c2 => ?_) (fun c2 => ?_)
  · refine z_iconst C dL_isCopied_103 (rfl : 103 + 1 = 104) ?_
    exact k104 _ (b01_t (by omega)).symm
  · refine z_iconst C dL_isCopied_99 (rfl : 99 + 1 = 100) ?_
    refine z_goto (pc' := 104) C dL_isCopied_100 (by decide) ?_
    exact k104 _ (b01_f (by omega)).symm
theorem tl_L_slip0 (C : Cx κ cL_isCopied 13 wsL_isCopied RL (some .boolean) rmL_isCopied G base) {D z : Int} {way : Nat} {r : Int} {k : Nat} (hk : k < 12) (hr : -1 ≤ r ∧ r ≤ 9) (hz : 0 ≤ z ∧ z < 20000000) (h : RX (gde G) L K I F R N O T g V n m t) (hI : LInv V n m t) (hW : LWr V n m t B A) (hD : V 9 0 ≤ D) (hq : ∀ w, INV5 G q (g 6 0) D w → post (some (.int (iI 1))) w) (hmc : mc = 8) (hms : ms = 300) (hok : ¬ okSlip V ((plc k : Nat) : Int) r) : Z κ 13 G base mc ms post exc 0 0 81 [(9, .int (iI r)), (8, .int (iI (k : Int))), (0, .ref (g 6 0)), (1, .ref (q 0)), (2, .ref (q 1)), (3, .ref (q 2)), (4, .ref (q 7)), (5, .ref (q 8)), (6, .int (iI (way : Int))), (7, .int (iI z))] [] (pw G (lwW G q B A) L K I F R N O) := by
  have hpl := plc_lt hk
  refine z_iconst C dL_isCopied_81 (rfl : 81 + 1 = 82) ?_
  refine z_istore (lv' := [(10, _), (9, _), (8, _), (0, _), (1, _), (2, _), (3, _), (4, _), (5, _), (6, _), (7, _)]) C dL_isCopied_82 (rfl : 82 + 2 = 84) (by decide) rfl ?_
  refine z_iload C 0 rfl dL_isCopied_84 (rfl : 84 + 2 = 86) ?_
  refine z_if_eq (pt := 125) C dL_isCopied_86 (by decide) (rfl : 86 + 3 = 89) (iI_eq0 (by decide)).1 (fun q => mt (iI_eq0 (by decide)).2 q) (fun c1 => ?_) (fun c1 => ?_)
  rotate_left
  · exact absurd rfl c1
  refine z_aload_n C 3 rfl rfl dL_isCopied_125 (rfl : 125 + 1 = 126) ?_
  refine z_iload C 2 rfl dL_isCopied_126 (rfl : 126 + 2 = 128) ?_
  refine z_callS C (0) (0) (c_L_place hk) gL_isCopied_L_place rfl hd88_L_place ⟨Nat.le_of_ble_eq_true rfl, Nat.le_of_ble_eq_true rfl⟩ rfl (Nat.le_of_ble_eq_true rfl) dL_isCopied_128 (rfl : 128 + 3 = 131) rfl rfl ⟨by show 0 ≤ 8; omega, by show 0 ≤ 300; omega⟩ (fun _ _ h => h.elim) ?_ rfl
  rintro _ _ ⟨rfl, rfl⟩
  refine z_v1 ?_
  refine z_iload C 1 rfl dL_isCopied_131 (rfl : 131 + 2 = 133) ?_
  refine z_callH C (2) (12) (c_L_slipped ⟨h.1.x8.1, h.1.x8.2.1⟩ (c_X5_slip (p := ((plc k : Nat) : Int)) (r := r) ⟨by omega, by omega⟩ ⟨by omega, by omega⟩ h hI.1) mxP_ex (mxE3_ise ⟨by omega, by omega⟩ hr)) gL_isCopied_L_slipped rfl hd88_L_slipped ⟨Nat.le_of_ble_eq_true rfl, Nat.le_of_ble_eq_true rfl⟩ rfl (Nat.le_of_ble_eq_true rfl) dL_isCopied_133 (rfl : 133 + 3 = 136) rfl rfl ⟨by show 2 ≤ 8; omega, by show 12 ≤ 300; omega⟩ ?_ rfl
  rintro v w (⟨hP, -, -⟩ | ⟨-, rfl, rfl⟩)
  · exact absurd hP.2.2 hok
  refine z_v1 ?_
  refine z_iload C 0 rfl dL_isCopied_136 (rfl : 136 + 2 = 138) ?_
  refine z_if_eq (pt := 148) C dL_isCopied_138 (by decide) (rfl : 138 + 3 = 141) (iI_eq0 (by decide)).1 (fun q => mt (iI_eq0 (by decide)).2 q) (fun c2 => ?_) (fun c2 => ?_)
  rotate_left
  · exact absurd rfl c2
  refine z_bipush (c := (-7)) C (by decide) dL_isCopied_148 (rfl : 148 + 2 = 150) ?_
  refine z_same (pt := 157) C rfl dL_isCopied_150 (by decide) (rfl : 150 + 3 = 153) ?_
  refine z_iconst C dL_isCopied_153 (rfl : 153 + 1 = 154) ?_
  refine z_goto (pc' := 158) C dL_isCopied_154 (by decide) ?_
  exact z_zret C rfl (.inr rfl) dL_isCopied_158 (hq _ ⟨V, n, m, t, B, A, L, K, I, F, R, N, O, T, g, rfl, rfl, h, hI, hW, hD⟩) (by omega) (by omega)
theorem tl_L_slip (C : Cx κ cL_isCopied 13 wsL_isCopied RL (some .boolean) rmL_isCopied G base) {D z : Int} {way : Nat} (hz : 0 ≤ z ∧ z < 20000000) (h : RX (gde G) L K I F R N O T g V n m t) (hI : LInv V n m t) (hW : LWr V n m t B A) (hD : V 9 0 ≤ D) (hq : ∀ w, INV5 G q (g 6 0) D w → post (some (.int (iI 1))) w) (hmc : mc = 8) (hms : ms = 300) : Z κ 13 G base mc ms post exc 0 0 6 [(0, .ref (g 6 0)), (1, .ref (q 0)), (2, .ref (q 1)), (3, .ref (q 2)), (4, .ref (q 7)), (5, .ref (q 8)), (6, .int (iI (way : Int))), (7, .int (iI z))] [] (pw G (lwW G q B A) L K I F R N O) := by
  obtain ⟨k, ek⟩ : ∃ k : Nat, z % 12 = (k : Int) := ⟨(z % 12).toNat, by omega⟩
  have hk : k < 12 := by omega
  have hpl := plc_lt hk
  have wq := hW.2.2.2.1 k hk
  have v6 := hI.1.2.2.2.2.2.2.1 (plc k) hpl
  have k54 : ∀ r : Int, -1 ≤ r ∧ r ≤ 9 → Z κ 13 G base mc ms post exc 0 0 54 [(8, .int (iI (k : Int))), (0, .ref (g 6 0)), (1, .ref (q 0)), (2, .ref (q 1)), (3, .ref (q 2)), (4, .ref (q 7)), (5, .ref (q 8)), (6, .int (iI (way : Int))), (7, .int (iI z))] [.int (iI r)] (pw G (lwW G q B A) L K I F R N O) := by
    intro r hr
    refine z_istore (lv' := [(9, _), (8, _), (0, _), (1, _), (2, _), (3, _), (4, _), (5, _), (6, _), (7, _)]) C dL_isCopied_54 (rfl : 54 + 2 = 56) (by decide) rfl ?_
    refine z_iload C 0 rfl dL_isCopied_56 (rfl : 56 + 2 = 58) ?_
    refine z_if_lt (pt := 77) C dL_isCopied_58 (by decide) (rfl : 58 + 3 = 61) (iI_lt0 (by omega)).1 (fun q => mt (iI_lt0 (by omega)).2 q) (fun c1 => ?_) (fun c1 => ?_)
    · exact tl_L_slip1 C hk hr hz h hI hW hD hq hmc hms (.inl (by omega))
    refine z_aload_n C 5 rfl rfl dL_isCopied_61 (rfl : 61 + 1 = 62) ?_
    refine z_iload C 1 rfl dL_isCopied_62 (rfl : 62 + 2 = 64) ?_
    refine z_iald C lwm_2 ⟨by omega, by omega⟩ (by omega) (rdA wq (by omega)) dL_isCopied_64 (rfl : 64 + 1 = 65) ?_
    refine z_if_ge (pt := 77) C dL_isCopied_65 (by decide) (rfl : 65 + 3 = 68) (iI_0le (by omega)).1 (fun q => mt (iI_0le (by omega)).2 q) (fun c2 => ?_) (fun c2 => ?_)
    · exact tl_L_slip1 C hk hr hz h hI hW hD hq hmc hms (.inr (.inl (show V 6 (plc k) ≠ -1 by omega)))
    refine z_aload C 7 rfl dL_isCopied_68 (rfl : 68 + 2 = 70) ?_
    refine z_iconst C dL_isCopied_70 (rfl : 70 + 1 = 71) ?_
    refine z_iald C lwm_8 ⟨by omega, by omega⟩ (by omega) (rdA hW.1.2.1 (by omega)) dL_isCopied_71 (rfl : 71 + 1 = 72) ?_
    refine z_bipush (c := 6) C (by decide) dL_isCopied_72 (rfl : 72 + 2 = 74) ?_
    refine z_icmp_ge (pt := 81) C dL_isCopied_74 (by decide) (rfl : 74 + 3 = 77) (Iff.rfl).1 (fun q => mt (Iff.rfl).2 q) (fun c3 => ?_) (fun c3 => ?_)
    · refine tl_L_slip0 C hk hr hz h hI hW hD hq hmc hms ?_
      rintro (q1 | q1 | q1)
      · omega
      · exact q1 (show V 6 (plc k) = -1 by omega)
      · exact i32_nlt.mpr c3 q1
    · exact tl_L_slip1 C hk hr hz h hI hW hD hq hmc hms (.inr (.inr (i32_nle.mp c3)))
  refine z_iload C 7 rfl dL_isCopied_6 (rfl : 6 + 2 = 8) ?_
  refine z_bipush (c := 12) C (by decide) dL_isCopied_8 (rfl : 8 + 2 = 10) ?_
  refine z_irem C ⟨by omega, by omega⟩ ⟨by omega, by omega⟩ rfl dL_isCopied_10 (rfl : 10 + 1 = 11) ?_
  refine z_topi (y := iI (k : Int)) (congrArg iI ek) ?_
  refine z_istore (lv' := [(8, _), (0, _), (1, _), (2, _), (3, _), (4, _), (5, _), (6, _), (7, _)]) C dL_isCopied_11 (rfl : 11 + 2 = 13) (by decide) rfl ?_
  refine z_iload C 8 rfl dL_isCopied_13 (rfl : 13 + 2 = 15) ?_
  refine z_bipush (c := 12) C (by decide) dL_isCopied_15 (rfl : 15 + 2 = 17) ?_
  refine z_iquo C ⟨by omega, by omega⟩ ⟨by omega, by omega⟩ rfl dL_isCopied_17 (rfl : 17 + 1 = 18) ?_
  refine z_bipush (c := 6) C (by decide) dL_isCopied_18 (rfl : 18 + 2 = 20) ?_
  refine z_irem C ⟨by omega, by omega⟩ ⟨by omega, by omega⟩ rfl dL_isCopied_20 (rfl : 20 + 1 = 21) ?_
  refine z_iconst C dL_isCopied_21 (rfl : 21 + 1 = 22) ?_
  refine z_icmp_ne (pt := 29) C dL_isCopied_22 (by decide) (rfl : 22 + 3 = 25) (fun q => mt (iI_eq (by omega) (by omega)).2 q) (iI_eq (by omega) (by omega)).1 (fun c1 => ?_) (fun c1 => ?_)
  · refine z_iload C 8 rfl dL_isCopied_29 (rfl : 29 + 2 = 31) ?_
    refine z_bipush (c := 12) C (by decide) dL_isCopied_31 (rfl : 31 + 2 = 33) ?_
    refine z_iquo C ⟨by omega, by omega⟩ ⟨by omega, by omega⟩ rfl dL_isCopied_33 (rfl : 33 + 1 = 34) ?_
    refine z_bipush (c := 6) C (by decide) dL_isCopied_34 (rfl : 34 + 2 = 36) ?_
    refine z_irem C ⟨by omega, by omega⟩ ⟨by omega, by omega⟩ rfl dL_isCopied_36 (rfl : 36 + 1 = 37) ?_
    refine z_iconst C dL_isCopied_37 (rfl : 37 + 1 = 38) ?_
    refine z_icmp_ne (pt := 46) C dL_isCopied_38 (by decide) (rfl : 38 + 3 = 41) (fun q => mt (iI_eq (by omega) (by omega)).2 q) (iI_eq (by omega) (by omega)).1 (fun c2 => ?_) (fun c2 => ?_)
    · refine z_iload C 8 rfl dL_isCopied_46 (rfl : 46 + 2 = 48) ?_
      refine z_bipush (c := 12) C (by decide) dL_isCopied_48 (rfl : 48 + 2 = 50) ?_
      refine z_iquo C ⟨by omega, by omega⟩ ⟨by omega, by omega⟩ rfl dL_isCopied_50 (rfl : 50 + 1 = 51) ?_
      refine z_bipush (c := 6) C (by decide) dL_isCopied_51 (rfl : 51 + 2 = 53) ?_
      refine z_irem C ⟨by omega, by omega⟩ ⟨by omega, by omega⟩ rfl dL_isCopied_53 (rfl : 53 + 1 = 54) ?_
      exact k54 _ ⟨by omega, by omega⟩
    · refine z_bipush (c := 9) C (by decide) dL_isCopied_41 (rfl : 41 + 2 = 43) ?_
      refine z_goto (pc' := 54) C dL_isCopied_43 (by decide) ?_
      exact k54 _ ⟨by omega, by omega⟩
  · refine z_iconst C dL_isCopied_25 (rfl : 25 + 1 = 26) ?_
    refine z_goto (pc' := 54) C dL_isCopied_26 (by decide) ?_
    exact k54 _ ⟨by omega, by omega⟩
theorem tl_L_tell1 (C : Cx κ cL_isCopied 13 wsL_isCopied RL (some .boolean) rmL_isCopied G base) {D z : Int} {way : Nat} {c : Nat} (hc : c < n) (h0 : 0 < c) (h2 : V 2 c = 0) (hz : 0 ≤ z ∧ z < 20000000) (h : RX (gde G) L K I F R N O T g V n m t) (hI : LInv V n m t) (hW : LWr V n m t B A) (hD : V 9 0 ≤ D) (hq : ∀ w, INV5 G q (g 6 0) D w → post (some (.int (iI 1))) w) (hmc : mc = 8) (hms : ms = 300) : Z κ 13 G base mc ms post exc 0 0 235 [(8, .int (iI (c : Int))), (0, .ref (g 6 0)), (1, .ref (q 0)), (2, .ref (q 1)), (3, .ref (q 2)), (4, .ref (q 7)), (5, .ref (q 8)), (6, .int (iI (way : Int))), (7, .int (iI z))] [] (pw G (lwW G q B A) L K I F R N O) := by
  have hb := hI.2.2.1
  obtain ⟨hI2, hW2⟩ := mu_tell hc h0 hI hW
  refine z_iconst C dL_isCopied_235 (rfl : 235 + 1 = 236) ?_
  refine z_goto (pc' := 240) C dL_isCopied_236 (by decide) ?_
  refine z_istore (lv' := [(9, _), (8, _), (0, _), (1, _), (2, _), (3, _), (4, _), (5, _), (6, _), (7, _)]) C dL_isCopied_240 (rfl : 240 + 2 = 242) (by decide) rfl ?_
  refine z_aload_n C 4 rfl rfl dL_isCopied_242 (rfl : 242 + 1 = 243) ?_
  refine z_iconst C dL_isCopied_243 (rfl : 243 + 1 = 244) ?_
  refine z_iload C 1 rfl dL_isCopied_244 (rfl : 244 + 2 = 246) ?_
  refine z_imul C dL_isCopied_246 (rfl : 246 + 1 = 247) rfl ?_
  refine z_iconst C dL_isCopied_247 (rfl : 247 + 1 = 248) ?_
  refine z_iadd C dL_isCopied_248 (rfl : 248 + 1 = 249) rfl ?_
  refine z_iload C 0 rfl dL_isCopied_249 (rfl : 249 + 2 = 251) ?_
  refine z_if_eq (pt := 258) C dL_isCopied_251 (by decide) (rfl : 251 + 3 = 254) (iI_eq0 (by decide)).1 (fun q => mt (iI_eq0 (by decide)).2 q) (fun c1 => ?_) (fun c1 => ?_)
  · exact absurd c1 (by decide)
  refine z_iconst C dL_isCopied_254 (rfl : 254 + 1 = 255) ?_
  refine z_goto (pc' := 266) C dL_isCopied_255 (by decide) ?_
  refine z_iastN (i := (4 * c + 1)) C lwm_1 ⟨by omega, by omega⟩ (by omega) (by omega) dL_isCopied_266 (rfl : 266 + 1 = 267) lws_1 ?_
  refine z_aload_n C 2 rfl rfl dL_isCopied_267 (rfl : 267 + 1 = 268) ?_
  refine z_iload C 1 rfl dL_isCopied_268 (rfl : 268 + 2 = 270) ?_
  refine z_callH C (2) (12) (c_L_told ⟨h.1.x8.1, h.1.x8.2.1⟩ (c_X5_tellModel (z := (c : Int)) ⟨by omega, by omega⟩ h hI.1) (fun v w hv => by obtain ⟨-, -, f, -, hv, -⟩ := hv; exact ⟨_, hv⟩) (mxE_ise ⟨by omega, by omega⟩)) gL_isCopied_L_told rfl hd88_L_told ⟨Nat.le_of_ble_eq_true rfl, Nat.le_of_ble_eq_true rfl⟩ rfl (Nat.le_of_ble_eq_true rfl) dL_isCopied_270 (rfl : 270 + 3 = 273) rfl rfl ⟨by show 2 ≤ 8; omega, by show 12 ≤ 300; omega⟩ ?_ rfl
  rintro v w (⟨-, -, f, hf, rfl, hm⟩ | ⟨hbad, -, -⟩)
  rotate_left
  · exact (hbad ⟨by omega, h2⟩).elim
  obtain ⟨L', K', I', F', R', N', O', T', g', rfl, hg, hR⟩ := hm
  have hf2 : IsFam (up2 V 2 c 1) n f := hf
  refine z_v1 ?_
  refine z_iload C 0 rfl dL_isCopied_273 (rfl : 273 + 2 = 275) ?_
  refine z_if_eq (pt := 293) C dL_isCopied_275 (by decide) (rfl : 275 + 3 = 278) (iI_eq0 (by decide)).1 (fun q => mt (iI_eq0 (by decide)).2 q) (fun c2 => ?_) (fun c2 => ?_)
  · exact absurd c2 (by decide)
  refine z_aload_n C 3 rfl rfl dL_isCopied_278 (rfl : 278 + 1 = 279) ?_
  refine z_aload_n C 4 rfl rfl dL_isCopied_279 (rfl : 279 + 1 = 280) ?_
  refine z_aload C 7 rfl dL_isCopied_280 (rfl : 280 + 2 = 282) ?_
  refine z_iload C 1 rfl dL_isCopied_282 (rfl : 282 + 2 = 284) ?_
  refine z_callS C (2) (12) (c_L_family hc hI2 hW2.1 hW2.2.1 hW2.2.2.1) gL_isCopied_L_family rfl hd88_L_family ⟨Nat.le_of_ble_eq_true rfl, Nat.le_of_ble_eq_true rfl⟩ rfl (Nat.le_of_ble_eq_true rfl) dL_isCopied_284 (rfl : 284 + 3 = 287) rfl rfl ⟨by show 2 ≤ 8; omega, by show 12 ≤ 300; omega⟩ (fun _ _ h => h.elim) ?_ rfl
  rintro _ _ ⟨rfl, x, rfl, hx⟩
  refine z_v1 ?_
  obtain ⟨y, y1, y2, y3, y4, y5⟩ := fam_low (by omega) hc hx hf2
  refine z_callS C (2) (12) (c_L_lowest y1 y4 y5) gL_isCopied_L_lowest rfl hd88_L_lowest ⟨Nat.le_of_ble_eq_true rfl, Nat.le_of_ble_eq_true rfl⟩ rfl (Nat.le_of_ble_eq_true rfl) dL_isCopied_287 (rfl : 287 + 3 = 290) rfl rfl ⟨by show 2 ≤ 8; omega, by show 12 ≤ 300; omega⟩ (fun _ _ h => h.elim) ?_ rfl
  rintro _ _ ⟨rfl, rfl⟩
  refine z_v1 ?_
  refine z_goto (pc' := 295) C dL_isCopied_290 (by decide) ?_
  refine z_same (pt := 302) C (congrArg iI y3) dL_isCopied_295 (by decide) (rfl : 295 + 3 = 298) ?_
  refine z_iconst C dL_isCopied_298 (rfl : 298 + 1 = 299) ?_
  refine z_goto (pc' := 303) C dL_isCopied_299 (by decide) ?_
  exact z_zret C rfl (.inr rfl) dL_isCopied_303 (hq _ ⟨_, _, _, _, _, _, L', K', I', F', R', N', O', T', g', rfl, hg, hR _ rfl, hI2, hW2, hD⟩) (by omega) (by omega)
theorem tl_L_tell0 (C : Cx κ cL_isCopied 13 wsL_isCopied RL (some .boolean) rmL_isCopied G base) {D z : Int} {way : Nat} {c : Nat} (hc : c < n) (h0 : ¬ (0 < (c : Int) ∧ V 2 c = 0)) (hz : 0 ≤ z ∧ z < 20000000) (h : RX (gde G) L K I F R N O T g V n m t) (hI : LInv V n m t) (hW : LWr V n m t B A) (hD : V 9 0 ≤ D) (hq : ∀ w, INV5 G q (g 6 0) D w → post (some (.int (iI 1))) w) (hmc : mc = 8) (hms : ms = 300) : Z κ 13 G base mc ms post exc 0 0 239 [(8, .int (iI (c : Int))), (0, .ref (g 6 0)), (1, .ref (q 0)), (2, .ref (q 1)), (3, .ref (q 2)), (4, .ref (q 7)), (5, .ref (q 8)), (6, .int (iI (way : Int))), (7, .int (iI z))] [] (pw G (lwW G q B A) L K I F R N O) := by
  have hb := hI.2.2.1
  have wc := (hW.2.2.1 c hc).2.1
  refine z_iconst C dL_isCopied_239 (rfl : 239 + 1 = 240) ?_
  refine z_istore (lv' := [(9, _), (8, _), (0, _), (1, _), (2, _), (3, _), (4, _), (5, _), (6, _), (7, _)]) C dL_isCopied_240 (rfl : 240 + 2 = 242) (by decide) rfl ?_
  refine z_aload_n C 4 rfl rfl dL_isCopied_242 (rfl : 242 + 1 = 243) ?_
  refine z_iconst C dL_isCopied_243 (rfl : 243 + 1 = 244) ?_
  refine z_iload C 1 rfl dL_isCopied_244 (rfl : 244 + 2 = 246) ?_
  refine z_imul C dL_isCopied_246 (rfl : 246 + 1 = 247) rfl ?_
  refine z_iconst C dL_isCopied_247 (rfl : 247 + 1 = 248) ?_
  refine z_iadd C dL_isCopied_248 (rfl : 248 + 1 = 249) rfl ?_
  refine z_iload C 0 rfl dL_isCopied_249 (rfl : 249 + 2 = 251) ?_
  refine z_if_eq (pt := 258) C dL_isCopied_251 (by decide) (rfl : 251 + 3 = 254) (iI_eq0 (by decide)).1 (fun q => mt (iI_eq0 (by decide)).2 q) (fun c1 => ?_) (fun c1 => ?_)
  rotate_left
  · exact absurd rfl c1
  refine z_aload_n C 4 rfl rfl dL_isCopied_258 (rfl : 258 + 1 = 259) ?_
  refine z_iconst C dL_isCopied_259 (rfl : 259 + 1 = 260) ?_
  refine z_iload C 1 rfl dL_isCopied_260 (rfl : 260 + 2 = 262) ?_
  refine z_imul C dL_isCopied_262 (rfl : 262 + 1 = 263) rfl ?_
  refine z_iconst C dL_isCopied_263 (rfl : 263 + 1 = 264) ?_
  refine z_iadd C dL_isCopied_264 (rfl : 264 + 1 = 265) rfl ?_
  refine z_iald C lwm_1 ⟨by omega, by omega⟩ (by omega) (rdA wc (by omega)) dL_isCopied_265 (rfl : 265 + 1 = 266) ?_
  refine z_iastN (i := (4 * c + 1)) C lwm_1 ⟨by omega, by omega⟩ (by omega) (by omega) dL_isCopied_266 (rfl : 266 + 1 = 267) lws_1 ?_
  rw [up2_eq A 1 (4 * c + 1) wc]
  refine z_aload_n C 2 rfl rfl dL_isCopied_267 (rfl : 267 + 1 = 268) ?_
  refine z_iload C 1 rfl dL_isCopied_268 (rfl : 268 + 2 = 270) ?_
  refine z_callH C (2) (12) (c_L_told ⟨h.1.x8.1, h.1.x8.2.1⟩ (c_X5_tellModel (z := (c : Int)) ⟨by omega, by omega⟩ h hI.1) (fun v w hv => by obtain ⟨-, -, f, -, hv, -⟩ := hv; exact ⟨_, hv⟩) (mxE_ise ⟨by omega, by omega⟩)) gL_isCopied_L_told rfl hd88_L_told ⟨Nat.le_of_ble_eq_true rfl, Nat.le_of_ble_eq_true rfl⟩ rfl (Nat.le_of_ble_eq_true rfl) dL_isCopied_270 (rfl : 270 + 3 = 273) rfl rfl ⟨by show 2 ≤ 8; omega, by show 12 ≤ 300; omega⟩ ?_ rfl
  rintro v w (⟨-, hP, -⟩ | ⟨-, rfl, rfl⟩)
  · exact absurd hP h0
  refine z_v1 ?_
  refine z_iload C 0 rfl dL_isCopied_273 (rfl : 273 + 2 = 275) ?_
  refine z_if_eq (pt := 293) C dL_isCopied_275 (by decide) (rfl : 275 + 3 = 278) (iI_eq0 (by decide)).1 (fun q => mt (iI_eq0 (by decide)).2 q) (fun c2 => ?_) (fun c2 => ?_)
  rotate_left
  · exact absurd rfl c2
  refine z_bipush (c := (-7)) C (by decide) dL_isCopied_293 (rfl : 293 + 2 = 295) ?_
  refine z_same (pt := 302) C rfl dL_isCopied_295 (by decide) (rfl : 295 + 3 = 298) ?_
  refine z_iconst C dL_isCopied_298 (rfl : 298 + 1 = 299) ?_
  refine z_goto (pc' := 303) C dL_isCopied_299 (by decide) ?_
  exact z_zret C rfl (.inr rfl) dL_isCopied_303 (hq _ ⟨V, n, m, t, B, A, L, K, I, F, R, N, O, T, g, rfl, rfl, h, hI, hW, hD⟩) (by omega) (by omega)
theorem tl_L_copy0 (C : Cx κ cL_isCopied 13 wsL_isCopied RL (some .boolean) rmL_isCopied G base) {D z : Int} {way : Nat} {c s y : Nat} {b : Int} (hc : c < n) (hs : s < 6) (hy : y < 5) (hb : b = 0 ∨ b = 1) (hne : ¬ V 4 c = (y : Int)) (hz : 0 ≤ z ∧ z < 20000000) (h : RX (gde G) L K I F R N O T g V n m t) (hI : LInv V n m t) (hW : LWr V n m t B A) (hD : V 9 0 ≤ D) (hq : ∀ w, INV5 G q (g 6 0) D w → post (some (.int (iI 1))) w) (hmc : mc = 8) (hms : ms = 300) : Z κ 13 G base mc ms post exc 0 0 377 [(11, .int (iI b)), (10, .int (iI (s : Int))), (9, .int (iI (y : Int))), (8, .int (iI (c : Int))), (0, .ref (g 6 0)), (1, .ref (q 0)), (2, .ref (q 1)), (3, .ref (q 2)), (4, .ref (q 7)), (5, .ref (q 8)), (6, .int (iI (way : Int))), (7, .int (iI z))] [] (pw G (lwW G q B A) L K I F R N O) := by
  have hbn := hI.2.2.1
  refine z_aload_n C 4 rfl rfl dL_isCopied_377 (rfl : 377 + 1 = 378) ?_
  refine z_iload C 3 rfl dL_isCopied_378 (rfl : 378 + 2 = 380) ?_
  refine z_iload C 1 rfl dL_isCopied_380 (rfl : 380 + 2 = 382) ?_
  refine z_iload C 2 rfl dL_isCopied_382 (rfl : 382 + 2 = 384) ?_
  refine z_iload C 0 rfl dL_isCopied_384 (rfl : 384 + 2 = 386) ?_
  refine z_callH C (6) (260) (c_L_copied ⟨h.1.x8.1, h.1.x8.2.1⟩ (c_X5_copy (cz := (c : Int)) (sz := (s : Int)) (hz := (y : Int)) (b := b) ⟨by omega, by omega⟩ ⟨by omega, by omega⟩ ⟨by omega, by omega⟩ hb h hI.1) mxP_ex (mxE_ise ⟨⟨by omega, by omega⟩, ⟨by omega, by omega⟩, by omega, by omega⟩)) gL_isCopied_L_copied rfl hd88_L_copied ⟨Nat.le_of_ble_eq_true rfl, Nat.le_of_ble_eq_true rfl⟩ rfl (Nat.le_of_ble_eq_true rfl) dL_isCopied_386 (rfl : 386 + 3 = 389) rfl rfl ⟨by show 6 ≤ 8; omega, by show 260 ≤ 300; omega⟩ ?_ rfl
  rintro v w (⟨hP, -, -⟩ | ⟨-, rfl, rfl⟩)
  · exact absurd hP.2.1 hne
  refine z_v1 ?_
  refine z_bipush (c := (-7)) C (by decide) dL_isCopied_389 (rfl : 389 + 2 = 391) ?_
  refine z_same (pt := 398) C rfl dL_isCopied_391 (by decide) (rfl : 391 + 3 = 394) ?_
  refine z_iconst C dL_isCopied_394 (rfl : 394 + 1 = 395) ?_
  refine z_goto (pc' := 399) C dL_isCopied_395 (by decide) ?_
  exact z_zret C rfl (.inr rfl) dL_isCopied_399 (hq _ ⟨V, n, m, t, B, A, L, K, I, F, R, N, O, T, g, rfl, rfl, h, hI, hW, hD⟩) (by omega) (by omega)
theorem lp_L_copy (C : Cx κ cL_isCopied 13 wsL_isCopied RL (some .boolean) rmL_isCopied G base) {D z : Int} {way : Nat} {c s y : Nat} {b : Int} (hc : c < n) (hs : s < 6) (hy : y < 5) (hb : b = 0 ∨ b = 1) (h : RX (gde G) L K I F R N O T g V n m t) (hI : LInv V n m t) (hW : LWr V n m t B A) (hn : n < 16)
    (kk : ∀ x a2 a7, CpS V A c s 12 x a2 a7 → Z κ 13 G base mc ms post exc 0 0 488 [(12, .int (iI ((12 : Nat) : Int))), (11, .int (iI b)), (10, .int (iI (s : Int))), (9, .int (iI (y : Int))), (8, .int (iI (c : Int))), (0, .ref (g 6 0)), (1, .ref (q 0)), (2, .ref (q 1)), (3, .ref (q 2)), (4, .ref (q 7)), (5, .ref (q 8)), (6, .int (iI (way : Int))), (7, .int (iI z))] [] (pw G (lwW G q (up2 B 0 n x) (va_up (va_up A 2 a2) 7 a7)) L K I F R N O)) :
    ∀ (d i : Nat) (x : Int64) (a2 a7 : Nat → Int), i + d = 12 → CpS V A c s i x a2 a7 → Z κ 13 G base mc ms post exc 0 0 413 [(12, .int (iI (i : Int))), (11, .int (iI b)), (10, .int (iI (s : Int))), (9, .int (iI (y : Int))), (8, .int (iI (c : Int))), (0, .ref (g 6 0)), (1, .ref (q 0)), (2, .ref (q 1)), (3, .ref (q 2)), (4, .ref (q 7)), (5, .ref (q 8)), (6, .int (iI (way : Int))), (7, .int (iI z))] [] (pw G (lwW G q (up2 B 0 n x) (va_up (va_up A 2 a2) 7 a7)) L K I F R N O) := by
  intro d
  induction d with
  | zero =>
    intro i x a2 a7 hi hS
    have e : i = 12 := by omega
    subst e
    refine z_iload C 0 rfl dL_isCopied_413 (rfl : 413 + 2 = 415) ?_
    refine z_bipush (c := 12) C (by decide) dL_isCopied_415 (rfl : 415 + 2 = 417) ?_
    refine z_icmp_ge (pt := 488) C dL_isCopied_417 (by decide) (rfl : 417 + 3 = 420) (iI_le (by omega) (by omega)).1 (fun q => mt (iI_le (by omega) (by omega)).2 q) (fun c1 => ?_) (fun c1 => ?_)
    · exact kk x a2 a7 hS
    · exact absurd c1 (by omega)
  | succ d ih =>
    intro i x a2 a7 hi hS
    have hi12 : i < 12 := by omega
    have hpl := plc_lt hi12
    have rd := hI.rd hc hi12
    have v6 := hI.1.2.2.2.2.2.2.1 (plc i) hpl
    have wq := hW.2.2.2.1 i hi12
    have rq : a2 i = V 6 (plc i) := (hS.2.2.1 i (Nat.le_refl _)).trans wq
    refine z_iload C 0 rfl dL_isCopied_413 (rfl : 413 + 2 = 415) ?_
    refine z_bipush (c := 12) C (by decide) dL_isCopied_415 (rfl : 415 + 2 = 417) ?_
    refine z_icmp_ge (pt := 488) C dL_isCopied_417 (by decide) (rfl : 417 + 3 = 420) (iI_le (by omega) (by omega)).1 (fun q => mt (iI_le (by omega) (by omega)).2 q) (fun c1 => ?_) (fun c1 => ?_)
    · exact absurd c1 (by omega)
    refine z_aload_n C 8 rfl rfl dL_isCopied_420 (rfl : 420 + 1 = 421) ?_
    refine z_iload C 0 rfl dL_isCopied_421 (rfl : 421 + 2 = 423) ?_
    refine z_iald C lwm_2 ⟨by omega, by omega⟩ (by omega) (rdA rq (by omega)) dL_isCopied_423 (rfl : 423 + 1 = 424) ?_
    refine z_if_lt (pt := 482) C dL_isCopied_424 (by decide) (rfl : 424 + 3 = 427) (iI_lt0 (by omega)).1 (fun q => mt (iI_lt0 (by omega)).2 q) (fun c2 => ?_) (fun c2 => ?_)
    · refine z_iinc (lv' := [(12, _), (11, _), (10, _), (9, _), (8, _), (0, _), (1, _), (2, _), (3, _), (4, _), (5, _), (6, _), (7, _)]) C 0 dL_isCopied_482 (rfl : 482 + 3 = 485) rfl rfl (by decide) rfl ?_
      refine z_goto (pc' := 413) C dL_isCopied_485 (by decide) ?_
      exact ih (i + 1) x a2 a7 (by omega) (hS.skip hi12 (by omega) (by omega))
    have fin : ∀ z0 : Int, z0 = b01 (V 0 (24 * c + plc i) ≠ V 6 (plc i)) → Z κ 13 G base mc ms post exc 0 0 454 [(12, .int (iI (i : Int))), (11, .int (iI b)), (10, .int (iI (s : Int))), (9, .int (iI (y : Int))), (8, .int (iI (c : Int))), (0, .ref (g 6 0)), (1, .ref (q 0)), (2, .ref (q 1)), (3, .ref (q 2)), (4, .ref (q 7)), (5, .ref (q 8)), (6, .int (iI (way : Int))), (7, .int (iI z))] [.int (iI z0), .int (iI (a7 s)), .int (iI (s : Int)), .ref (q 7)] (pw G (lwW G q (up2 B 0 n x) (va_up (va_up A 2 a2) 7 a7)) L K I F R N O) := by
      intro z0 hz0
      refine z_iadd C dL_isCopied_454 (rfl : 454 + 1 = 455) rfl ?_
      refine z_iastN (i := s) C lwm_7 ⟨by omega, by omega⟩ (by omega) (by omega) dL_isCopied_455 (rfl : 455 + 1 = 456) lws_7 ?_
      rw [cp_7]
      refine z_aload_n C 6 rfl rfl dL_isCopied_456 (rfl : 456 + 1 = 457) ?_
      refine z_aload C 10 rfl dL_isCopied_457 (rfl : 457 + 2 = 459) ?_
      refine z_iconst C dL_isCopied_459 (rfl : 459 + 1 = 460) ?_
      refine z_iald C lwm_8 ⟨by omega, by omega⟩ (by omega) (rdA hW.1.1 (by omega)) dL_isCopied_460 (rfl : 460 + 1 = 461) ?_
      refine z_aload_n C 6 rfl rfl dL_isCopied_461 (rfl : 461 + 1 = 462) ?_
      refine z_aload C 10 rfl dL_isCopied_462 (rfl : 462 + 2 = 464) ?_
      refine z_iconst C dL_isCopied_464 (rfl : 464 + 1 = 465) ?_
      refine z_iald C lwm_8 ⟨by omega, by omega⟩ (by omega) (rdA hW.1.1 (by omega)) dL_isCopied_465 (rfl : 465 + 1 = 466) ?_
      refine z_lald C (x := x) lwm_0 ⟨by omega, by omega⟩ (by omega) (up2_at B 0 n x) dL_isCopied_466 (rfl : 466 + 1 = 467) ?_
      refine z_iload C 0 rfl dL_isCopied_467 (rfl : 467 + 2 = 469) ?_
      refine z_aload_n C 8 rfl rfl dL_isCopied_469 (rfl : 469 + 1 = 470) ?_
      refine z_iload C 0 rfl dL_isCopied_470 (rfl : 470 + 2 = 472) ?_
      refine z_iald C lwm_2 ⟨by omega, by omega⟩ (by omega) (rdA rq (by omega)) dL_isCopied_472 (rfl : 472 + 1 = 473) ?_
      refine z_callS C (0) (0) (c_L_put (k := i) (r := V 6 (plc i))) gL_isCopied_L_put rfl hd88_L_put ⟨Nat.le_of_ble_eq_true rfl, Nat.le_of_ble_eq_true rfl⟩ rfl (Nat.le_of_ble_eq_true rfl) dL_isCopied_473 (rfl : 473 + 3 = 476) rfl rfl ⟨by show 0 ≤ 8; omega, by show 0 ≤ 300; omega⟩ (fun _ _ h => h.elim) ?_ rfl
      rintro _ _ ⟨rfl, rfl⟩
      refine z_v1 ?_
      refine z_lastN (i := n) C lwm_0 ⟨by omega, by omega⟩ (by omega) (by omega) dL_isCopied_476 (rfl : 476 + 1 = 477) lws_0 ?_
      rw [up2_up2]
      refine z_aload_n C 8 rfl rfl dL_isCopied_477 (rfl : 477 + 1 = 478) ?_
      refine z_iload C 0 rfl dL_isCopied_478 (rfl : 478 + 2 = 480) ?_
      refine z_iconst C dL_isCopied_480 (rfl : 480 + 1 = 481) ?_
      refine z_iastN (i := i) C lwm_2 ⟨by omega, by omega⟩ (by omega) (by omega) dL_isCopied_481 (rfl : 481 + 1 = 482) lws_2 ?_
      rw [cp_2]
      refine z_iinc (lv' := [(12, _), (11, _), (10, _), (9, _), (8, _), (0, _), (1, _), (2, _), (3, _), (4, _), (5, _), (6, _), (7, _)]) C 0 dL_isCopied_482 (rfl : 482 + 3 = 485) rfl rfl (by decide) rfl ?_
      refine z_goto (pc' := 413) C dL_isCopied_485 (by decide) ?_
      exact ih (i + 1) _ _ _ (by omega) (hS.put hi12 ⟨by omega, by omega⟩ hz0)
    refine z_aload C 9 rfl dL_isCopied_427 (rfl : 427 + 2 = 429) ?_
    refine z_iload C 2 rfl dL_isCopied_429 (rfl : 429 + 2 = 431) ?_
    refine z_dup2 C rfl rfl dL_isCopied_431 (rfl : 431 + 1 = 432) ?_
    refine z_iald C lwm_7 ⟨by omega, by omega⟩ (by omega) (rdA (rfl : a7 s = a7 s) (by omega)) dL_isCopied_432 (rfl : 432 + 1 = 433) ?_
    refine z_aload_n C 6 rfl rfl dL_isCopied_433 (rfl : 433 + 1 = 434) ?_
    refine z_iload C 4 rfl dL_isCopied_434 (rfl : 434 + 2 = 436) ?_
    refine z_lald C (x := B 0 c) lwm_0 ⟨by omega, by omega⟩ (by omega) (up2_ne B x (show ¬ (0 = 0 ∧ c = n) by omega)) dL_isCopied_436 (rfl : 436 + 1 = 437) ?_
    refine z_iload C 0 rfl dL_isCopied_437 (rfl : 437 + 2 = 439) ?_
    refine z_callS C (0) (0) (c_L_get (k := i)) gL_isCopied_L_get rfl hd88_L_get ⟨Nat.le_of_ble_eq_true rfl, Nat.le_of_ble_eq_true rfl⟩ rfl (Nat.le_of_ble_eq_true rfl) dL_isCopied_439 (rfl : 439 + 3 = 442) rfl rfl ⟨by show 0 ≤ 8; omega, by show 0 ≤ 300; omega⟩ (fun _ _ h => h.elim) ?_ rfl
    rintro _ _ ⟨rfl, rfl⟩
    refine z_v1 (z_topi (hW.2.1 c hc i hi12) ?_)
    refine z_aload_n C 8 rfl rfl dL_isCopied_442 (rfl : 442 + 1 = 443) ?_
    refine z_iload C 0 rfl dL_isCopied_443 (rfl : 443 + 2 = 445) ?_
    refine z_iald C lwm_2 ⟨by omega, by omega⟩ (by omega) (rdA rq (by omega)) dL_isCopied_445 (rfl : 445 + 1 = 446) ?_
    refine z_icmp_ne (pt := 453) C dL_isCopied_446 (by decide) (rfl : 446 + 3 = 449) (fun q => mt (iI_eq (by omega) (by omega)).2 q) (iI_eq (by omega) (by omega)).1 (fun c3 => ?_) (fun c3 => ?_)
    · refine z_iconst C dL_isCopied_453 (rfl : 453 + 1 = 454) ?_
      exact fin 1 (b01_t c3).symm
    · refine z_iconst C dL_isCopied_449 (rfl : 449 + 1 = 450) ?_
      refine z_goto (pc' := 454) C dL_isCopied_450 (by decide) ?_
      exact fin 0 (b01_f (fun q => q c3)).symm
theorem tl_L_copy1 (C : Cx κ cL_isCopied 13 wsL_isCopied RL (some .boolean) rmL_isCopied G base) {D z : Int} {way : Nat} {c s y : Nat} {b : Int} (hc : c < n) (hs : s < 6) (hy : y < 5) (hb : b = 0 ∨ b = 1) (hn : n < 16) (he : V 4 c = (y : Int)) (hz : 0 ≤ z ∧ z < 20000000) (h : RX (gde G) L K I F R N O T g V n m t) (hI : LInv V n m t) (hW : LWr V n m t B A) (hD : V 9 0 ≤ D) (hq : ∀ w, INV5 G q (g 6 0) D w → post (some (.int (iI 1))) w) (hmc : mc = 8) (hms : ms = 300) {x : Int64} {a2 a7 : Nat → Int} (hS : CpS V A c s 12 x a2 a7) :
    Z κ 13 G base mc ms post exc 0 0 488 [(12, .int (iI ((12 : Nat) : Int))), (11, .int (iI b)), (10, .int (iI (s : Int))), (9, .int (iI (y : Int))), (8, .int (iI (c : Int))), (0, .ref (g 6 0)), (1, .ref (q 0)), (2, .ref (q 1)), (3, .ref (q 2)), (4, .ref (q 7)), (5, .ref (q 8)), (6, .int (iI (way : Int))), (7, .int (iI z))] [] (pw G (lwW G q (up2 B 0 n x) (va_up (va_up A 2 a2) 7 a7)) L K I F R N O) := by
  obtain ⟨f0, f6, f8, hf⟩ := ex_cpR V n c s
  obtain ⟨hI2, hW2⟩ := mu_copy hc hs hy hn hb hI hW hS hf
  have m0 := hW.1.1
  have k517 : Z κ 13 G base mc ms post exc 0 0 517 [(12, .int (iI ((12 : Nat) : Int))), (11, .int (iI b)), (10, .int (iI (s : Int))), (9, .int (iI (y : Int))), (8, .int (iI (c : Int))), (0, .ref (g 6 0)), (1, .ref (q 0)), (2, .ref (q 1)), (3, .ref (q 2)), (4, .ref (q 7)), (5, .ref (q 8)), (6, .int (iI (way : Int))), (7, .int (iI z))] [.int (iI b), .int (iI (4 * (n : Int) + 1)), .ref (q 1)] (pw G (lwW G q (up2 B 0 n x) (up2 (va_up (va_up A 2 a2) 7 a7) 1 (4 * n) c)) L K I F R N O) := by
    refine z_iastN (i := (4 * n + 1)) C lwm_1 ⟨by omega, by omega⟩ (by omega) (by omega) dL_isCopied_517 (rfl : 517 + 1 = 518) lws_1 ?_
    refine z_aload_n C 7 rfl rfl dL_isCopied_518 (rfl : 518 + 1 = 519) ?_
    refine z_iconst C dL_isCopied_519 (rfl : 519 + 1 = 520) ?_
    refine z_aload C 10 rfl dL_isCopied_520 (rfl : 520 + 2 = 522) ?_
    refine z_iconst C dL_isCopied_522 (rfl : 522 + 1 = 523) ?_
    refine z_iald C lwm_8 ⟨by omega, by omega⟩ (by omega) (rdA m0 (by omega)) dL_isCopied_523 (rfl : 523 + 1 = 524) ?_
    refine z_imul C dL_isCopied_524 (rfl : 524 + 1 = 525) rfl ?_
    refine z_iconst C dL_isCopied_525 (rfl : 525 + 1 = 526) ?_
    refine z_iadd C dL_isCopied_526 (rfl : 526 + 1 = 527) rfl ?_
    refine z_iload C 3 rfl dL_isCopied_527 (rfl : 527 + 2 = 529) ?_
    refine z_iastN (i := (4 * n + 2)) C lwm_1 ⟨by omega, by omega⟩ (by omega) (by omega) dL_isCopied_529 (rfl : 529 + 1 = 530) lws_1 ?_
    refine z_aload_n C 7 rfl rfl dL_isCopied_530 (rfl : 530 + 1 = 531) ?_
    refine z_iconst C dL_isCopied_531 (rfl : 531 + 1 = 532) ?_
    refine z_aload C 10 rfl dL_isCopied_532 (rfl : 532 + 2 = 534) ?_
    refine z_iconst C dL_isCopied_534 (rfl : 534 + 1 = 535) ?_
    refine z_iald C lwm_8 ⟨by omega, by omega⟩ (by omega) (rdA m0 (by omega)) dL_isCopied_535 (rfl : 535 + 1 = 536) ?_
    refine z_imul C dL_isCopied_536 (rfl : 536 + 1 = 537) rfl ?_
    refine z_iconst C dL_isCopied_537 (rfl : 537 + 1 = 538) ?_
    refine z_iadd C dL_isCopied_538 (rfl : 538 + 1 = 539) rfl ?_
    refine z_iload C 3 rfl dL_isCopied_539 (rfl : 539 + 2 = 541) ?_
    refine z_iastN (i := (4 * n + 3)) C lwm_1 ⟨by omega, by omega⟩ (by omega) (by omega) dL_isCopied_541 (rfl : 541 + 1 = 542) lws_1 ?_
    refine z_aload C 10 rfl dL_isCopied_542 (rfl : 542 + 2 = 544) ?_
    refine z_iconst C dL_isCopied_544 (rfl : 544 + 1 = 545) ?_
    refine z_iconst C dL_isCopied_545 (rfl : 545 + 1 = 546) ?_
    refine z_iastN (i := 1) C lwm_8 ⟨by omega, by omega⟩ (by omega) (by omega) dL_isCopied_546 (rfl : 546 + 1 = 547) lws_8 ?_
    refine z_aload C 10 rfl dL_isCopied_547 (rfl : 547 + 2 = 549) ?_
    refine z_iconst C dL_isCopied_549 (rfl : 549 + 1 = 550) ?_
    refine z_dup2 C rfl rfl dL_isCopied_550 (rfl : 550 + 1 = 551) ?_
    refine z_iald C lwm_8 ⟨by omega, by omega⟩ (by omega) (rdA (b := 0) ((va_up_ne (A 8) (0 : Int) (show 0 ≠ 1 by decide)).trans m0) (by omega)) dL_isCopied_551 (rfl : 551 + 1 = 552) ?_
    refine z_iconst C dL_isCopied_552 (rfl : 552 + 1 = 553) ?_
    refine z_iadd C dL_isCopied_553 (rfl : 553 + 1 = 554) rfl ?_
    refine z_iastN (i := 0) C lwm_8 ⟨by omega, by omega⟩ (by omega) (by omega) dL_isCopied_554 (rfl : 554 + 1 = 555) lws_8 ?_
    refine z_aload_n C 5 rfl rfl dL_isCopied_555 (rfl : 555 + 1 = 556) ?_
    refine z_iload C 4 rfl dL_isCopied_556 (rfl : 556 + 2 = 558) ?_
    refine z_iload C 2 rfl dL_isCopied_558 (rfl : 558 + 2 = 560) ?_
    refine z_iload C 3 rfl dL_isCopied_560 (rfl : 560 + 2 = 562) ?_
    refine z_iload C 1 rfl dL_isCopied_562 (rfl : 562 + 2 = 564) ?_
    refine z_callH C (6) (260) (c_L_copied ⟨h.1.x8.1, h.1.x8.2.1⟩ (c_X5_copy (cz := (c : Int)) (sz := (s : Int)) (hz := (y : Int)) (b := b) ⟨by omega, by omega⟩ ⟨by omega, by omega⟩ ⟨by omega, by omega⟩ hb h hI.1) mxP_ex (mxE_ise ⟨⟨by omega, by omega⟩, ⟨by omega, by omega⟩, by omega, by omega⟩)) gL_isCopied_L_copied rfl hd88_L_copied ⟨Nat.le_of_ble_eq_true rfl, Nat.le_of_ble_eq_true rfl⟩ rfl (Nat.le_of_ble_eq_true rfl) dL_isCopied_564 (rfl : 564 + 3 = 567) rfl rfl ⟨by show 6 ≤ 8; omega, by show 260 ≤ 300; omega⟩ ?_ rfl
    rintro v w (⟨hP, rfl, hm⟩ | ⟨hbad, -, -⟩)
    rotate_left
    · exact (hbad ⟨he, by omega⟩).elim
    obtain ⟨L', K', I', F', R', N', O', T', g', rfl, hg, hR⟩ := hm
    refine z_v1 ?_
    refine z_aload C 10 rfl dL_isCopied_567 (rfl : 567 + 2 = 569) ?_
    refine z_iconst C dL_isCopied_569 (rfl : 569 + 1 = 570) ?_
    refine z_iald C lwm_8 ⟨by omega, by omega⟩ (by omega) (rdA hW2.1.1 (by omega)) dL_isCopied_570 (rfl : 570 + 1 = 571) ?_
    refine z_iconst C dL_isCopied_571 (rfl : 571 + 1 = 572) ?_
    refine z_isub C dL_isCopied_572 (rfl : 572 + 1 = 573) rfl ?_
    refine z_same (pt := 580) C (congrArg iI (by omega)) dL_isCopied_573 (by decide) (rfl : 573 + 3 = 576) ?_
    refine z_iconst C dL_isCopied_576 (rfl : 576 + 1 = 577) ?_
    refine z_goto (pc' := 581) C dL_isCopied_577 (by decide) ?_
    exact z_zret C rfl (.inr rfl) dL_isCopied_581 (hq _ ⟨_, _, _, _, _, _, L', K', I', F', R', N', O', T', g', rfl, hg, hR _ ⟨f0, f6, f8, hf, rfl⟩, hI2, hW2, hD⟩) (by omega) (by omega)
  refine z_aload_n C 7 rfl rfl dL_isCopied_488 (rfl : 488 + 1 = 489) ?_
  refine z_iconst C dL_isCopied_489 (rfl : 489 + 1 = 490) ?_
  refine z_aload C 10 rfl dL_isCopied_490 (rfl : 490 + 2 = 492) ?_
  refine z_iconst C dL_isCopied_492 (rfl : 492 + 1 = 493) ?_
  refine z_iald C lwm_8 ⟨by omega, by omega⟩ (by omega) (rdA m0 (by omega)) dL_isCopied_493 (rfl : 493 + 1 = 494) ?_
  refine z_imul C dL_isCopied_494 (rfl : 494 + 1 = 495) rfl ?_
  refine z_iload C 4 rfl dL_isCopied_495 (rfl : 495 + 2 = 497) ?_
  refine z_iastN (i := (4 * n)) C lwm_1 ⟨by omega, by omega⟩ (by omega) (by omega) dL_isCopied_497 (rfl : 497 + 1 = 498) lws_1 ?_
  refine z_aload_n C 7 rfl rfl dL_isCopied_498 (rfl : 498 + 1 = 499) ?_
  refine z_iconst C dL_isCopied_499 (rfl : 499 + 1 = 500) ?_
  refine z_aload C 10 rfl dL_isCopied_500 (rfl : 500 + 2 = 502) ?_
  refine z_iconst C dL_isCopied_502 (rfl : 502 + 1 = 503) ?_
  refine z_iald C lwm_8 ⟨by omega, by omega⟩ (by omega) (rdA m0 (by omega)) dL_isCopied_503 (rfl : 503 + 1 = 504) ?_
  refine z_imul C dL_isCopied_504 (rfl : 504 + 1 = 505) rfl ?_
  refine z_iconst C dL_isCopied_505 (rfl : 505 + 1 = 506) ?_
  refine z_iadd C dL_isCopied_506 (rfl : 506 + 1 = 507) rfl ?_
  refine z_iload C 1 rfl dL_isCopied_507 (rfl : 507 + 2 = 509) ?_
  rcases hb with rfl | rfl
  · refine z_if_eq (pt := 516) C dL_isCopied_509 (by decide) (rfl : 509 + 3 = 512) (iI_eq0 (by decide)).1 (fun q => mt (iI_eq0 (by decide)).2 q) (fun c1 => ?_) (fun c1 => ?_)
    · refine z_iconst C dL_isCopied_516 (rfl : 516 + 1 = 517) ?_
      exact k517
    · exact absurd rfl c1
  · refine z_if_eq (pt := 516) C dL_isCopied_509 (by decide) (rfl : 509 + 3 = 512) (iI_eq0 (by decide)).1 (fun q => mt (iI_eq0 (by decide)).2 q) (fun c1 => ?_) (fun c1 => ?_)
    · exact absurd c1 (by decide)
    · refine z_iconst C dL_isCopied_512 (rfl : 512 + 1 = 513) ?_
      refine z_goto (pc' := 517) C dL_isCopied_513 (by decide) ?_
      exact k517
theorem tl_L_copy (C : Cx κ cL_isCopied 13 wsL_isCopied RL (some .boolean) rmL_isCopied G base) {D z : Int} {way : Nat} {c : Nat} (hc : c < n) (hz : 0 ≤ z ∧ z < 20000000) (h : RX (gde G) L K I F R N O T g V n m t) (hI : LInv V n m t) (hW : LWr V n m t B A) (hD : V 9 0 ≤ D) (hq : ∀ w, INV5 G q (g 6 0) D w → post (some (.int (iI 1))) w) (hmc : mc = 8) (hms : ms = 300) : Z κ 13 G base mc ms post exc 0 0 304 [(8, .int (iI (c : Int))), (0, .ref (g 6 0)), (1, .ref (q 0)), (2, .ref (q 1)), (3, .ref (q 2)), (4, .ref (q 7)), (5, .ref (q 8)), (6, .int (iI (way : Int))), (7, .int (iI z))] [] (pw G (lwW G q B A) L K I F R N O) := by
  have hbn := hI.2.2.1
  have w6 := hI.1.2.2.2.2.2.1 c hc
  have k328 : ∀ y : Int, 0 ≤ y ∧ y < 5 → Z κ 13 G base mc ms post exc 0 0 328 [(8, .int (iI (c : Int))), (0, .ref (g 6 0)), (1, .ref (q 0)), (2, .ref (q 1)), (3, .ref (q 2)), (4, .ref (q 7)), (5, .ref (q 8)), (6, .int (iI (way : Int))), (7, .int (iI z))] [.int (iI y)] (pw G (lwW G q B A) L K I F R N O) := by
    intro y0 hy0
    obtain ⟨y, rfl⟩ : ∃ y : Nat, y0 = (y : Int) := ⟨y0.toNat, by omega⟩
    obtain ⟨s, es⟩ : ∃ s : Nat, z / 3 % 6 = (s : Int) := ⟨(z / 3 % 6).toNat, by omega⟩
    have k351 : ∀ b : Int, b = 0 ∨ b = 1 → Z κ 13 G base mc ms post exc 0 0 351 [(10, .int (iI (s : Int))), (9, .int (iI (y : Int))), (8, .int (iI (c : Int))), (0, .ref (g 6 0)), (1, .ref (q 0)), (2, .ref (q 1)), (3, .ref (q 2)), (4, .ref (q 7)), (5, .ref (q 8)), (6, .int (iI (way : Int))), (7, .int (iI z))] [.int (iI b)] (pw G (lwW G q B A) L K I F R N O) := by
      intro b hb
      refine z_istore (lv' := [(11, _), (10, _), (9, _), (8, _), (0, _), (1, _), (2, _), (3, _), (4, _), (5, _), (6, _), (7, _)]) C dL_isCopied_351 (rfl : 351 + 2 = 353) (by decide) rfl ?_
      refine z_aload C 9 rfl dL_isCopied_353 (rfl : 353 + 2 = 355) ?_
      refine z_iconst C dL_isCopied_355 (rfl : 355 + 1 = 356) ?_
      refine z_iald C lwm_8 ⟨by omega, by omega⟩ (by omega) (rdA hW.1.1 (by omega)) dL_isCopied_356 (rfl : 356 + 1 = 357) ?_
      refine z_bipush (c := 16) C (by decide) dL_isCopied_357 (rfl : 357 + 2 = 359) ?_
      refine z_icmp_ne (pt := 364) C dL_isCopied_359 (by decide) (rfl : 359 + 3 = 362) (fun q => mt (iI_eq (by omega) (by omega)).2 q) (iI_eq (by omega) (by omega)).1 (fun c1 => ?_) (fun c1 => ?_)
      rotate_left
      · refine z_iconst C dL_isCopied_362 (rfl : 362 + 1 = 363) ?_
        exact z_zret C rfl (.inr rfl) dL_isCopied_363 (hq _ ⟨V, n, m, t, B, A, L, K, I, F, R, N, O, T, g, rfl, rfl, h, hI, hW, hD⟩) (by omega) (by omega)
      refine z_aload_n C 6 rfl rfl dL_isCopied_364 (rfl : 364 + 1 = 365) ?_
      refine z_iconst C dL_isCopied_365 (rfl : 365 + 1 = 366) ?_
      refine z_iload C 3 rfl dL_isCopied_366 (rfl : 366 + 2 = 368) ?_
      refine z_imul C dL_isCopied_368 (rfl : 368 + 1 = 369) rfl ?_
      refine z_iconst C dL_isCopied_369 (rfl : 369 + 1 = 370) ?_
      refine z_iadd C dL_isCopied_370 (rfl : 370 + 1 = 371) rfl ?_
      refine z_iald C lwm_1 ⟨by omega, by omega⟩ (by omega) (rdA (hW.2.2.1 c hc).2.2.2 (by omega)) dL_isCopied_371 (rfl : 371 + 1 = 372) ?_
      refine z_iload C 2 rfl dL_isCopied_372 (rfl : 372 + 2 = 374) ?_
      refine z_icmp_eq (pt := 400) C dL_isCopied_374 (by decide) (rfl : 374 + 3 = 377) (iI_eq (by omega) (by omega)).1 (fun q => mt (iI_eq (by omega) (by omega)).2 q) (fun c2 => ?_) (fun c2 => ?_)
      rotate_left
      · exact tl_L_copy0 C hc (by omega) (by omega) hb c2 hz h hI hW hD hq hmc hms
      refine z_aload_n C 5 rfl rfl dL_isCopied_400 (rfl : 400 + 1 = 401) ?_
      refine z_aload C 9 rfl dL_isCopied_401 (rfl : 401 + 2 = 403) ?_
      refine z_iconst C dL_isCopied_403 (rfl : 403 + 1 = 404) ?_
      refine z_iald C lwm_8 ⟨by omega, by omega⟩ (by omega) (rdA hW.1.1 (by omega)) dL_isCopied_404 (rfl : 404 + 1 = 405) ?_
      refine z_aload_n C 5 rfl rfl dL_isCopied_405 (rfl : 405 + 1 = 406) ?_
      refine z_iload C 3 rfl dL_isCopied_406 (rfl : 406 + 2 = 408) ?_
      refine z_lald (x := B 0 (c)) C lwm_0 ⟨by omega, by omega⟩ (by omega) (congrArg (B 0) (by omega)) dL_isCopied_408 (rfl : 408 + 1 = 409) ?_
      refine z_lastN (i := n) C lwm_0 ⟨by omega, by omega⟩ (by omega) (by omega) dL_isCopied_409 (rfl : 409 + 1 = 410) lws_0 ?_
      refine z_iconst C dL_isCopied_410 (rfl : 410 + 1 = 411) ?_
      refine z_istore (lv' := [(12, _), (11, _), (10, _), (9, _), (8, _), (0, _), (1, _), (2, _), (3, _), (4, _), (5, _), (6, _), (7, _)]) C dL_isCopied_411 (rfl : 411 + 2 = 413) (by decide) rfl ?_
      refine z_ws (ws' := pw G (lwW G q (up2 B 0 n (B 0 c)) (va_up (va_up A 2 (A 2)) 7 (A 7))) L K I F R N O) (congrArg (fun A' => pw G (lwW G q (up2 B 0 n (B 0 c)) A') L K I F R N O) (show A = va_up (va_up A 2 (A 2)) 7 (A 7) by rw [up_self, up_self])) ?_
      refine lp_L_copy (D := D) C hc (by omega) (by omega) hb h hI hW (by omega) (fun x a2 a7 hS => tl_L_copy1 C hc (by omega) (by omega) hb (by omega) c2 hz h hI hW hD hq hmc hms hS) 12 0 (B 0 c) (A 2) (A 7) rfl ⟨fun k hk => ?_, fun k hk => by omega, fun k _ => rfl, ?_, fun _ _ => rfl⟩
      · rw [if_neg (by omega)]
        exact hW.2.1 c hc k hk
      · simp [wrn]
    refine z_istore (lv' := [(9, _), (8, _), (0, _), (1, _), (2, _), (3, _), (4, _), (5, _), (6, _), (7, _)]) C dL_isCopied_328 (rfl : 328 + 2 = 330) (by decide) rfl ?_
    refine z_iload C 9 rfl dL_isCopied_330 (rfl : 330 + 2 = 332) ?_
    refine z_iconst C dL_isCopied_332 (rfl : 332 + 1 = 333) ?_
    refine z_iquo C ⟨by omega, by omega⟩ ⟨by omega, by omega⟩ rfl dL_isCopied_333 (rfl : 333 + 1 = 334) ?_
    refine z_bipush (c := 6) C (by decide) dL_isCopied_334 (rfl : 334 + 2 = 336) ?_
    refine z_irem C ⟨by omega, by omega⟩ ⟨by omega, by omega⟩ rfl dL_isCopied_336 (rfl : 336 + 1 = 337) ?_
    refine z_topi (y := iI (s : Int)) (congrArg iI es) ?_
    refine z_istore (lv' := [(10, _), (9, _), (8, _), (0, _), (1, _), (2, _), (3, _), (4, _), (5, _), (6, _), (7, _)]) C dL_isCopied_337 (rfl : 337 + 2 = 339) (by decide) rfl ?_
    refine z_iload C 10 rfl dL_isCopied_339 (rfl : 339 + 2 = 341) ?_
    refine z_iconst C dL_isCopied_341 (rfl : 341 + 1 = 342) ?_
    refine z_irem C ⟨by omega, by omega⟩ ⟨by omega, by omega⟩ rfl dL_isCopied_342 (rfl : 342 + 1 = 343) ?_
    refine z_if_ne (pt := 350) C dL_isCopied_343 (by decide) (rfl : 343 + 3 = 346) (fun q => mt (iI_eq0 (by omega)).2 q) (iI_eq0 (by omega)).1 (fun c1 => ?_) (fun c1 => ?_)
    · refine z_iconst C dL_isCopied_350 (rfl : 350 + 1 = 351) ?_
      exact k351 0 (.inl rfl)
    · refine z_iconst C dL_isCopied_346 (rfl : 346 + 1 = 347) ?_
      refine z_goto (pc' := 351) C dL_isCopied_347 (by decide) ?_
      exact k351 1 (.inr rfl)
  refine z_iload C 8 rfl dL_isCopied_304 (rfl : 304 + 2 = 306) ?_
  refine z_iconst C dL_isCopied_306 (rfl : 306 + 1 = 307) ?_
  refine z_iquo C ⟨by omega, by omega⟩ ⟨by omega, by omega⟩ rfl dL_isCopied_307 (rfl : 307 + 1 = 308) ?_
  refine z_iconst C dL_isCopied_308 (rfl : 308 + 1 = 309) ?_
  refine z_irem C ⟨by omega, by omega⟩ ⟨by omega, by omega⟩ rfl dL_isCopied_309 (rfl : 309 + 1 = 310) ?_
  refine z_if_le (pt := 324) C dL_isCopied_310 (by decide) (rfl : 310 + 3 = 313) (iI_le0 (by omega)).1 (fun q => mt (iI_le0 (by omega)).2 q) (fun c1 => ?_) (fun c1 => ?_)
  · refine z_iload C 8 rfl dL_isCopied_324 (rfl : 324 + 2 = 326) ?_
    refine z_iconst C dL_isCopied_326 (rfl : 326 + 1 = 327) ?_
    refine z_irem C ⟨by omega, by omega⟩ ⟨by omega, by omega⟩ rfl dL_isCopied_327 (rfl : 327 + 1 = 328) ?_
    exact k328 _ ⟨by omega, by omega⟩
  · refine z_aload_n C 3 rfl rfl dL_isCopied_313 (rfl : 313 + 1 = 314) ?_
    refine z_iconst C dL_isCopied_314 (rfl : 314 + 1 = 315) ?_
    refine z_iload C 0 rfl dL_isCopied_315 (rfl : 315 + 2 = 317) ?_
    refine z_imul C dL_isCopied_317 (rfl : 317 + 1 = 318) rfl ?_
    refine z_iconst C dL_isCopied_318 (rfl : 318 + 1 = 319) ?_
    refine z_iadd C dL_isCopied_319 (rfl : 319 + 1 = 320) rfl ?_
    refine z_iald C lwm_1 ⟨by omega, by omega⟩ (by omega) (rdA (hW.2.2.1 c hc).2.2.2 (by omega)) dL_isCopied_320 (rfl : 320 + 1 = 321) ?_
    refine z_goto (pc' := 328) C dL_isCopied_321 (by decide) ?_
    exact k328 _ w6.2
theorem c_L_isCopied {D z : Int} {way : Nat} (hway : way < 9) (hz : 0 ≤ z ∧ z < 20000000) (h : RX (gde G) L K I F R N O T g V n m t) (hI : LInv V n m t) (hW : LWr V n m t B A) (hD : V 9 0 ≤ D) : MC l yL_isCopied wsL_isCopied rmL_isCopied G base [.ref (g 6 0), .ref (q 0), .ref (q 1), .ref (q 2), .ref (q 7), .ref (q 8), .int (iI (way : Int)), .int (iI z)] (pw G (lwW G q B A) L K I F R N O) (fun v w => v = some (.int (iI 1)) ∧ INV5 G q (g 6 0) D w) (fun _ _ => False) := by
  refine MC.of (cc := cL_isCopied) (by decide) rfl rfl (Nat.le_of_ble_eq_true rfl) ?_
  intro κ C hT hl hnm
  have hb := hI.2.2.1
  have hn1 := hI.1.2.1
  refine z_sub [0, 1, 2, 3, 4, 5, 6, 7] (lv' := [(0, .ref (g 6 0)), (1, .ref (q 0)), (2, .ref (q 1)), (3, .ref (q 2)), (4, .ref (q 7)), (5, .ref (q 8)), (6, .int (iI (way : Int))), (7, .int (iI z))]) rfl ?_
  refine z_iload C 6 rfl dL_isCopied_0 (rfl : 0 + 2 = 2) ?_
  refine z_iconst C dL_isCopied_2 (rfl : 2 + 1 = 3) ?_
  refine z_icmp_ge (pt := 159) C dL_isCopied_3 (by decide) (rfl : 3 + 3 = 6) (iI_le (by omega) (by omega)).1 (fun q => mt (iI_le (by omega) (by omega)).2 q) (fun c1 => ?_) (fun c1 => ?_)
  rotate_left
  · exact tl_L_slip C hz h hI hW hD (fun w hw => ⟨rfl, hw⟩) rfl rfl
  have k211 : ∀ c0 : Int, 0 ≤ c0 ∧ c0 < n → Z κ 13 G base rmL_isCopied.cells rmL_isCopied.slots (fun v w => v = some (.int (iI 1)) ∧ INV5 G q (g 6 0) D w) (fun _ _ => False) 0 0 211 [(0, .ref (g 6 0)), (1, .ref (q 0)), (2, .ref (q 1)), (3, .ref (q 2)), (4, .ref (q 7)), (5, .ref (q 8)), (6, .int (iI (way : Int))), (7, .int (iI z))] [.int (iI c0)] (pw G (lwW G q B A) L K I F R N O) := by
    intro c0 hc0
    obtain ⟨c, rfl⟩ : ∃ c : Nat, c0 = (c : Int) := ⟨c0.toNat, by omega⟩
    have hc : c < n := by omega
    have w2 := hI.1.2.2.2.2.1.2 c (by omega)
    refine z_istore (lv' := [(8, _), (0, _), (1, _), (2, _), (3, _), (4, _), (5, _), (6, _), (7, _)]) C dL_isCopied_211 (rfl : 211 + 2 = 213) (by decide) rfl ?_
    refine z_iload C 7 rfl dL_isCopied_213 (rfl : 213 + 2 = 215) ?_
    refine z_iconst C dL_isCopied_215 (rfl : 215 + 1 = 216) ?_
    refine z_icmp_ne (pt := 304) C dL_isCopied_216 (by decide) (rfl : 216 + 3 = 219) (fun q => mt (iI_eq (by omega) (by omega)).2 q) (iI_eq (by omega) (by omega)).1 (fun c2 => ?_) (fun c2 => ?_)
    · exact tl_L_copy C hc hz h hI hW hD (fun w hw => ⟨rfl, hw⟩) rfl rfl
    refine z_iload C 0 rfl dL_isCopied_219 (rfl : 219 + 2 = 221) ?_
    refine z_if_le (pt := 239) C dL_isCopied_221 (by decide) (rfl : 221 + 3 = 224) (iI_le0 (by omega)).1 (fun q => mt (iI_le0 (by omega)).2 q) (fun c3 => ?_) (fun c3 => ?_)
    · exact tl_L_tell0 C hc (by omega) hz h hI hW hD (fun w hw => ⟨rfl, hw⟩) rfl rfl
    refine z_aload_n C 3 rfl rfl dL_isCopied_224 (rfl : 224 + 1 = 225) ?_
    refine z_iconst C dL_isCopied_225 (rfl : 225 + 1 = 226) ?_
    refine z_iload C 0 rfl dL_isCopied_226 (rfl : 226 + 2 = 228) ?_
    refine z_imul C dL_isCopied_228 (rfl : 228 + 1 = 229) rfl ?_
    refine z_iconst C dL_isCopied_229 (rfl : 229 + 1 = 230) ?_
    refine z_iadd C dL_isCopied_230 (rfl : 230 + 1 = 231) rfl ?_
    refine z_iald C lwm_1 ⟨by omega, by omega⟩ (by omega) (rdA (hW.2.2.1 c hc).2.1 (by omega)) dL_isCopied_231 (rfl : 231 + 1 = 232) ?_
    refine z_if_ne (pt := 239) C dL_isCopied_232 (by decide) (rfl : 232 + 3 = 235) (fun q => mt (iI_eq0 (by omega)).2 q) (iI_eq0 (by omega)).1 (fun c4 => ?_) (fun c4 => ?_)
    · exact tl_L_tell0 C hc (by omega) hz h hI hW hD (fun w hw => ⟨rfl, hw⟩) rfl rfl
    · exact tl_L_tell1 C hc (by omega) c4 hz h hI hW hD (fun w hw => ⟨rfl, hw⟩) rfl rfl
  have j1 := Int.emod_nonneg (z / 21) (show (n : Int) ≠ 0 by omega)
  have j2 := Int.emod_lt_of_pos (z / 21) (show 0 < (n : Int) by omega)
  refine z_iload C 7 rfl dL_isCopied_159 (rfl : 159 + 2 = 161) ?_
  refine z_bipush (c := 7) C (by decide) dL_isCopied_161 (rfl : 161 + 2 = 163) ?_
  refine z_iquo C ⟨by omega, by omega⟩ ⟨by omega, by omega⟩ rfl dL_isCopied_163 (rfl : 163 + 1 = 164) ?_
  refine z_iconst C dL_isCopied_164 (rfl : 164 + 1 = 165) ?_
  refine z_irem C ⟨by omega, by omega⟩ ⟨by omega, by omega⟩ rfl dL_isCopied_165 (rfl : 165 + 1 = 166) ?_
  refine z_if_le (pt := 201) C dL_isCopied_166 (by decide) (rfl : 166 + 3 = 169) (iI_le0 (by omega)).1 (fun q => mt (iI_le0 (by omega)).2 q) (fun c2 => ?_) (fun c2 => ?_)
  · refine z_iload C 7 rfl dL_isCopied_201 (rfl : 201 + 2 = 203) ?_
    refine z_bipush (c := 21) C (by decide) dL_isCopied_203 (rfl : 203 + 2 = 205) ?_
    refine z_iquo C ⟨by omega, by omega⟩ ⟨by omega, by omega⟩ rfl dL_isCopied_205 (rfl : 205 + 1 = 206) ?_
    refine z_aload C 5 rfl dL_isCopied_206 (rfl : 206 + 2 = 208) ?_
    refine z_iconst C dL_isCopied_208 (rfl : 208 + 1 = 209) ?_
    refine z_iald C lwm_8 ⟨by omega, by omega⟩ (by omega) (rdA hW.1.1 (by omega)) dL_isCopied_209 (rfl : 209 + 1 = 210) ?_
    refine z_irem C ⟨by omega, by omega⟩ ⟨by omega, by omega⟩ rfl dL_isCopied_210 (rfl : 210 + 1 = 211) ?_
    exact k211 _ ⟨j1, j2⟩
  refine z_aload C 5 rfl dL_isCopied_169 (rfl : 169 + 2 = 171) ?_
  refine z_iconst C dL_isCopied_171 (rfl : 171 + 1 = 172) ?_
  refine z_iald C lwm_8 ⟨by omega, by omega⟩ (by omega) (rdA hW.1.1 (by omega)) dL_isCopied_172 (rfl : 172 + 1 = 173) ?_
  refine z_iconst C dL_isCopied_173 (rfl : 173 + 1 = 174) ?_
  refine z_isub C dL_isCopied_174 (rfl : 174 + 1 = 175) rfl ?_
  refine z_iload C 7 rfl dL_isCopied_175 (rfl : 175 + 2 = 177) ?_
  refine z_bipush (c := 21) C (by decide) dL_isCopied_177 (rfl : 177 + 2 = 179) ?_
  refine z_iquo C ⟨by omega, by omega⟩ ⟨by omega, by omega⟩ rfl dL_isCopied_179 (rfl : 179 + 1 = 180) ?_
  refine z_aload C 5 rfl dL_isCopied_180 (rfl : 180 + 2 = 182) ?_
  refine z_iconst C dL_isCopied_182 (rfl : 182 + 1 = 183) ?_
  refine z_iald C lwm_8 ⟨by omega, by omega⟩ (by omega) (rdA hW.1.1 (by omega)) dL_isCopied_183 (rfl : 183 + 1 = 184) ?_
  refine z_iconst C dL_isCopied_184 (rfl : 184 + 1 = 185) ?_
  refine z_icmp_le (pt := 192) C dL_isCopied_185 (by decide) (rfl : 185 + 3 = 188) (iI_le (by omega) (by omega)).1 (fun q => mt (iI_le (by omega) (by omega)).2 q) (fun c3 => ?_) (fun c3 => ?_)
  · refine z_aload C 5 rfl dL_isCopied_192 (rfl : 192 + 2 = 194) ?_
    refine z_iconst C dL_isCopied_194 (rfl : 194 + 1 = 195) ?_
    refine z_iald C lwm_8 ⟨by omega, by omega⟩ (by omega) (rdA hW.1.1 (by omega)) dL_isCopied_195 (rfl : 195 + 1 = 196) ?_
    refine z_irem C ⟨by omega, by omega⟩ ⟨by omega, by omega⟩ rfl dL_isCopied_196 (rfl : 196 + 1 = 197) ?_
    refine z_isub C dL_isCopied_197 (rfl : 197 + 1 = 198) rfl ?_
    refine z_goto (pc' := 211) C dL_isCopied_198 (by decide) ?_
    exact k211 _ ⟨by omega, by omega⟩
  · refine z_iconst C dL_isCopied_188 (rfl : 188 + 1 = 189) ?_
    refine z_goto (pc' := 196) C dL_isCopied_189 (by decide) ?_
    refine z_irem C ⟨by omega, by omega⟩ ⟨by omega, by omega⟩ rfl dL_isCopied_196 (rfl : 196 + 1 = 197) ?_
    refine z_isub C dL_isCopied_197 (rfl : 197 + 1 = 198) rfl ?_
    refine z_goto (pc' := 211) C dL_isCopied_198 (by decide) ?_
    exact k211 _ ⟨by omega, by omega⟩
end
