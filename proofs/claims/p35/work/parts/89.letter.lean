theorem hd89_L_get : yL_get.cls ≠ "java/lang/invoke/MethodHandle" ∧ yL_get.cls ≠ "java/lang/invoke/VarHandle" ∧ (parseMethodDescriptor yL_get.desc).map (fun d => d.parameters.length) = some 2 := by decide +kernel
theorem hd89_L_put : yL_put.cls ≠ "java/lang/invoke/MethodHandle" ∧ yL_put.cls ≠ "java/lang/invoke/VarHandle" ∧ (parseMethodDescriptor yL_put.desc).map (fun d => d.parameters.length) = some 3 := by decide +kernel
theorem hd89_L_worked : yL_worked.cls ≠ "java/lang/invoke/MethodHandle" ∧ yL_worked.cls ≠ "java/lang/invoke/VarHandle" ∧ (parseMethodDescriptor yL_worked.desc).map (fun d => d.parameters.length) = some 3 := by decide +kernel
theorem hd89_L_place : yL_place.cls ≠ "java/lang/invoke/MethodHandle" ∧ yL_place.cls ≠ "java/lang/invoke/VarHandle" ∧ (parseMethodDescriptor yL_place.desc).map (fun d => d.parameters.length) = some 1 := by decide +kernel
theorem hd89_L_corrected : yL_corrected.cls ≠ "java/lang/invoke/MethodHandle" ∧ yL_corrected.cls ≠ "java/lang/invoke/VarHandle" ∧ (parseMethodDescriptor yL_corrected.desc).map (fun d => d.parameters.length) = some 5 := by decide +kernel
/-! the law's letters: worked in, and written -/
/-- the row of the copy c with the letters below i worked in -/
def WkS (V : Nat → Nat → Int) (y c i : Nat) (x : Int64) : Prop := ∀ k, k < 12 → nibt x k = iI ((wkV V y (rdV V c) i).1 (plc k))
theorem WkS.skip {V : Nat → Nat → Int} {y c i : Nat} {x : Int64} (h : WkS V y c i x) (hn : ¬ (V 13 (60 * y + i) = 1 ∧ (wkV V y (rdV V c) i).1 (V 10 i).toNat = V 11 i)) : WkS V y c (i + 1) x ∧ (wkV V y (rdV V c) (i + 1)).2 = (wkV V y (rdV V c) i).2 := by
  have e : wkV V y (rdV V c) (i + 1) = wkV V y (rdV V c) i := by
    simp only [wkV]
    rw [if_neg hn]
  unfold WkS
  rw [e]
  exact ⟨h, rfl⟩
theorem WkS.put {V : Nat → Nat → Int} {y c i k : Nat} {x : Int64} (h : WkS V y c i x) (hk : k < 12) (hp : V 10 i = (plc k : Int)) (hv : 0 ≤ V 12 i ∧ V 12 i ≤ 9) (h1 : V 13 (60 * y + i) = 1) (h2 : (wkV V y (rdV V c) i).1 (plc k) = V 11 i) : WkS V y c (i + 1) (pubt x k (V 12 i)) ∧ (wkV V y (rdV V c) (i + 1)).2 = (wkV V y (rdV V c) i).2 + 1 := by
  have ep : (V 10 i).toNat = plc k := by omega
  have e : wkV V y (rdV V c) (i + 1) = (va_up (wkV V y (rdV V c) i).1 (plc k) (V 12 i), (wkV V y (rdV V c) i).2 + 1) := by
    simp only [wkV]
    rw [ep, if_pos ⟨h1, h2⟩]
  unfold WkS
  rw [e]
  refine ⟨fun j hj => ?_, rfl⟩
  show nibt (pubt x k (V 12 i)) j = iI (va_up (wkV V y (rdV V c) i).1 (plc k) (V 12 i) (plc j))
  by_cases e2 : j = k
  · subst e2
    rw [nibt_pub _ (by omega) hk, va_up_self]
  · rw [nibt_pubne _ (by omega) hk hj e2, va_up_ne _ _ (fun q => e2 (plc_inj hj hk q))]
    exact h j hj
section
variable {κ : KxT} {G : GG} {base mc ms : Nat} {post : Option Value → va_W → Prop} {exc : String → va_W → Prop} {L : List Nat} {K : Nat → Nat} {I : Nat → Nat → Int} {F : Nat → Nat → Option Nat} {R : Nat → Nat → Int} {N : Nat → Nat} {O : Nat → Nat → Option Nat} {l : Launch} {q : Nat → Nat} {V : Nat → Nat → Int} {B : Nat → Nat → Int64} {A : Nat → Nat → Int} {n m t : Nat} {T : Nat → Nat} {g : Nat → Nat → Nat}
abbrev rmL_isLettered : Room := { frames := 9, cells := 8, slots := 300, locals := 340 }
theorem lp_L_work (C : Cx κ cL_isLettered 15 wsL_isLettered RL (some .boolean) rmL_isLettered G base) {D z : Int} {way : Nat} {c y : Nat} (hc : c < n) (hy : y < 5) (hI : LInv V n m t) (hW : LWr V n m t B A)
    (kk : ∀ x, WkS V y c m x → Z κ 15 G base mc ms post exc 0 0 208 [(12, .int (iI (m : Int))), (11, .int (iI 1)), (10, .int (iI ((wkV V y (rdV V c) m).2))), (9, .int (iI (y : Int))), (8, .int (iI (c : Int))), (0, .ref (g 6 0)), (1, .ref (q 0)), (2, .ref (q 1)), (3, .ref (q 3)), (4, .ref (q 4)), (5, .ref (q 8)), (6, .int (iI (way : Int))), (7, .int (iI z))] [] (pw G (lwW G q (up2 B 0 c x) A) L K I F R N O)) :
    ∀ (d i : Nat) (x : Int64), i + d = m → WkS V y c i x → Z κ 15 G base mc ms post exc 0 0 70 [(12, .int (iI (i : Int))), (11, .int (iI 1)), (10, .int (iI ((wkV V y (rdV V c) i).2))), (9, .int (iI (y : Int))), (8, .int (iI (c : Int))), (0, .ref (g 6 0)), (1, .ref (q 0)), (2, .ref (q 1)), (3, .ref (q 3)), (4, .ref (q 4)), (5, .ref (q 8)), (6, .int (iI (way : Int))), (7, .int (iI z))] [] (pw G (lwW G q (up2 B 0 c x) A) L K I F R N O) := by
  have hb := hI.2.2.1
  intro d
  induction d with
  | zero =>
    intro i x hi hS
    have e : i = m := by omega
    subst e
    refine z_iload C 0 rfl dL_isLettered_70 (rfl : 70 + 2 = 72) ?_
    refine z_aload C 10 rfl dL_isLettered_72 (rfl : 72 + 2 = 74) ?_
    refine z_iconst C dL_isLettered_74 (rfl : 74 + 1 = 75) ?_
    refine z_iald C lwm_8 ⟨by omega, by omega⟩ (by omega) (rdA hW.1.2.2.2.1 (by omega)) dL_isLettered_75 (rfl : 75 + 1 = 76) ?_
    refine z_icmp_ge (pt := 208) C dL_isLettered_76 (by decide) (rfl : 76 + 3 = 79) (iI_le (by omega) (by omega)).1 (fun q => mt (iI_le (by omega) (by omega)).2 q) (fun c1 => ?_) (fun c1 => ?_)
    · exact kk x hS
    · exact absurd c1 (by omega)
  | succ d ih =>
    intro i x hi hS
    have him : i < m := by omega
    obtain ⟨k, hk, ek⟩ := hI.2.2.2.2.2 i him
    have hpl := plc_lt hk
    have hle := hI.1.2.2.2.2.2.2.2.1 i him
    have hlr := hW.2.2.2.2.1 i him
    have hx4 := hW.2.2.2.2.2.1 y hy i (by omega)
    have hwr := wkV_rng (h := y) hI.1 hc i (by omega)
    have hwp := hwr.1 (plc k) hpl
    have epk : plc k = 23 ∧ k = 11 ∨ plc k = 2 * k ∧ k ≠ 11 := by unfold plc; split <;> omega
    have etn : (V 10 i).toNat = plc k := by omega
    refine z_iload C 0 rfl dL_isLettered_70 (rfl : 70 + 2 = 72) ?_
    refine z_aload C 10 rfl dL_isLettered_72 (rfl : 72 + 2 = 74) ?_
    refine z_iconst C dL_isLettered_74 (rfl : 74 + 1 = 75) ?_
    refine z_iald C lwm_8 ⟨by omega, by omega⟩ (by omega) (rdA hW.1.2.2.2.1 (by omega)) dL_isLettered_75 (rfl : 75 + 1 = 76) ?_
    refine z_icmp_ge (pt := 208) C dL_isLettered_76 (by decide) (rfl : 76 + 3 = 79) (iI_le (by omega) (by omega)).1 (fun q => mt (iI_le (by omega) (by omega)).2 q) (fun c1 => ?_) (fun c1 => ?_)
    · exact absurd c1 (by omega)
    refine z_iload C 1 rfl dL_isLettered_79 (rfl : 79 + 2 = 81) ?_
    refine z_if_eq (pt := 208) C dL_isLettered_81 (by decide) (rfl : 81 + 3 = 84) (iI_eq0 (by decide)).1 (fun q => mt (iI_eq0 (by decide)).2 q) (fun c2 => ?_) (fun c2 => ?_)
    · exact absurd c2 (by decide)
    have k109 : Z κ 15 G base mc ms post exc 0 0 109 [(12, .int (iI (i : Int))), (11, .int (iI 1)), (10, .int (iI ((wkV V y (rdV V c) i).2))), (9, .int (iI (y : Int))), (8, .int (iI (c : Int))), (0, .ref (g 6 0)), (1, .ref (q 0)), (2, .ref (q 1)), (3, .ref (q 3)), (4, .ref (q 4)), (5, .ref (q 8)), (6, .int (iI (way : Int))), (7, .int (iI z))] [.int (iI (k : Int))] (pw G (lwW G q (up2 B 0 c x) A) L K I F R N O) := by
      have no : ¬ (V 13 (60 * y + i) = 1 ∧ (wkV V y (rdV V c) i).1 (V 10 i).toNat = V 11 i) → Z κ 15 G base mc ms post exc 0 0 152 [(13, .int (iI (k : Int))), (12, .int (iI (i : Int))), (11, .int (iI 1)), (10, .int (iI ((wkV V y (rdV V c) i).2))), (9, .int (iI (y : Int))), (8, .int (iI (c : Int))), (0, .ref (g 6 0)), (1, .ref (q 0)), (2, .ref (q 1)), (3, .ref (q 3)), (4, .ref (q 4)), (5, .ref (q 8)), (6, .int (iI (way : Int))), (7, .int (iI z))] [] (pw G (lwW G q (up2 B 0 c x) A) L K I F R N O) := by
        intro hn
        obtain ⟨s1, s2⟩ := hS.skip hn
        refine z_iconst C dL_isLettered_152 (rfl : 152 + 1 = 153) ?_
        refine z_istore (lv' := [(14, _), (13, _), (12, _), (11, _), (10, _), (9, _), (8, _), (0, _), (1, _), (2, _), (3, _), (4, _), (5, _), (6, _), (7, _)]) C dL_isLettered_153 (rfl : 153 + 2 = 155) (by decide) rfl ?_
        refine z_aload_n C 8 rfl rfl dL_isLettered_155 (rfl : 155 + 1 = 156) ?_
        refine z_iload C 6 rfl dL_isLettered_156 (rfl : 156 + 2 = 158) ?_
        refine z_iload C 0 rfl dL_isLettered_158 (rfl : 158 + 2 = 160) ?_
        refine z_if_eq (pt := 182) C dL_isLettered_160 (by decide) (rfl : 160 + 3 = 163) (iI_eq0 (by decide)).1 (fun q => mt (iI_eq0 (by decide)).2 q) (fun c5 => ?_) (fun c5 => ?_)
        rotate_left
        · exact absurd rfl c5
        refine z_aload_n C 8 rfl rfl dL_isLettered_182 (rfl : 182 + 1 = 183) ?_
        refine z_iload C 6 rfl dL_isLettered_183 (rfl : 183 + 2 = 185) ?_
        refine z_lald C (x := x) lwm_0 ⟨by omega, by omega⟩ (by omega) (up2_at B 0 c x) dL_isLettered_185 (rfl : 185 + 1 = 186) ?_
        refine z_lastN (i := c) C lwm_0 ⟨by omega, by omega⟩ (by omega) (by omega) dL_isLettered_186 (rfl : 186 + 1 = 187) lws_0 ?_
        rw [up2_up2]
        refine z_iload C 4 rfl dL_isLettered_187 (rfl : 187 + 2 = 189) ?_
        refine z_iload C 0 rfl dL_isLettered_189 (rfl : 189 + 2 = 191) ?_
        refine z_if_eq (pt := 198) C dL_isLettered_191 (by decide) (rfl : 191 + 3 = 194) (iI_eq0 (by decide)).1 (fun q => mt (iI_eq0 (by decide)).2 q) (fun c6 => ?_) (fun c6 => ?_)
        rotate_left
        · exact absurd rfl c6
        refine z_iconst C dL_isLettered_198 (rfl : 198 + 1 = 199) ?_
        refine z_iadd C dL_isLettered_199 (rfl : 199 + 1 = 200) rfl ?_
        refine z_topi (y := iI (wkV V y (rdV V c) (i + 1)).2) (by rw [s2, Int.add_zero]) ?_
        refine z_istore (lv' := [(10, _), (14, _), (13, _), (12, _), (11, _), (9, _), (8, _), (0, _), (1, _), (2, _), (3, _), (4, _), (5, _), (6, _), (7, _)]) C dL_isLettered_200 (rfl : 200 + 2 = 202) (by decide) rfl ?_
        refine z_iinc (lv' := [(12, _), (10, _), (14, _), (13, _), (11, _), (9, _), (8, _), (0, _), (1, _), (2, _), (3, _), (4, _), (5, _), (6, _), (7, _)]) C 3 dL_isLettered_202 (rfl : 202 + 3 = 205) rfl rfl (by decide) rfl ?_
        refine z_goto (pc' := 70) C dL_isLettered_205 (by decide) ?_
        exact z_sub [0, 4, 1, 5, 6, 7, 8, 9, 10, 11, 12, 13, 14] rfl (ih (i + 1) x (by omega) s1)
      refine z_istore (lv' := [(13, _), (12, _), (11, _), (10, _), (9, _), (8, _), (0, _), (1, _), (2, _), (3, _), (4, _), (5, _), (6, _), (7, _)]) C dL_isLettered_109 (rfl : 109 + 2 = 111) (by decide) rfl ?_
      refine z_aload C 10 rfl dL_isLettered_111 (rfl : 111 + 2 = 113) ?_
      refine z_iload C 4 rfl dL_isLettered_113 (rfl : 113 + 2 = 115) ?_
      refine z_lald (x := B 4 (y)) C lwm_4 ⟨by omega, by omega⟩ (by omega) (congrArg (B 4) (by omega)) dL_isLettered_115 (rfl : 115 + 1 = 116) ?_
      refine z_iload C 1 rfl dL_isLettered_116 (rfl : 116 + 2 = 118) ?_
      refine z_lshr C rfl dL_isLettered_118 (rfl : 118 + 1 = 119) ?_
      refine z_lconst (v := 1) C (by decide) dL_isLettered_119 (rfl : 119 + 1 = 120) ?_
      refine z_land C dL_isLettered_120 (rfl : 120 + 1 = 121) ?_
      refine z_lconst (v := 1) C (by decide) dL_isLettered_121 (rfl : 121 + 1 = 122) ?_
      refine z_lcmp C dL_isLettered_122 (rfl : 122 + 1 = 123) (fun c3 => ?_) (fun c3 c0 hc0 => ?_)
      rotate_left
      · refine z_if_ne (pt := 152) C dL_isLettered_123 (by decide) (rfl : 123 + 3 = 126) (fun q => mt (iI_eq0 (by omega)).2 q) (iI_eq0 (by omega)).1 (fun c4 => ?_) (fun c4 => ?_)
        · refine no (fun hh => ?_)
          exact c3 ((lbt_t1 _ (by omega)).mpr (hx4.mpr hh.1))
        · exact absurd c4 (by omega)
      have e1 : V 13 (60 * y + i) = 1 := hx4.mp ((lbt_t1 _ (by omega)).mp c3)
      refine z_if_ne (pt := 152) C dL_isLettered_123 (by decide) (rfl : 123 + 3 = 126) (fun q => mt (iI_eq0 (by decide)).2 q) (iI_eq0 (by decide)).1 (fun c4 => ?_) (fun c4 => ?_)
      · exact absurd rfl c4
      refine z_aload_n C 7 rfl rfl dL_isLettered_126 (rfl : 126 + 1 = 127) ?_
      refine z_iload C 5 rfl dL_isLettered_127 (rfl : 127 + 2 = 129) ?_
      refine z_lald C (x := x) lwm_0 ⟨by omega, by omega⟩ (by omega) (up2_at B 0 c x) dL_isLettered_129 (rfl : 129 + 1 = 130) ?_
      refine z_iload C 0 rfl dL_isLettered_130 (rfl : 130 + 2 = 132) ?_
      refine z_callS C (0) (0) (c_L_get (k := k)) gL_isLettered_L_get rfl hd89_L_get ⟨Nat.le_of_ble_eq_true rfl, Nat.le_of_ble_eq_true rfl⟩ rfl (Nat.le_of_ble_eq_true rfl) dL_isLettered_132 (rfl : 132 + 3 = 135) rfl rfl ⟨by show 0 ≤ 8; omega, by show 0 ≤ 300; omega⟩ (fun _ _ h => h.elim) ?_ rfl
      rintro _ _ ⟨rfl, rfl⟩
      refine z_v1 (z_topi (hS k hk) ?_)
      refine z_aload_n C 9 rfl rfl dL_isLettered_135 (rfl : 135 + 1 = 136) ?_
      refine z_iload C 1 rfl dL_isLettered_136 (rfl : 136 + 2 = 138) ?_
      refine z_iald C lwm_3 ⟨by omega, by omega⟩ (by omega) (rdA hlr (by omega)) dL_isLettered_138 (rfl : 138 + 1 = 139) ?_
      refine z_bipush (c := 10) C (by decide) dL_isLettered_139 (rfl : 139 + 2 = 141) ?_
      refine z_iquo C ⟨by omega, by omega⟩ ⟨by omega, by omega⟩ rfl dL_isLettered_141 (rfl : 141 + 1 = 142) ?_
      refine z_bipush (c := 10) C (by decide) dL_isLettered_142 (rfl : 142 + 2 = 144) ?_
      refine z_irem C ⟨by omega, by omega⟩ ⟨by omega, by omega⟩ rfl dL_isLettered_144 (rfl : 144 + 1 = 145) ?_
      refine z_topi (y := iI (V 11 i)) (congrArg iI (by omega)) ?_
      refine z_icmp_ne (pt := 152) C dL_isLettered_145 (by decide) (rfl : 145 + 3 = 148) (fun q => mt (iI_eq (by omega) (by omega)).2 q) (iI_eq (by omega) (by omega)).1 (fun c5 => ?_) (fun c5 => ?_)
      · exact no (fun hh => c5 (by rw [← etn]; exact hh.2))
      obtain ⟨s1, s2⟩ := hS.put hk ek ⟨by omega, by omega⟩ e1 c5
      refine z_iconst C dL_isLettered_148 (rfl : 148 + 1 = 149) ?_
      refine z_goto (pc' := 153) C dL_isLettered_149 (by decide) ?_
      refine z_istore (lv' := [(14, _), (13, _), (12, _), (11, _), (10, _), (9, _), (8, _), (0, _), (1, _), (2, _), (3, _), (4, _), (5, _), (6, _), (7, _)]) C dL_isLettered_153 (rfl : 153 + 2 = 155) (by decide) rfl ?_
      refine z_aload_n C 8 rfl rfl dL_isLettered_155 (rfl : 155 + 1 = 156) ?_
      refine z_iload C 6 rfl dL_isLettered_156 (rfl : 156 + 2 = 158) ?_
      refine z_iload C 0 rfl dL_isLettered_158 (rfl : 158 + 2 = 160) ?_
      refine z_if_eq (pt := 182) C dL_isLettered_160 (by decide) (rfl : 160 + 3 = 163) (iI_eq0 (by decide)).1 (fun q => mt (iI_eq0 (by decide)).2 q) (fun c6 => ?_) (fun c6 => ?_)
      · exact absurd c6 (by decide)
      refine z_aload_n C 8 rfl rfl dL_isLettered_163 (rfl : 163 + 1 = 164) ?_
      refine z_iload C 6 rfl dL_isLettered_164 (rfl : 164 + 2 = 166) ?_
      refine z_lald C (x := x) lwm_0 ⟨by omega, by omega⟩ (by omega) (up2_at B 0 c x) dL_isLettered_166 (rfl : 166 + 1 = 167) ?_
      refine z_iload C 1 rfl dL_isLettered_167 (rfl : 167 + 2 = 169) ?_
      refine z_aload_n C 10 rfl rfl dL_isLettered_169 (rfl : 169 + 1 = 170) ?_
      refine z_iload C 2 rfl dL_isLettered_170 (rfl : 170 + 2 = 172) ?_
      refine z_iald C lwm_3 ⟨by omega, by omega⟩ (by omega) (rdA hlr (by omega)) dL_isLettered_172 (rfl : 172 + 1 = 173) ?_
      refine z_bipush (c := 10) C (by decide) dL_isLettered_173 (rfl : 173 + 2 = 175) ?_
      refine z_irem C ⟨by omega, by omega⟩ ⟨by omega, by omega⟩ rfl dL_isLettered_175 (rfl : 175 + 1 = 176) ?_
      refine z_topi (y := iI (V 12 i)) (congrArg iI (by omega)) ?_
      refine z_callS C (0) (0) (c_L_put (k := k) (r := V 12 i)) gL_isLettered_L_put rfl hd89_L_put ⟨Nat.le_of_ble_eq_true rfl, Nat.le_of_ble_eq_true rfl⟩ rfl (Nat.le_of_ble_eq_true rfl) dL_isLettered_176 (rfl : 176 + 3 = 179) rfl rfl ⟨by show 0 ≤ 8; omega, by show 0 ≤ 300; omega⟩ (fun _ _ h => h.elim) ?_ rfl
      rintro _ _ ⟨rfl, rfl⟩
      refine z_v1 ?_
      refine z_goto (pc' := 186) C dL_isLettered_179 (by decide) ?_
      refine z_lastN (i := c) C lwm_0 ⟨by omega, by omega⟩ (by omega) (by omega) dL_isLettered_186 (rfl : 186 + 1 = 187) lws_0 ?_
      rw [up2_up2]
      refine z_iload C 4 rfl dL_isLettered_187 (rfl : 187 + 2 = 189) ?_
      refine z_iload C 0 rfl dL_isLettered_189 (rfl : 189 + 2 = 191) ?_
      refine z_if_eq (pt := 198) C dL_isLettered_191 (by decide) (rfl : 191 + 3 = 194) (iI_eq0 (by decide)).1 (fun q => mt (iI_eq0 (by decide)).2 q) (fun c7 => ?_) (fun c7 => ?_)
      · exact absurd c7 (by decide)
      refine z_iconst C dL_isLettered_194 (rfl : 194 + 1 = 195) ?_
      refine z_goto (pc' := 199) C dL_isLettered_195 (by decide) ?_
      refine z_iadd C dL_isLettered_199 (rfl : 199 + 1 = 200) rfl ?_
      refine z_topi (y := iI (wkV V y (rdV V c) (i + 1)).2) (by rw [s2]) ?_
      refine z_istore (lv' := [(10, _), (14, _), (13, _), (12, _), (11, _), (9, _), (8, _), (0, _), (1, _), (2, _), (3, _), (4, _), (5, _), (6, _), (7, _)]) C dL_isLettered_200 (rfl : 200 + 2 = 202) (by decide) rfl ?_
      refine z_iinc (lv' := [(12, _), (10, _), (14, _), (13, _), (11, _), (9, _), (8, _), (0, _), (1, _), (2, _), (3, _), (4, _), (5, _), (6, _), (7, _)]) C 3 dL_isLettered_202 (rfl : 202 + 3 = 205) rfl rfl (by decide) rfl ?_
      refine z_goto (pc' := 70) C dL_isLettered_205 (by decide) ?_
      exact z_sub [0, 4, 1, 5, 6, 7, 8, 9, 10, 11, 12, 13, 14] rfl (ih (i + 1) _ (by omega) s1)
    refine z_aload_n C 8 rfl rfl dL_isLettered_84 (rfl : 84 + 1 = 85) ?_
    refine z_iload C 0 rfl dL_isLettered_85 (rfl : 85 + 2 = 87) ?_
    refine z_iald C lwm_3 ⟨by omega, by omega⟩ (by omega) (rdA hlr (by omega)) dL_isLettered_87 (rfl : 87 + 1 = 88) ?_
    refine z_bipush (c := 100) C (by decide) dL_isLettered_88 (rfl : 88 + 2 = 90) ?_
    refine z_iquo C ⟨by omega, by omega⟩ ⟨by omega, by omega⟩ rfl dL_isLettered_90 (rfl : 90 + 1 = 91) ?_
    refine z_topi (y := iI ((plc k : Nat) : Int)) (congrArg iI (by omega)) ?_
    refine z_bipush (c := 23) C (by decide) dL_isLettered_91 (rfl : 91 + 2 = 93) ?_
    refine z_icmp_ne (pt := 101) C dL_isLettered_93 (by decide) (rfl : 93 + 3 = 96) (fun q => mt (iI_eq (by omega) (by omega)).2 q) (iI_eq (by omega) (by omega)).1 (fun c3 => ?_) (fun c3 => ?_)
    · refine z_aload_n C 8 rfl rfl dL_isLettered_101 (rfl : 101 + 1 = 102) ?_
      refine z_iload C 0 rfl dL_isLettered_102 (rfl : 102 + 2 = 104) ?_
      refine z_iald C lwm_3 ⟨by omega, by omega⟩ (by omega) (rdA hlr (by omega)) dL_isLettered_104 (rfl : 104 + 1 = 105) ?_
      refine z_sipush (c := 200) C (by decide) dL_isLettered_105 (rfl : 105 + 3 = 108) ?_
      refine z_iquo C ⟨by omega, by omega⟩ ⟨by omega, by omega⟩ rfl dL_isLettered_108 (rfl : 108 + 1 = 109) ?_
      refine z_topi (y := iI (k : Int)) (congrArg iI (by omega)) ?_
      exact k109
    · refine z_bipush (c := 11) C (by decide) dL_isLettered_96 (rfl : 96 + 2 = 98) ?_
      refine z_goto (pc' := 109) C dL_isLettered_98 (by decide) ?_
      refine z_topi (y := iI (k : Int)) (congrArg iI (by omega)) ?_
      exact k109
theorem tl_L_work (C : Cx κ cL_isLettered 15 wsL_isLettered RL (some .boolean) rmL_isLettered G base) {D z : Int} {way : Nat} {c y : Nat} (hc : c < n) (hy : y < 5) (hz : 0 ≤ z ∧ z < 20000000) (h : RX (gde G) L K I F R N O T g V n m t) (hI : LInv V n m t) (hW : LWr V n m t B A) (hD : V 9 0 ≤ D) (hq : ∀ w, INV5 G q (g 6 0) D w → post (some (.int (iI 1))) w) (hmc : mc = 8) (hms : ms = 300) : Z κ 15 G base mc ms post exc 0 0 44 [(9, .int (iI (y : Int))), (8, .int (iI (c : Int))), (0, .ref (g 6 0)), (1, .ref (q 0)), (2, .ref (q 1)), (3, .ref (q 3)), (4, .ref (q 4)), (5, .ref (q 8)), (6, .int (iI (way : Int))), (7, .int (iI z))] [] (pw G (lwW G q B A) L K I F R N O) := by
  have hb := hI.2.2.1
  have w6 := hI.1.2.2.2.2.2.1 c hc
  refine z_iconst C dL_isLettered_44 (rfl : 44 + 1 = 45) ?_
  refine z_istore (lv' := [(10, _), (9, _), (8, _), (0, _), (1, _), (2, _), (3, _), (4, _), (5, _), (6, _), (7, _)]) C dL_isLettered_45 (rfl : 45 + 2 = 47) (by decide) rfl ?_
  refine z_aload_n C 5 rfl rfl dL_isLettered_47 (rfl : 47 + 1 = 48) ?_
  refine z_iconst C dL_isLettered_48 (rfl : 48 + 1 = 49) ?_
  refine z_iload C 2 rfl dL_isLettered_49 (rfl : 49 + 2 = 51) ?_
  refine z_imul C dL_isLettered_51 (rfl : 51 + 1 = 52) rfl ?_
  refine z_iconst C dL_isLettered_52 (rfl : 52 + 1 = 53) ?_
  refine z_iadd C dL_isLettered_53 (rfl : 53 + 1 = 54) rfl ?_
  refine z_iald C lwm_1 ⟨by omega, by omega⟩ (by omega) (rdA (hW.2.2.1 c hc).2.2.2 (by omega)) dL_isLettered_54 (rfl : 54 + 1 = 55) ?_
  refine z_iload C 1 rfl dL_isLettered_55 (rfl : 55 + 2 = 57) ?_
  refine z_icmp_ne (pt := 64) C dL_isLettered_57 (by decide) (rfl : 57 + 3 = 60) (fun q => mt (iI_eq (by omega) (by omega)).2 q) (iI_eq (by omega) (by omega)).1 (fun c1 => ?_) (fun c1 => ?_)
  · have k208 : ∀ i : Int, Z κ 15 G base mc ms post exc 0 0 208 [(12, .int (iI i)), (11, .int (iI 0)), (10, .int (iI 0)), (9, .int (iI (y : Int))), (8, .int (iI (c : Int))), (0, .ref (g 6 0)), (1, .ref (q 0)), (2, .ref (q 1)), (3, .ref (q 3)), (4, .ref (q 4)), (5, .ref (q 8)), (6, .int (iI (way : Int))), (7, .int (iI z))] [] (pw G (lwW G q B A) L K I F R N O) := by
      intro i
      refine z_aload_n C 5 rfl rfl dL_isLettered_208 (rfl : 208 + 1 = 209) ?_
      refine z_iload C 3 rfl dL_isLettered_209 (rfl : 209 + 2 = 211) ?_
      refine z_iload C 4 rfl dL_isLettered_211 (rfl : 211 + 2 = 213) ?_
      refine z_callH C (3) (18) (c_L_worked ⟨h.1.x8.1, h.1.x8.2.1⟩ (c_X5_workIn (hz := (y : Int)) (cz := (c : Int)) ⟨by omega, by omega⟩ ⟨by omega, by omega⟩ h hI.1) mxP_ex (mxE_ise ⟨⟨by omega, by omega⟩, by omega, by omega⟩)) gL_isLettered_L_worked rfl hd89_L_worked ⟨Nat.le_of_ble_eq_true rfl, Nat.le_of_ble_eq_true rfl⟩ rfl (Nat.le_of_ble_eq_true rfl) dL_isLettered_213 (rfl : 213 + 3 = 216) rfl rfl ⟨by show 3 ≤ 8; omega, by show 18 ≤ 300; omega⟩ ?_ rfl
      rintro v w (⟨hP, -, -⟩ | ⟨-, rfl, rfl⟩)
      · exact absurd hP.2 c1
      refine z_v1 ?_
      refine z_iload C 1 rfl dL_isLettered_216 (rfl : 216 + 2 = 218) ?_
      refine z_if_eq (pt := 226) C dL_isLettered_218 (by decide) (rfl : 218 + 3 = 221) (iI_eq0 (by decide)).1 (fun q => mt (iI_eq0 (by decide)).2 q) (fun c2 => ?_) (fun c2 => ?_)
      rotate_left
      · exact absurd rfl c2
      refine z_bipush (c := (-7)) C (by decide) dL_isLettered_226 (rfl : 226 + 2 = 228) ?_
      refine z_same (pt := 235) C rfl dL_isLettered_228 (by decide) (rfl : 228 + 3 = 231) ?_
      refine z_iconst C dL_isLettered_231 (rfl : 231 + 1 = 232) ?_
      refine z_goto (pc' := 236) C dL_isLettered_232 (by decide) ?_
      exact z_zret C rfl (.inr rfl) dL_isLettered_236 (hq _ ⟨V, n, m, t, B, A, L, K, I, F, R, N, O, T, g, rfl, rfl, h, hI, hW, hD⟩) (by omega) (by omega)
    refine z_iconst C dL_isLettered_64 (rfl : 64 + 1 = 65) ?_
    refine z_istore (lv' := [(11, _), (10, _), (9, _), (8, _), (0, _), (1, _), (2, _), (3, _), (4, _), (5, _), (6, _), (7, _)]) C dL_isLettered_65 (rfl : 65 + 2 = 67) (by decide) rfl ?_
    refine z_iconst C dL_isLettered_67 (rfl : 67 + 1 = 68) ?_
    refine z_istore (lv' := [(12, _), (11, _), (10, _), (9, _), (8, _), (0, _), (1, _), (2, _), (3, _), (4, _), (5, _), (6, _), (7, _)]) C dL_isLettered_68 (rfl : 68 + 2 = 70) (by decide) rfl ?_
    refine z_iload C 0 rfl dL_isLettered_70 (rfl : 70 + 2 = 72) ?_
    refine z_aload C 10 rfl dL_isLettered_72 (rfl : 72 + 2 = 74) ?_
    refine z_iconst C dL_isLettered_74 (rfl : 74 + 1 = 75) ?_
    refine z_iald C lwm_8 ⟨by omega, by omega⟩ (by omega) (rdA hW.1.2.2.2.1 (by omega)) dL_isLettered_75 (rfl : 75 + 1 = 76) ?_
    refine z_icmp_ge (pt := 208) C dL_isLettered_76 (by decide) (rfl : 76 + 3 = 79) (iI_le (by omega) (by omega)).1 (fun q => mt (iI_le (by omega) (by omega)).2 q) (fun c2 => ?_) (fun c2 => ?_)
    · exact k208 _
    · refine z_iload C 1 rfl dL_isLettered_79 (rfl : 79 + 2 = 81) ?_
      refine z_if_eq (pt := 208) C dL_isLettered_81 (by decide) (rfl : 81 + 3 = 84) (iI_eq0 (by decide)).1 (fun q => mt (iI_eq0 (by decide)).2 q) (fun c3 => ?_) (fun c3 => ?_)
      rotate_left
      · exact absurd rfl c3
      exact k208 _
  · refine z_iconst C dL_isLettered_60 (rfl : 60 + 1 = 61) ?_
    refine z_goto (pc' := 65) C dL_isLettered_61 (by decide) ?_
    refine z_istore (lv' := [(11, _), (10, _), (9, _), (8, _), (0, _), (1, _), (2, _), (3, _), (4, _), (5, _), (6, _), (7, _)]) C dL_isLettered_65 (rfl : 65 + 2 = 67) (by decide) rfl ?_
    refine z_iconst C dL_isLettered_67 (rfl : 67 + 1 = 68) ?_
    refine z_istore (lv' := [(12, _), (11, _), (10, _), (9, _), (8, _), (0, _), (1, _), (2, _), (3, _), (4, _), (5, _), (6, _), (7, _)]) C dL_isLettered_68 (rfl : 68 + 2 = 70) (by decide) rfl ?_
    refine z_ws (ws' := pw G (lwW G q (up2 B 0 c (B 0 c)) A) L K I F R N O) (congrArg (fun B' => pw G (lwW G q B' A) L K I F R N O) (up2_self B 0 c).symm) ?_
    refine lp_L_work (D := D) C hc hy hI hW (fun x hS => ?_) m 0 (B 0 c) (by omega) (fun k hk => hW.2.1 c hc k hk)
    obtain ⟨f, hf⟩ := ex_wkR V y c m
    obtain ⟨hI2, hW2⟩ := mu_work hc hI hW hS hf
    refine z_aload_n C 5 rfl rfl dL_isLettered_208 (rfl : 208 + 1 = 209) ?_
    refine z_iload C 3 rfl dL_isLettered_209 (rfl : 209 + 2 = 211) ?_
    refine z_iload C 4 rfl dL_isLettered_211 (rfl : 211 + 2 = 213) ?_
    refine z_callH C (3) (18) (c_L_worked ⟨h.1.x8.1, h.1.x8.2.1⟩ (c_X5_workIn (hz := (y : Int)) (cz := (c : Int)) ⟨by omega, by omega⟩ ⟨by omega, by omega⟩ h hI.1) mxP_ex (mxE_ise ⟨⟨by omega, by omega⟩, by omega, by omega⟩)) gL_isLettered_L_worked rfl hd89_L_worked ⟨Nat.le_of_ble_eq_true rfl, Nat.le_of_ble_eq_true rfl⟩ rfl (Nat.le_of_ble_eq_true rfl) dL_isLettered_213 (rfl : 213 + 3 = 216) rfl rfl ⟨by show 3 ≤ 8; omega, by show 18 ≤ 300; omega⟩ ?_ rfl
    rintro v w (⟨hP, rfl, hm⟩ | ⟨hbad, -, -⟩)
    rotate_left
    · exact (hbad c1).elim
    obtain ⟨L', K', I', F', R', N', O', T', g', rfl, hg, hR⟩ := hm
    refine z_v1 ?_
    refine z_iload C 1 rfl dL_isLettered_216 (rfl : 216 + 2 = 218) ?_
    refine z_if_eq (pt := 226) C dL_isLettered_218 (by decide) (rfl : 218 + 3 = 221) (iI_eq0 (by decide)).1 (fun q => mt (iI_eq0 (by decide)).2 q) (fun c2 => ?_) (fun c2 => ?_)
    · exact absurd c2 (by decide)
    refine z_iload C 2 rfl dL_isLettered_221 (rfl : 221 + 2 = 223) ?_
    refine z_goto (pc' := 228) C dL_isLettered_223 (by decide) ?_
    refine z_same (pt := 235) C rfl dL_isLettered_228 (by decide) (rfl : 228 + 3 = 231) ?_
    refine z_iconst C dL_isLettered_231 (rfl : 231 + 1 = 232) ?_
    refine z_goto (pc' := 236) C dL_isLettered_232 (by decide) ?_
    exact z_zret C rfl (.inr rfl) dL_isLettered_236 (hq _ ⟨_, _, _, _, _, _, L', K', I', F', R', N', O', T', g', rfl, hg, hR _ ⟨f, hf, rfl⟩, hI2, hW2, hD⟩) (by omega) (by omega)
theorem tl_L_corr0 (C : Cx κ cL_isLettered 15 wsL_isLettered RL (some .boolean) rmL_isLettered G base) {D z : Int} {way : Nat} {c y u k : Nat} (hc : c < n) (hy : y < 5) (hu : u < n) (hk : k < 12) (hno : ¬ (V 4 c = (y : Int) ∧ V 4 u = (y : Int) ∧ V 0 (24 * c + plc k) ≠ V 0 (24 * u + plc k))) (hz : 0 ≤ z ∧ z < 20000000) (h : RX (gde G) L K I F R N O T g V n m t) (hI : LInv V n m t) (hW : LWr V n m t B A) (hD : V 9 0 ≤ D) (hq : ∀ w, INV5 G q (g 6 0) D w → post (some (.int (iI 1))) w) (hmc : mc = 8) (hms : ms = 300) : Z κ 15 G base mc ms post exc 0 0 469 [(12, .int (iI 0)), (11, .int (iI (k : Int))), (10, .int (iI (u : Int))), (9, .int (iI (y : Int))), (8, .int (iI (c : Int))), (0, .ref (g 6 0)), (1, .ref (q 0)), (2, .ref (q 1)), (3, .ref (q 3)), (4, .ref (q 4)), (5, .ref (q 8)), (6, .int (iI (way : Int))), (7, .int (iI z))] [] (pw G (lwW G q B A) L K I F R N O) := by
  have hb := hI.2.2.1
  have hpl := plc_lt hk
  refine z_aload_n C 5 rfl rfl dL_isLettered_469 (rfl : 469 + 1 = 470) ?_
  refine z_iload C 3 rfl dL_isLettered_470 (rfl : 470 + 2 = 472) ?_
  refine z_iload C 4 rfl dL_isLettered_472 (rfl : 472 + 2 = 474) ?_
  refine z_iload C 2 rfl dL_isLettered_474 (rfl : 474 + 2 = 476) ?_
  refine z_iload C 1 rfl dL_isLettered_476 (rfl : 476 + 2 = 478) ?_
  refine z_callS C (0) (0) (c_L_place hk) gL_isLettered_L_place rfl hd89_L_place ⟨Nat.le_of_ble_eq_true rfl, Nat.le_of_ble_eq_true rfl⟩ rfl (Nat.le_of_ble_eq_true rfl) dL_isLettered_478 (rfl : 478 + 3 = 481) rfl rfl ⟨by show 0 ≤ 8; omega, by show 0 ≤ 300; omega⟩ (fun _ _ h => h.elim) ?_ rfl
  rintro _ _ ⟨rfl, rfl⟩
  refine z_v1 ?_
  refine z_callH C (6) (240) (c_L_corrected ⟨h.1.x8.1, h.1.x8.2.1⟩ (c_X5_correct (hz := (y : Int)) (cz := (c : Int)) (oz := (u : Int)) (pz := ((plc k : Nat) : Int)) ⟨by omega, by omega⟩ ⟨by omega, by omega⟩ ⟨by omega, by omega⟩ ⟨by omega, by omega⟩ h hI.1) mxP_ex (mxE_ise ⟨⟨by omega, by omega⟩, ⟨by omega, by omega⟩, ⟨by omega, by omega⟩, by omega, by omega⟩)) gL_isLettered_L_corrected rfl hd89_L_corrected ⟨Nat.le_of_ble_eq_true rfl, Nat.le_of_ble_eq_true rfl⟩ rfl (Nat.le_of_ble_eq_true rfl) dL_isLettered_481 (rfl : 481 + 3 = 484) rfl rfl ⟨by show 6 ≤ 8; omega, by show 240 ≤ 300; omega⟩ ?_ rfl
  rintro v w (⟨hP, -, -⟩ | ⟨-, rfl, rfl⟩)
  · exact (hno ⟨hP.2.1, hP.2.2.1, hP.2.2.2.1⟩).elim
  refine z_v1 ?_
  refine z_iload C 0 rfl dL_isLettered_484 (rfl : 484 + 2 = 486) ?_
  refine z_if_eq (pt := 498) C dL_isLettered_486 (by decide) (rfl : 486 + 3 = 489) (iI_eq0 (by decide)).1 (fun q => mt (iI_eq0 (by decide)).2 q) (fun c2 => ?_) (fun c2 => ?_)
  rotate_left
  · exact absurd rfl c2
  refine z_bipush (c := (-7)) C (by decide) dL_isLettered_498 (rfl : 498 + 2 = 500) ?_
  refine z_same (pt := 507) C rfl dL_isLettered_500 (by decide) (rfl : 500 + 3 = 503) ?_
  refine z_iconst C dL_isLettered_503 (rfl : 503 + 1 = 504) ?_
  refine z_goto (pc' := 508) C dL_isLettered_504 (by decide) ?_
  exact z_zret C rfl (.inr rfl) dL_isLettered_508 (hq _ ⟨V, n, m, t, B, A, L, K, I, F, R, N, O, T, g, rfl, rfl, h, hI, hW, hD⟩) (by omega) (by omega)
theorem tl_L_corr1 (C : Cx κ cL_isLettered 15 wsL_isLettered RL (some .boolean) rmL_isLettered G base) {D z : Int} {way : Nat} {c y u k : Nat} (hc : c < n) (hy : y < 5) (hu : u < n) (hk : k < 12) (h1 : V 4 c = (y : Int)) (h2 : V 4 u = (y : Int)) (h3 : V 0 (24 * c + plc k) ≠ V 0 (24 * u + plc k)) (hm40 : m < 40) (hz : 0 ≤ z ∧ z < 20000000) (h : RX (gde G) L K I F R N O T g V n m t) (hI : LInv V n m t) (hW : LWr V n m t B A) (hD : V 9 0 ≤ D) (hq : ∀ w, INV5 G q (g 6 0) D w → post (some (.int (iI 1))) w) (hmc : mc = 8) (hms : ms = 300) : Z κ 15 G base mc ms post exc 0 0 388 [(12, .int (iI 1)), (11, .int (iI (k : Int))), (10, .int (iI (u : Int))), (9, .int (iI (y : Int))), (8, .int (iI (c : Int))), (0, .ref (g 6 0)), (1, .ref (q 0)), (2, .ref (q 1)), (3, .ref (q 3)), (4, .ref (q 4)), (5, .ref (q 8)), (6, .int (iI (way : Int))), (7, .int (iI z))] [] (pw G (lwW G q B A) L K I F R N O) := by
  have hb := hI.2.2.1
  have hpl := plc_lt hk
  obtain ⟨hI2, hW2⟩ := mu_correct hm40 hy hc hu hk hI hW rfl
  have hm3 := hW.1.2.2.2.1
  refine z_aload_n C 8 rfl rfl dL_isLettered_388 (rfl : 388 + 1 = 389) ?_
  refine z_aload C 10 rfl dL_isLettered_389 (rfl : 389 + 2 = 391) ?_
  refine z_iconst C dL_isLettered_391 (rfl : 391 + 1 = 392) ?_
  refine z_iald C lwm_8 ⟨by omega, by omega⟩ (by omega) (rdA hm3 (by omega)) dL_isLettered_392 (rfl : 392 + 1 = 393) ?_
  refine z_bipush (c := 100) C (by decide) dL_isLettered_393 (rfl : 393 + 2 = 395) ?_
  refine z_iload C 1 rfl dL_isLettered_395 (rfl : 395 + 2 = 397) ?_
  refine z_callS C (0) (0) (c_L_place hk) gL_isLettered_L_place rfl hd89_L_place ⟨Nat.le_of_ble_eq_true rfl, Nat.le_of_ble_eq_true rfl⟩ rfl (Nat.le_of_ble_eq_true rfl) dL_isLettered_397 (rfl : 397 + 3 = 400) rfl rfl ⟨by show 0 ≤ 8; omega, by show 0 ≤ 300; omega⟩ (fun _ _ h => h.elim) ?_ rfl
  rintro _ _ ⟨rfl, rfl⟩
  refine z_v1 ?_
  refine z_imul C dL_isLettered_400 (rfl : 400 + 1 = 401) rfl ?_
  refine z_bipush (c := 10) C (by decide) dL_isLettered_401 (rfl : 401 + 2 = 403) ?_
  refine z_aload_n C 6 rfl rfl dL_isLettered_403 (rfl : 403 + 1 = 404) ?_
  refine z_iload C 4 rfl dL_isLettered_404 (rfl : 404 + 2 = 406) ?_
  refine z_lald (x := B 0 (c)) C lwm_0 ⟨by omega, by omega⟩ (by omega) (congrArg (B 0) (by omega)) dL_isLettered_406 (rfl : 406 + 1 = 407) ?_
  refine z_iload C 1 rfl dL_isLettered_407 (rfl : 407 + 2 = 409) ?_
  refine z_callS C (0) (0) (c_L_get (k := k)) gL_isLettered_L_get rfl hd89_L_get ⟨Nat.le_of_ble_eq_true rfl, Nat.le_of_ble_eq_true rfl⟩ rfl (Nat.le_of_ble_eq_true rfl) dL_isLettered_409 (rfl : 409 + 3 = 412) rfl rfl ⟨by show 0 ≤ 8; omega, by show 0 ≤ 300; omega⟩ (fun _ _ h => h.elim) ?_ rfl
  rintro _ _ ⟨rfl, rfl⟩
  refine z_v1 (z_topi (hW.2.1 c hc k hk) ?_)
  refine z_imul C dL_isLettered_412 (rfl : 412 + 1 = 413) rfl ?_
  refine z_iadd C dL_isLettered_413 (rfl : 413 + 1 = 414) rfl ?_
  refine z_aload_n C 6 rfl rfl dL_isLettered_414 (rfl : 414 + 1 = 415) ?_
  refine z_iload C 2 rfl dL_isLettered_415 (rfl : 415 + 2 = 417) ?_
  refine z_lald (x := B 0 (u)) C lwm_0 ⟨by omega, by omega⟩ (by omega) (congrArg (B 0) (by omega)) dL_isLettered_417 (rfl : 417 + 1 = 418) ?_
  refine z_iload C 1 rfl dL_isLettered_418 (rfl : 418 + 2 = 420) ?_
  refine z_callS C (0) (0) (c_L_get (k := k)) gL_isLettered_L_get rfl hd89_L_get ⟨Nat.le_of_ble_eq_true rfl, Nat.le_of_ble_eq_true rfl⟩ rfl (Nat.le_of_ble_eq_true rfl) dL_isLettered_420 (rfl : 420 + 3 = 423) rfl rfl ⟨by show 0 ≤ 8; omega, by show 0 ≤ 300; omega⟩ (fun _ _ h => h.elim) ?_ rfl
  rintro _ _ ⟨rfl, rfl⟩
  refine z_v1 (z_topi (hW.2.1 u hu k hk) ?_)
  refine z_iadd C dL_isLettered_423 (rfl : 423 + 1 = 424) rfl ?_
  refine z_iastN (i := m) C lwm_3 ⟨by omega, by omega⟩ (by omega) (by omega) dL_isLettered_424 (rfl : 424 + 1 = 425) lws_3 ?_
  refine z_aload_n C 6 rfl rfl dL_isLettered_425 (rfl : 425 + 1 = 426) ?_
  refine z_iload C 4 rfl dL_isLettered_426 (rfl : 426 + 2 = 428) ?_
  refine z_aload_n C 6 rfl rfl dL_isLettered_428 (rfl : 428 + 1 = 429) ?_
  refine z_iload C 4 rfl dL_isLettered_429 (rfl : 429 + 2 = 431) ?_
  refine z_lald (x := B 0 (c)) C lwm_0 ⟨by omega, by omega⟩ (by omega) (congrArg (B 0) (by omega)) dL_isLettered_431 (rfl : 431 + 1 = 432) ?_
  refine z_iload C 1 rfl dL_isLettered_432 (rfl : 432 + 2 = 434) ?_
  refine z_aload_n C 6 rfl rfl dL_isLettered_434 (rfl : 434 + 1 = 435) ?_
  refine z_iload C 2 rfl dL_isLettered_435 (rfl : 435 + 2 = 437) ?_
  refine z_lald (x := B 0 (u)) C lwm_0 ⟨by omega, by omega⟩ (by omega) (congrArg (B 0) (by omega)) dL_isLettered_437 (rfl : 437 + 1 = 438) ?_
  refine z_iload C 1 rfl dL_isLettered_438 (rfl : 438 + 2 = 440) ?_
  refine z_callS C (0) (0) (c_L_get (k := k)) gL_isLettered_L_get rfl hd89_L_get ⟨Nat.le_of_ble_eq_true rfl, Nat.le_of_ble_eq_true rfl⟩ rfl (Nat.le_of_ble_eq_true rfl) dL_isLettered_440 (rfl : 440 + 3 = 443) rfl rfl ⟨by show 0 ≤ 8; omega, by show 0 ≤ 300; omega⟩ (fun _ _ h => h.elim) ?_ rfl
  rintro _ _ ⟨rfl, rfl⟩
  refine z_v1 (z_topi (hW.2.1 u hu k hk) ?_)
  refine z_callS C (0) (0) (c_L_put (k := k) (r := V 0 (24 * u + plc k))) gL_isLettered_L_put rfl hd89_L_put ⟨Nat.le_of_ble_eq_true rfl, Nat.le_of_ble_eq_true rfl⟩ rfl (Nat.le_of_ble_eq_true rfl) dL_isLettered_443 (rfl : 443 + 3 = 446) rfl rfl ⟨by show 0 ≤ 8; omega, by show 0 ≤ 300; omega⟩ (fun _ _ h => h.elim) ?_ rfl
  rintro _ _ ⟨rfl, rfl⟩
  refine z_v1 ?_
  refine z_lastN (i := c) C lwm_0 ⟨by omega, by omega⟩ (by omega) (by omega) dL_isLettered_446 (rfl : 446 + 1 = 447) lws_0 ?_
  refine z_aload C 9 rfl dL_isLettered_447 (rfl : 447 + 2 = 449) ?_
  refine z_iload C 3 rfl dL_isLettered_449 (rfl : 449 + 2 = 451) ?_
  refine z_dup2 C rfl rfl dL_isLettered_451 (rfl : 451 + 1 = 452) ?_
  refine z_lald (x := B 4 (y)) C lwm_4 ⟨by omega, by omega⟩ (by omega) (congrArg (B 4) (by omega)) dL_isLettered_452 (rfl : 452 + 1 = 453) ?_
  refine z_lconst (v := 1) C (by decide) dL_isLettered_453 (rfl : 453 + 1 = 454) ?_
  refine z_aload C 10 rfl dL_isLettered_454 (rfl : 454 + 2 = 456) ?_
  refine z_iconst C dL_isLettered_456 (rfl : 456 + 1 = 457) ?_
  refine z_iald C lwm_8 ⟨by omega, by omega⟩ (by omega) (rdA hm3 (by omega)) dL_isLettered_457 (rfl : 457 + 1 = 458) ?_
  refine z_lshl C rfl dL_isLettered_458 (rfl : 458 + 1 = 459) ?_
  refine z_lor C dL_isLettered_459 (rfl : 459 + 1 = 460) ?_
  refine z_lastN (i := y) C lwm_4 ⟨by omega, by omega⟩ (by omega) (by omega) dL_isLettered_460 (rfl : 460 + 1 = 461) lws_4 ?_
  refine z_aload C 10 rfl dL_isLettered_461 (rfl : 461 + 2 = 463) ?_
  refine z_iconst C dL_isLettered_463 (rfl : 463 + 1 = 464) ?_
  refine z_dup2 C rfl rfl dL_isLettered_464 (rfl : 464 + 1 = 465) ?_
  refine z_iald C lwm_8 ⟨by omega, by omega⟩ (by omega) (rdA hm3 (by omega)) dL_isLettered_465 (rfl : 465 + 1 = 466) ?_
  refine z_iconst C dL_isLettered_466 (rfl : 466 + 1 = 467) ?_
  refine z_iadd C dL_isLettered_467 (rfl : 467 + 1 = 468) rfl ?_
  refine z_iastN (i := 3) C lwm_8 ⟨by omega, by omega⟩ (by omega) (by omega) dL_isLettered_468 (rfl : 468 + 1 = 469) lws_8 ?_
  refine z_aload_n C 5 rfl rfl dL_isLettered_469 (rfl : 469 + 1 = 470) ?_
  refine z_iload C 3 rfl dL_isLettered_470 (rfl : 470 + 2 = 472) ?_
  refine z_iload C 4 rfl dL_isLettered_472 (rfl : 472 + 2 = 474) ?_
  refine z_iload C 2 rfl dL_isLettered_474 (rfl : 474 + 2 = 476) ?_
  refine z_iload C 1 rfl dL_isLettered_476 (rfl : 476 + 2 = 478) ?_
  refine z_callS C (0) (0) (c_L_place hk) gL_isLettered_L_place rfl hd89_L_place ⟨Nat.le_of_ble_eq_true rfl, Nat.le_of_ble_eq_true rfl⟩ rfl (Nat.le_of_ble_eq_true rfl) dL_isLettered_478 (rfl : 478 + 3 = 481) rfl rfl ⟨by show 0 ≤ 8; omega, by show 0 ≤ 300; omega⟩ (fun _ _ h => h.elim) ?_ rfl
  rintro _ _ ⟨rfl, rfl⟩
  refine z_v1 ?_
  refine z_callH C (6) (240) (c_L_corrected ⟨h.1.x8.1, h.1.x8.2.1⟩ (c_X5_correct (hz := (y : Int)) (cz := (c : Int)) (oz := (u : Int)) (pz := ((plc k : Nat) : Int)) ⟨by omega, by omega⟩ ⟨by omega, by omega⟩ ⟨by omega, by omega⟩ ⟨by omega, by omega⟩ h hI.1) mxP_ex (mxE_ise ⟨⟨by omega, by omega⟩, ⟨by omega, by omega⟩, ⟨by omega, by omega⟩, by omega, by omega⟩)) gL_isLettered_L_corrected rfl hd89_L_corrected ⟨Nat.le_of_ble_eq_true rfl, Nat.le_of_ble_eq_true rfl⟩ rfl (Nat.le_of_ble_eq_true rfl) dL_isLettered_481 (rfl : 481 + 3 = 484) rfl rfl ⟨by show 6 ≤ 8; omega, by show 240 ≤ 300; omega⟩ ?_ rfl
  rintro v w (⟨hP, rfl, hm⟩ | ⟨hbad, -, -⟩)
  rotate_left
  · exact (hbad ⟨h1, h2, h3, by omega⟩).elim
  obtain ⟨L', K', I', F', R', N', O', T', g', rfl, hg, hR⟩ := hm
  refine z_v1 ?_
  refine z_iload C 0 rfl dL_isLettered_484 (rfl : 484 + 2 = 486) ?_
  refine z_if_eq (pt := 498) C dL_isLettered_486 (by decide) (rfl : 486 + 3 = 489) (iI_eq0 (by decide)).1 (fun q => mt (iI_eq0 (by decide)).2 q) (fun c2 => ?_) (fun c2 => ?_)
  · exact absurd c2 (by decide)
  refine z_aload C 10 rfl dL_isLettered_489 (rfl : 489 + 2 = 491) ?_
  refine z_iconst C dL_isLettered_491 (rfl : 491 + 1 = 492) ?_
  refine z_iald C lwm_8 ⟨by omega, by omega⟩ (by omega) (rdA hW2.1.2.2.2.1 (by omega)) dL_isLettered_492 (rfl : 492 + 1 = 493) ?_
  refine z_iconst C dL_isLettered_493 (rfl : 493 + 1 = 494) ?_
  refine z_isub C dL_isLettered_494 (rfl : 494 + 1 = 495) rfl ?_
  refine z_goto (pc' := 500) C dL_isLettered_495 (by decide) ?_
  refine z_same (pt := 507) C (congrArg iI (by omega)) dL_isLettered_500 (by decide) (rfl : 500 + 3 = 503) ?_
  refine z_iconst C dL_isLettered_503 (rfl : 503 + 1 = 504) ?_
  refine z_goto (pc' := 508) C dL_isLettered_504 (by decide) ?_
  exact z_zret C rfl (.inr rfl) dL_isLettered_508 (hq _ ⟨_, _, _, _, _, _, L', K', I', F', R', N', O', T', g', rfl, hg, hR _ rfl, hI2, hW2, hD⟩) (by omega) (by omega)
theorem tl_L_corr (C : Cx κ cL_isLettered 15 wsL_isLettered RL (some .boolean) rmL_isLettered G base) {D z : Int} {way : Nat} {c y u k : Nat} {i : Int} (hc : c < n) (hy : y < 5) (hu : u < n) (hk : k < 12) (hz : 0 ≤ z ∧ z < 20000000) (h : RX (gde G) L K I F R N O T g V n m t) (hI : LInv V n m t) (hW : LWr V n m t B A) (hD : V 9 0 ≤ D) (hq : ∀ w, INV5 G q (g 6 0) D w → post (some (.int (iI 1))) w) (hmc : mc = 8) (hms : ms = 300) : Z κ 15 G base mc ms post exc 0 0 313 [(12, .int (iI i)), (11, .int (iI (k : Int))), (10, .int (iI (u : Int))), (9, .int (iI (y : Int))), (8, .int (iI (c : Int))), (0, .ref (g 6 0)), (1, .ref (q 0)), (2, .ref (q 1)), (3, .ref (q 3)), (4, .ref (q 4)), (5, .ref (q 8)), (6, .int (iI (way : Int))), (7, .int (iI z))] [] (pw G (lwW G q B A) L K I F R N O) := by
  have hb := hI.2.2.1
  have wc := hI.1.2.2.2.2.2.1 c hc
  have wu := hI.1.2.2.2.2.2.1 u hu
  have rc := hI.rd hc hk
  have ru := hI.rd hu hk
  have hm3 := hW.1.2.2.2.1
  have k0 : ¬ (V 4 c = (y : Int) ∧ V 4 u = (y : Int) ∧ V 0 (24 * c + plc k) ≠ V 0 (24 * u + plc k)) → Z κ 15 G base mc ms post exc 0 0 364 [(12, .int (iI i)), (11, .int (iI (k : Int))), (10, .int (iI (u : Int))), (9, .int (iI (y : Int))), (8, .int (iI (c : Int))), (0, .ref (g 6 0)), (1, .ref (q 0)), (2, .ref (q 1)), (3, .ref (q 3)), (4, .ref (q 4)), (5, .ref (q 8)), (6, .int (iI (way : Int))), (7, .int (iI z))] [] (pw G (lwW G q B A) L K I F R N O) := by
    intro hno
    refine z_iconst C dL_isLettered_364 (rfl : 364 + 1 = 365) ?_
    refine z_istore (lv' := [(12, _), (11, _), (10, _), (9, _), (8, _), (0, _), (1, _), (2, _), (3, _), (4, _), (5, _), (6, _), (7, _)]) C dL_isLettered_365 (rfl : 365 + 2 = 367) (by decide) rfl ?_
    refine z_aload C 10 rfl dL_isLettered_367 (rfl : 367 + 2 = 369) ?_
    refine z_iconst C dL_isLettered_369 (rfl : 369 + 1 = 370) ?_
    refine z_iald C lwm_8 ⟨by omega, by omega⟩ (by omega) (rdA hm3 (by omega)) dL_isLettered_370 (rfl : 370 + 1 = 371) ?_
    refine z_bipush (c := 40) C (by decide) dL_isLettered_371 (rfl : 371 + 2 = 373) ?_
    refine z_icmp_ne (pt := 383) C dL_isLettered_373 (by decide) (rfl : 373 + 3 = 376) (fun q => mt (iI_eq (by omega) (by omega)).2 q) (iI_eq (by omega) (by omega)).1 (fun c4 => ?_) (fun c4 => ?_)
    · refine z_iload C 0 rfl dL_isLettered_383 (rfl : 383 + 2 = 385) ?_
      refine z_if_eq (pt := 469) C dL_isLettered_385 (by decide) (rfl : 385 + 3 = 388) (iI_eq0 (by decide)).1 (fun q => mt (iI_eq0 (by decide)).2 q) (fun c5 => ?_) (fun c5 => ?_)
      rotate_left
      · exact absurd rfl c5
      exact tl_L_corr0 C hc hy hu hk hno hz h hI hW hD hq hmc hms
    · refine z_iload C 0 rfl dL_isLettered_376 (rfl : 376 + 2 = 378) ?_
      refine z_if_eq (pt := 383) C dL_isLettered_378 (by decide) (rfl : 378 + 3 = 381) (iI_eq0 (by decide)).1 (fun q => mt (iI_eq0 (by decide)).2 q) (fun c5 => ?_) (fun c5 => ?_)
      rotate_left
      · exact absurd rfl c5
      refine z_iload C 0 rfl dL_isLettered_383 (rfl : 383 + 2 = 385) ?_
      refine z_if_eq (pt := 469) C dL_isLettered_385 (by decide) (rfl : 385 + 3 = 388) (iI_eq0 (by decide)).1 (fun q => mt (iI_eq0 (by decide)).2 q) (fun c6 => ?_) (fun c6 => ?_)
      rotate_left
      · exact absurd rfl c6
      exact tl_L_corr0 C hc hy hu hk hno hz h hI hW hD hq hmc hms
  refine z_aload_n C 7 rfl rfl dL_isLettered_313 (rfl : 313 + 1 = 314) ?_
  refine z_iconst C dL_isLettered_314 (rfl : 314 + 1 = 315) ?_
  refine z_iload C 4 rfl dL_isLettered_315 (rfl : 315 + 2 = 317) ?_
  refine z_imul C dL_isLettered_317 (rfl : 317 + 1 = 318) rfl ?_
  refine z_iconst C dL_isLettered_318 (rfl : 318 + 1 = 319) ?_
  refine z_iadd C dL_isLettered_319 (rfl : 319 + 1 = 320) rfl ?_
  refine z_iald C lwm_1 ⟨by omega, by omega⟩ (by omega) (rdA (hW.2.2.1 c hc).2.2.2 (by omega)) dL_isLettered_320 (rfl : 320 + 1 = 321) ?_
  refine z_iload C 3 rfl dL_isLettered_321 (rfl : 321 + 2 = 323) ?_
  refine z_icmp_ne (pt := 364) C dL_isLettered_323 (by decide) (rfl : 323 + 3 = 326) (fun q => mt (iI_eq (by omega) (by omega)).2 q) (iI_eq (by omega) (by omega)).1 (fun c1 => ?_) (fun c1 => ?_)
  · exact k0 (fun hh => c1 hh.1)
  refine z_aload_n C 7 rfl rfl dL_isLettered_326 (rfl : 326 + 1 = 327) ?_
  refine z_iconst C dL_isLettered_327 (rfl : 327 + 1 = 328) ?_
  refine z_iload C 2 rfl dL_isLettered_328 (rfl : 328 + 2 = 330) ?_
  refine z_imul C dL_isLettered_330 (rfl : 330 + 1 = 331) rfl ?_
  refine z_iconst C dL_isLettered_331 (rfl : 331 + 1 = 332) ?_
  refine z_iadd C dL_isLettered_332 (rfl : 332 + 1 = 333) rfl ?_
  refine z_iald C lwm_1 ⟨by omega, by omega⟩ (by omega) (rdA (hW.2.2.1 u hu).2.2.2 (by omega)) dL_isLettered_333 (rfl : 333 + 1 = 334) ?_
  refine z_iload C 3 rfl dL_isLettered_334 (rfl : 334 + 2 = 336) ?_
  refine z_icmp_ne (pt := 364) C dL_isLettered_336 (by decide) (rfl : 336 + 3 = 339) (fun q => mt (iI_eq (by omega) (by omega)).2 q) (iI_eq (by omega) (by omega)).1 (fun c2 => ?_) (fun c2 => ?_)
  · exact k0 (fun hh => c2 hh.2.1)
  refine z_aload_n C 6 rfl rfl dL_isLettered_339 (rfl : 339 + 1 = 340) ?_
  refine z_iload C 4 rfl dL_isLettered_340 (rfl : 340 + 2 = 342) ?_
  refine z_lald (x := B 0 (c)) C lwm_0 ⟨by omega, by omega⟩ (by omega) (congrArg (B 0) (by omega)) dL_isLettered_342 (rfl : 342 + 1 = 343) ?_
  refine z_iload C 1 rfl dL_isLettered_343 (rfl : 343 + 2 = 345) ?_
  refine z_callS C (0) (0) (c_L_get (k := k)) gL_isLettered_L_get rfl hd89_L_get ⟨Nat.le_of_ble_eq_true rfl, Nat.le_of_ble_eq_true rfl⟩ rfl (Nat.le_of_ble_eq_true rfl) dL_isLettered_345 (rfl : 345 + 3 = 348) rfl rfl ⟨by show 0 ≤ 8; omega, by show 0 ≤ 300; omega⟩ (fun _ _ h => h.elim) ?_ rfl
  rintro _ _ ⟨rfl, rfl⟩
  refine z_v1 (z_topi (hW.2.1 c hc k hk) ?_)
  refine z_aload_n C 6 rfl rfl dL_isLettered_348 (rfl : 348 + 1 = 349) ?_
  refine z_iload C 2 rfl dL_isLettered_349 (rfl : 349 + 2 = 351) ?_
  refine z_lald (x := B 0 (u)) C lwm_0 ⟨by omega, by omega⟩ (by omega) (congrArg (B 0) (by omega)) dL_isLettered_351 (rfl : 351 + 1 = 352) ?_
  refine z_iload C 1 rfl dL_isLettered_352 (rfl : 352 + 2 = 354) ?_
  refine z_callS C (0) (0) (c_L_get (k := k)) gL_isLettered_L_get rfl hd89_L_get ⟨Nat.le_of_ble_eq_true rfl, Nat.le_of_ble_eq_true rfl⟩ rfl (Nat.le_of_ble_eq_true rfl) dL_isLettered_354 (rfl : 354 + 3 = 357) rfl rfl ⟨by show 0 ≤ 8; omega, by show 0 ≤ 300; omega⟩ (fun _ _ h => h.elim) ?_ rfl
  rintro _ _ ⟨rfl, rfl⟩
  refine z_v1 (z_topi (hW.2.1 u hu k hk) ?_)
  refine z_icmp_eq (pt := 364) C dL_isLettered_357 (by decide) (rfl : 357 + 3 = 360) (iI_eq (by omega) (by omega)).1 (fun q => mt (iI_eq (by omega) (by omega)).2 q) (fun c3 => ?_) (fun c3 => ?_)
  · exact k0 (fun hh => hh.2.2 c3)
  refine z_iconst C dL_isLettered_360 (rfl : 360 + 1 = 361) ?_
  refine z_goto (pc' := 365) C dL_isLettered_361 (by decide) ?_
  refine z_istore (lv' := [(12, _), (11, _), (10, _), (9, _), (8, _), (0, _), (1, _), (2, _), (3, _), (4, _), (5, _), (6, _), (7, _)]) C dL_isLettered_365 (rfl : 365 + 2 = 367) (by decide) rfl ?_
  refine z_aload C 10 rfl dL_isLettered_367 (rfl : 367 + 2 = 369) ?_
  refine z_iconst C dL_isLettered_369 (rfl : 369 + 1 = 370) ?_
  refine z_iald C lwm_8 ⟨by omega, by omega⟩ (by omega) (rdA hm3 (by omega)) dL_isLettered_370 (rfl : 370 + 1 = 371) ?_
  refine z_bipush (c := 40) C (by decide) dL_isLettered_371 (rfl : 371 + 2 = 373) ?_
  refine z_icmp_ne (pt := 383) C dL_isLettered_373 (by decide) (rfl : 373 + 3 = 376) (fun q => mt (iI_eq (by omega) (by omega)).2 q) (iI_eq (by omega) (by omega)).1 (fun c4 => ?_) (fun c4 => ?_)
  · refine z_iload C 0 rfl dL_isLettered_383 (rfl : 383 + 2 = 385) ?_
    refine z_if_eq (pt := 469) C dL_isLettered_385 (by decide) (rfl : 385 + 3 = 388) (iI_eq0 (by decide)).1 (fun q => mt (iI_eq0 (by decide)).2 q) (fun c5 => ?_) (fun c5 => ?_)
    · exact absurd c5 (by decide)
    exact tl_L_corr1 C hc hy hu hk c1 c2 c3 (by omega) hz h hI hW hD hq hmc hms
  · refine z_iload C 0 rfl dL_isLettered_376 (rfl : 376 + 2 = 378) ?_
    refine z_if_eq (pt := 383) C dL_isLettered_378 (by decide) (rfl : 378 + 3 = 381) (iI_eq0 (by decide)).1 (fun q => mt (iI_eq0 (by decide)).2 q) (fun c5 => ?_) (fun c5 => ?_)
    · exact absurd c5 (by decide)
    refine z_iconst C dL_isLettered_381 (rfl : 381 + 1 = 382) ?_
    exact z_zret C rfl (.inr rfl) dL_isLettered_382 (hq _ ⟨V, n, m, t, B, A, L, K, I, F, R, N, O, T, g, rfl, rfl, h, hI, hW, hD⟩) (by omega) (by omega)
theorem lp_L_corr (C : Cx κ cL_isLettered 15 wsL_isLettered RL (some .boolean) rmL_isLettered G base) {D z : Int} {way : Nat} {c y u : Nat} (hc : c < n) (hy : y < 5) (hu : u < n) (hway : way < 5) (hz : 0 ≤ z ∧ z < 20000000) (h : RX (gde G) L K I F R N O T g V n m t) (hI : LInv V n m t) (hW : LWr V n m t B A) (hD : V 9 0 ≤ D) (hq : ∀ w, INV5 G q (g 6 0) D w → post (some (.int (iI 1))) w) (hmc : mc = 8) (hms : ms = 300) :
    ∀ (d i k : Nat), i + d = 12 → k < 12 → Z κ 15 G base mc ms post exc 0 0 264 [(12, .int (iI (i : Int))), (11, .int (iI (k : Int))), (10, .int (iI (u : Int))), (9, .int (iI (y : Int))), (8, .int (iI (c : Int))), (0, .ref (g 6 0)), (1, .ref (q 0)), (2, .ref (q 1)), (3, .ref (q 3)), (4, .ref (q 4)), (5, .ref (q 8)), (6, .int (iI (way : Int))), (7, .int (iI z))] [] (pw G (lwW G q B A) L K I F R N O) := by
  have hb := hI.2.2.1
  intro d
  induction d with
  | zero =>
    intro i k hi hk
    refine z_iload C 0 rfl dL_isLettered_264 (rfl : 264 + 2 = 266) ?_
    refine z_bipush (c := 12) C (by decide) dL_isLettered_266 (rfl : 266 + 2 = 268) ?_
    refine z_icmp_ge (pt := 313) C dL_isLettered_268 (by decide) (rfl : 268 + 3 = 271) (iI_le (by omega) (by omega)).1 (fun q => mt (iI_le (by omega) (by omega)).2 q) (fun c1 => ?_) (fun c1 => ?_)
    · exact tl_L_corr C hc hy hu hk hz h hI hW hD hq hmc hms
    · exact absurd c1 (by omega)
  | succ d ih =>
    intro i k hi hk
    have rc := hI.rd hc hk
    have ru := hI.rd hu hk
    refine z_iload C 0 rfl dL_isLettered_264 (rfl : 264 + 2 = 266) ?_
    refine z_bipush (c := 12) C (by decide) dL_isLettered_266 (rfl : 266 + 2 = 268) ?_
    refine z_icmp_ge (pt := 313) C dL_isLettered_268 (by decide) (rfl : 268 + 3 = 271) (iI_le (by omega) (by omega)).1 (fun q => mt (iI_le (by omega) (by omega)).2 q) (fun c1 => ?_) (fun c1 => ?_)
    · exact absurd c1 (by omega)
    refine z_iload C 11 rfl dL_isLettered_271 (rfl : 271 + 2 = 273) ?_
    refine z_iconst C dL_isLettered_273 (rfl : 273 + 1 = 274) ?_
    refine z_icmp_ne (pt := 313) C dL_isLettered_274 (by decide) (rfl : 274 + 3 = 277) (fun q => mt (iI_eq (by omega) (by omega)).2 q) (iI_eq (by omega) (by omega)).1 (fun c2 => ?_) (fun c2 => ?_)
    · exact tl_L_corr C hc hy hu hk hz h hI hW hD hq hmc hms
    refine z_aload_n C 6 rfl rfl dL_isLettered_277 (rfl : 277 + 1 = 278) ?_
    refine z_iload C 4 rfl dL_isLettered_278 (rfl : 278 + 2 = 280) ?_
    refine z_lald (x := B 0 (c)) C lwm_0 ⟨by omega, by omega⟩ (by omega) (congrArg (B 0) (by omega)) dL_isLettered_280 (rfl : 280 + 1 = 281) ?_
    refine z_iload C 1 rfl dL_isLettered_281 (rfl : 281 + 2 = 283) ?_
    refine z_callS C (0) (0) (c_L_get (k := k)) gL_isLettered_L_get rfl hd89_L_get ⟨Nat.le_of_ble_eq_true rfl, Nat.le_of_ble_eq_true rfl⟩ rfl (Nat.le_of_ble_eq_true rfl) dL_isLettered_283 (rfl : 283 + 3 = 286) rfl rfl ⟨by show 0 ≤ 8; omega, by show 0 ≤ 300; omega⟩ (fun _ _ h => h.elim) ?_ rfl
    rintro _ _ ⟨rfl, rfl⟩
    refine z_v1 (z_topi (hW.2.1 c hc k hk) ?_)
    refine z_aload_n C 6 rfl rfl dL_isLettered_286 (rfl : 286 + 1 = 287) ?_
    refine z_iload C 2 rfl dL_isLettered_287 (rfl : 287 + 2 = 289) ?_
    refine z_lald (x := B 0 (u)) C lwm_0 ⟨by omega, by omega⟩ (by omega) (congrArg (B 0) (by omega)) dL_isLettered_289 (rfl : 289 + 1 = 290) ?_
    refine z_iload C 1 rfl dL_isLettered_290 (rfl : 290 + 2 = 292) ?_
    refine z_callS C (0) (0) (c_L_get (k := k)) gL_isLettered_L_get rfl hd89_L_get ⟨Nat.le_of_ble_eq_true rfl, Nat.le_of_ble_eq_true rfl⟩ rfl (Nat.le_of_ble_eq_true rfl) dL_isLettered_292 (rfl : 292 + 3 = 295) rfl rfl ⟨by show 0 ≤ 8; omega, by show 0 ≤ 300; omega⟩ (fun _ _ h => h.elim) ?_ rfl
    rintro _ _ ⟨rfl, rfl⟩
    refine z_v1 (z_topi (hW.2.1 u hu k hk) ?_)
    refine z_icmp_ne (pt := 313) C dL_isLettered_295 (by decide) (rfl : 295 + 3 = 298) (fun q => mt (iI_eq (by omega) (by omega)).2 q) (iI_eq (by omega) (by omega)).1 (fun c3 => ?_) (fun c3 => ?_)
    · exact tl_L_corr C hc hy hu hk hz h hI hW hD hq hmc hms
    obtain ⟨k2, ek2⟩ : ∃ k2 : Nat, ((k : Int) + 1) % 12 = (k2 : Int) := ⟨(((k : Int) + 1) % 12).toNat, by omega⟩
    refine z_iload C 1 rfl dL_isLettered_298 (rfl : 298 + 2 = 300) ?_
    refine z_iconst C dL_isLettered_300 (rfl : 300 + 1 = 301) ?_
    refine z_iadd C dL_isLettered_301 (rfl : 301 + 1 = 302) rfl ?_
    refine z_bipush (c := 12) C (by decide) dL_isLettered_302 (rfl : 302 + 2 = 304) ?_
    refine z_irem C ⟨by omega, by omega⟩ ⟨by omega, by omega⟩ rfl dL_isLettered_304 (rfl : 304 + 1 = 305) ?_
    refine z_topi (y := iI (k2 : Int)) (congrArg iI ek2) ?_
    refine z_istore (lv' := [(11, _), (12, _), (10, _), (9, _), (8, _), (0, _), (1, _), (2, _), (3, _), (4, _), (5, _), (6, _), (7, _)]) C dL_isLettered_305 (rfl : 305 + 2 = 307) (by decide) rfl ?_
    refine z_iinc (lv' := [(12, _), (11, _), (10, _), (9, _), (8, _), (0, _), (1, _), (2, _), (3, _), (4, _), (5, _), (6, _), (7, _)]) C 1 dL_isLettered_307 (rfl : 307 + 3 = 310) rfl rfl (by decide) rfl ?_
    refine z_goto (pc' := 264) C dL_isLettered_310 (by decide) ?_
    exact z_sub [0, 1, 2, 3, 4, 5, 6, 7, 8, 9, 10, 11, 12] rfl (ih (i + 1) k2 (by omega) (by omega))
theorem c_L_isLettered {D z : Int} {way : Nat} (hway : way < 5) (hz : 0 ≤ z ∧ z < 20000000) (h : RX (gde G) L K I F R N O T g V n m t) (hI : LInv V n m t) (hW : LWr V n m t B A) (hD : V 9 0 ≤ D) : MC l yL_isLettered wsL_isLettered rmL_isLettered G base [.ref (g 6 0), .ref (q 0), .ref (q 1), .ref (q 3), .ref (q 4), .ref (q 8), .int (iI (way : Int)), .int (iI z)] (pw G (lwW G q B A) L K I F R N O) (fun v w => v = some (.int (iI 1)) ∧ INV5 G q (g 6 0) D w) (fun _ _ => False) := by
  refine MC.of (cc := cL_isLettered) (by decide) rfl rfl (Nat.le_of_ble_eq_true rfl) ?_
  intro κ C hT hl hnm
  have hb := hI.2.2.1
  have hn1 := hI.1.2.1
  have j1 := Int.emod_nonneg z (show (n : Int) ≠ 0 by omega)
  have j2 := Int.emod_lt_of_pos z (show 0 < (n : Int) by omega)
  obtain ⟨c, ec⟩ : ∃ c : Nat, z % (n : Int) = (c : Int) := ⟨(z % (n : Int)).toNat, by omega⟩
  have hc : c < n := by omega
  have i1 := Int.emod_nonneg (z / 400) (show (n : Int) ≠ 0 by omega)
  have i2 := Int.emod_lt_of_pos (z / 400) (show 0 < (n : Int) by omega)
  obtain ⟨u, eu⟩ : ∃ u : Nat, z / 400 % (n : Int) = (u : Int) := ⟨(z / 400 % (n : Int)).toNat, by omega⟩
  have w6 := hI.1.2.2.2.2.2.1 c hc
  refine z_sub [0, 1, 2, 3, 4, 5, 6, 7] (lv' := [(0, .ref (g 6 0)), (1, .ref (q 0)), (2, .ref (q 1)), (3, .ref (q 3)), (4, .ref (q 4)), (5, .ref (q 8)), (6, .int (iI (way : Int))), (7, .int (iI z))]) rfl ?_
  have k37 : ∀ y0 : Int, 0 ≤ y0 ∧ y0 < 5 → Z κ 15 G base rmL_isLettered.cells rmL_isLettered.slots (fun v w => v = some (.int (iI 1)) ∧ INV5 G q (g 6 0) D w) (fun _ _ => False) 0 0 37 [(8, .int (iI (c : Int))), (0, .ref (g 6 0)), (1, .ref (q 0)), (2, .ref (q 1)), (3, .ref (q 3)), (4, .ref (q 4)), (5, .ref (q 8)), (6, .int (iI (way : Int))), (7, .int (iI z))] [.int (iI y0)] (pw G (lwW G q B A) L K I F R N O) := by
    intro y0 hy0
    obtain ⟨y, rfl⟩ : ∃ y : Nat, y0 = (y : Int) := ⟨y0.toNat, by omega⟩
    refine z_istore (lv' := [(9, _), (8, _), (0, _), (1, _), (2, _), (3, _), (4, _), (5, _), (6, _), (7, _)]) C dL_isLettered_37 (rfl : 37 + 2 = 39) (by decide) rfl ?_
    refine z_iload C 8 rfl dL_isLettered_39 (rfl : 39 + 2 = 41) ?_
    refine z_if_ne (pt := 237) C dL_isLettered_41 (by decide) (rfl : 41 + 3 = 44) (fun q => mt (iI_eq0 (by omega)).2 q) (iI_eq0 (by omega)).1 (fun c1 => ?_) (fun c1 => ?_)
    rotate_left
    · exact tl_L_work C hc (by omega) hz h hI hW hD (fun w hw => ⟨rfl, hw⟩) rfl rfl
    refine z_iload C 9 rfl dL_isLettered_237 (rfl : 237 + 2 = 239) ?_
    refine z_sipush (c := 400) C (by decide) dL_isLettered_239 (rfl : 239 + 3 = 242) ?_
    refine z_iquo C ⟨by omega, by omega⟩ ⟨by omega, by omega⟩ rfl dL_isLettered_242 (rfl : 242 + 1 = 243) ?_
    refine z_aload C 7 rfl dL_isLettered_243 (rfl : 243 + 2 = 245) ?_
    refine z_iconst C dL_isLettered_245 (rfl : 245 + 1 = 246) ?_
    refine z_iald C lwm_8 ⟨by omega, by omega⟩ (by omega) (rdA hW.1.1 (by omega)) dL_isLettered_246 (rfl : 246 + 1 = 247) ?_
    refine z_irem C ⟨by omega, by omega⟩ ⟨by omega, by omega⟩ rfl dL_isLettered_247 (rfl : 247 + 1 = 248) ?_
    refine z_topi (y := iI (u : Int)) (congrArg iI eu) ?_
    obtain ⟨k, ek⟩ : ∃ k : Nat, z / 6400 % 12 = (k : Int) := ⟨(z / 6400 % 12).toNat, by omega⟩
    refine z_istore (lv' := [(10, _), (9, _), (8, _), (0, _), (1, _), (2, _), (3, _), (4, _), (5, _), (6, _), (7, _)]) C dL_isLettered_248 (rfl : 248 + 2 = 250) (by decide) rfl ?_
    refine z_iload C 10 rfl dL_isLettered_250 (rfl : 250 + 2 = 252) ?_
    refine z_sipush (c := 6400) C (by decide) dL_isLettered_252 (rfl : 252 + 3 = 255) ?_
    refine z_iquo C ⟨by omega, by omega⟩ ⟨by omega, by omega⟩ rfl dL_isLettered_255 (rfl : 255 + 1 = 256) ?_
    refine z_bipush (c := 12) C (by decide) dL_isLettered_256 (rfl : 256 + 2 = 258) ?_
    refine z_irem C ⟨by omega, by omega⟩ ⟨by omega, by omega⟩ rfl dL_isLettered_258 (rfl : 258 + 1 = 259) ?_
    refine z_topi (y := iI (k : Int)) (congrArg iI ek) ?_
    refine z_istore (lv' := [(11, _), (10, _), (9, _), (8, _), (0, _), (1, _), (2, _), (3, _), (4, _), (5, _), (6, _), (7, _)]) C dL_isLettered_259 (rfl : 259 + 2 = 261) (by decide) rfl ?_
    refine z_iconst C dL_isLettered_261 (rfl : 261 + 1 = 262) ?_
    refine z_istore (lv' := [(12, _), (11, _), (10, _), (9, _), (8, _), (0, _), (1, _), (2, _), (3, _), (4, _), (5, _), (6, _), (7, _)]) C dL_isLettered_262 (rfl : 262 + 2 = 264) (by decide) rfl ?_
    exact lp_L_corr C hc (by omega) (by omega) hway hz h hI hW hD (fun w hw => ⟨rfl, hw⟩) rfl rfl 12 0 k (by omega) (by omega)
  refine z_iload C 7 rfl dL_isLettered_0 (rfl : 0 + 2 = 2) ?_
  refine z_aload C 5 rfl dL_isLettered_2 (rfl : 2 + 2 = 4) ?_
  refine z_iconst C dL_isLettered_4 (rfl : 4 + 1 = 5) ?_
  refine z_iald C lwm_8 ⟨by omega, by omega⟩ (by omega) (rdA hW.1.1 (by omega)) dL_isLettered_5 (rfl : 5 + 1 = 6) ?_
  refine z_irem C ⟨by omega, by omega⟩ ⟨by omega, by omega⟩ rfl dL_isLettered_6 (rfl : 6 + 1 = 7) ?_
  refine z_topi (y := iI (c : Int)) (congrArg iI ec) ?_
  refine z_istore (lv' := [(8, _), (0, _), (1, _), (2, _), (3, _), (4, _), (5, _), (6, _), (7, _)]) C dL_isLettered_7 (rfl : 7 + 2 = 9) (by decide) rfl ?_
  refine z_iload C 8 rfl dL_isLettered_9 (rfl : 9 + 2 = 11) ?_
  refine z_bipush (c := 16) C (by decide) dL_isLettered_11 (rfl : 11 + 2 = 13) ?_
  refine z_iquo C ⟨by omega, by omega⟩ ⟨by omega, by omega⟩ rfl dL_isLettered_13 (rfl : 13 + 1 = 14) ?_
  refine z_iconst C dL_isLettered_14 (rfl : 14 + 1 = 15) ?_
  refine z_irem C ⟨by omega, by omega⟩ ⟨by omega, by omega⟩ rfl dL_isLettered_15 (rfl : 15 + 1 = 16) ?_
  refine z_if_le (pt := 30) C dL_isLettered_16 (by decide) (rfl : 16 + 3 = 19) (iI_le0 (by omega)).1 (fun q => mt (iI_le0 (by omega)).2 q) (fun c1 => ?_) (fun c1 => ?_)
  · refine z_iload C 8 rfl dL_isLettered_30 (rfl : 30 + 2 = 32) ?_
    refine z_bipush (c := 80) C (by decide) dL_isLettered_32 (rfl : 32 + 2 = 34) ?_
    refine z_iquo C ⟨by omega, by omega⟩ ⟨by omega, by omega⟩ rfl dL_isLettered_34 (rfl : 34 + 1 = 35) ?_
    refine z_iconst C dL_isLettered_35 (rfl : 35 + 1 = 36) ?_
    refine z_irem C ⟨by omega, by omega⟩ ⟨by omega, by omega⟩ rfl dL_isLettered_36 (rfl : 36 + 1 = 37) ?_
    exact k37 _ ⟨by omega, by omega⟩
  · refine z_aload_n C 3 rfl rfl dL_isLettered_19 (rfl : 19 + 1 = 20) ?_
    refine z_iconst C dL_isLettered_20 (rfl : 20 + 1 = 21) ?_
    refine z_iload C 0 rfl dL_isLettered_21 (rfl : 21 + 2 = 23) ?_
    refine z_imul C dL_isLettered_23 (rfl : 23 + 1 = 24) rfl ?_
    refine z_iconst C dL_isLettered_24 (rfl : 24 + 1 = 25) ?_
    refine z_iadd C dL_isLettered_25 (rfl : 25 + 1 = 26) rfl ?_
    refine z_iald C lwm_1 ⟨by omega, by omega⟩ (by omega) (rdA (hW.2.2.1 c hc).2.2.2 (by omega)) dL_isLettered_26 (rfl : 26 + 1 = 27) ?_
    refine z_goto (pc' := 37) C dL_isLettered_27 (by decide) ?_
    exact k37 _ w6.2
end
