theorem lX6_copy_f7 : Cond.fieldLink RX6 7 "ModelCopiesModel" "readings" "[I" ∈ wsX6_copy := by decide +kernel
theorem iX6_copy_X6 : ∀ w ∈ wsX60, w ∈ wsX6_copy := by decide +kernel
theorem lX6_copy_f33 : Cond.fieldLink RX6 33 "ModelCopiesModel" "slips" "[I" ∈ wsX6_copy := by decide +kernel
theorem lX6_copy_f30 : Cond.fieldLink RX6 30 "ModelCopiesModel" "draft" "[I" ∈ wsX6_copy := by decide +kernel
theorem lX6_copy_f26 : Cond.fieldLink RX6 26 "ModelCopiesModel" "copies" "I" ∈ wsX6_copy := by decide +kernel
theorem hd47_X6_isCopy : yX6_isCopy.cls = RX6 ∧ yX6_isCopy.cls ≠ "java/lang/invoke/MethodHandle" ∧ yX6_isCopy.cls ≠ "java/lang/invoke/VarHandle" ∧ (parseMethodDescriptor yX6_isCopy.desc).map (fun d => d.parameters.length) = some 1 := by decide +kernel
theorem hd47_X6_goes : yX6_goes.cls = RX6 ∧ yX6_goes.cls ≠ "java/lang/invoke/MethodHandle" ∧ yX6_goes.cls ≠ "java/lang/invoke/VarHandle" ∧ (parseMethodDescriptor yX6_goes.desc).map (fun d => d.parameters.length) = some 3 := by decide +kernel
theorem hd47_X6_isScribe : yX6_isScribe.cls ≠ "java/lang/invoke/MethodHandle" ∧ yX6_isScribe.cls ≠ "java/lang/invoke/VarHandle" ∧ (parseMethodDescriptor yX6_isScribe.desc).map (fun d => d.parameters.length) = some 1 := by decide +kernel
theorem hd47_X6_isHouse : yX6_isHouse.cls ≠ "java/lang/invoke/MethodHandle" ∧ yX6_isHouse.cls ≠ "java/lang/invoke/VarHandle" ∧ (parseMethodDescriptor yX6_isHouse.desc).map (fun d => d.parameters.length) = some 1 := by decide +kernel
theorem lX6_copy_f23 : Cond.fieldLink RX6 23 "ModelCopiesModel" "houses" "[I" ∈ wsX6_copy := by decide +kernel
theorem lX6_copy_f92 : Cond.fieldLink RX6 92 "ModelCopiesModel" "drafted" "I" ∈ wsX6_copy := by decide +kernel
theorem lX6_copy_f13 : Cond.fieldLink RX6 13 "ModelCopiesModel" "models" "[I" ∈ wsX6_copy := by decide +kernel
theorem lX6_copy_f16 : Cond.fieldLink RX6 16 "ModelCopiesModel" "told" "[Z" ∈ wsX6_copy := by decide +kernel
theorem lX6_copy_f20 : Cond.fieldLink RX6 20 "ModelCopiesModel" "owners" "[I" ∈ wsX6_copy := by decide +kernel
section
variable {κ : KxT} {G : GG} {base mc ms : Nat} {post : Option Value → va_W → Prop} {exc : String → va_W → Prop} {q : Nat → Nat} {V : Nat → Nat → Int} {Y : va_W} {l : Launch}
variable {n m t : Nat}
abbrev rmX6_copy : Room := { frames := 3, cells := 0, slots := 0, locals := 80 }
theorem lp_X6_copy (C : Cx κ cX6_copy 8 wsX6_copy RX6 (some .int) rmX6_copy G base) {mi sc h : Nat} {b : Int} (hw : WFV V n m t) (hmi : mi < n) (hn : n < 40) (hsc : sc < 6)
    (kk : ∀ f0 f6 f8 : Nat → Int, cpR V n mi sc 24 f0 f6 f8 → Z κ 8 G base mc ms post exc 0 0 183 [(6, .int (iI ((24 : Nat) : Int))), (5, .int (iI 1)), (0, .ref (q 30)), (1, .int (iI (mi : Int))), (2, .int (iI (sc : Int))), (3, .int (iI (h : Int))), (4, .int (iI b))] [] (xm G q (va_up (va_up (va_up V 0 f0) 6 f6) 8 f8) ++ Y)) :
    ∀ (d k : Nat) (f0 f6 f8 : Nat → Int), k + d = 24 → cpR V n mi sc k f0 f6 f8 → Z κ 8 G base mc ms post exc 0 0 73 [(6, .int (iI (k : Int))), (5, .int (iI 1)), (0, .ref (q 30)), (1, .int (iI (mi : Int))), (2, .int (iI (sc : Int))), (3, .int (iI (h : Int))), (4, .int (iI b))] [] (xm G q (va_up (va_up (va_up V 0 f0) 6 f6) 8 f8) ++ Y) := by
  intro d
  induction d with
  | zero =>
    intro k f0 f6 f8 hk hf
    have e : k = 24 := by omega
    subst e
    refine z_iload C 0 rfl dX6_copy_73 (rfl : 73 + 2 = 75) ?_
    refine z_bipush (c := 24) C (by decide) dX6_copy_75 (rfl : 75 + 2 = 77) ?_
    refine z_icmp_ge (pt := 183) C dX6_copy_77 (by decide) (rfl : 77 + 3 = 80) (iI_le (by omega) (by omega)).1 (fun q => mt (iI_le (by omega) (by omega)).2 q) (fun c1 => ?_) (fun c1 => ?_)
    · exact kk f0 f6 f8 hf
    · exact absurd c1 (by omega)
  | succ d ih =>
    intro k f0 f6 f8 hk hf
    obtain ⟨g1, g2, g3, g4, g5, g6⟩ := hf
    have e0 : f0 (24 * mi + k) = V 0 (24 * mi + k) := g2 _ (fun j hj => by omega)
    have e6 : f6 k = V 6 k := g4 k (Nat.le_refl _)
    have r0 := hw.2.2.1 (24 * mi + k) (by omega)
    have r6 := hw.2.2.2.2.2.2.1 k (by omega)
    have nx : ∀ (its x y : Int), x = b01 (V 6 k ≠ -1 ∧ V 0 (24 * mi + k) ≠ V 6 k) → y = (if V 6 k = -1 then V 0 (24 * mi + k) else V 6 k) → Z κ 8 G base mc ms post exc 0 0 73 [(6, .int (iI ((k + 1 : Nat) : Int))), (7, .int (iI its)), (5, .int (iI 1)), (0, .ref (q 30)), (1, .int (iI (mi : Int))), (2, .int (iI (sc : Int))), (3, .int (iI (h : Int))), (4, .int (iI b))] [] (xm G q (va_up (va_up (va_up V 0 (va_up f0 (24 * n + k) y)) 6 (va_up f6 k (-1))) 8 (va_up f8 sc (f8 sc + x))) ++ Y) := fun its x y hx hy => by
      refine z_sub [0, 2, 3, 4, 5, 6, 7] (lv' := [(6, .int (iI ((k + 1 : Nat) : Int))), (5, .int (iI 1)), (0, .ref (q 30)), (1, .int (iI (mi : Int))), (2, .int (iI (sc : Int))), (3, .int (iI (h : Int))), (4, .int (iI b))]) rfl ?_
      refine ih (k + 1) _ _ _ (by omega) ⟨fun j hj => ?_, fun j hj => ?_, fun j hj => ?_, fun j hj => ?_, ?_, fun j hj => ?_⟩
      · by_cases e : j = k
        · subst e; rw [va_up_self]; exact hy
        · rw [va_up_ne _ _ (by omega)]; exact g1 j (by omega)
      · rw [va_up_ne _ _ (hj k (by omega))]; exact g2 j (fun z hz => hj z (by omega))
      · by_cases e : j = k
        · subst e; rw [va_up_self]
        · rw [va_up_ne _ _ e]; exact g3 j (by omega)
      · rw [va_up_ne _ _ (by omega)]; exact g4 j (by omega)
      · rw [va_up_self, g5, hx]
        simp only [wrn]
        show _ = V 8 sc + (wrn (rdV V mi) (V 6) k + b01 (V 6 k ≠ -1 ∧ V 0 (24 * mi + k) ≠ V 6 k))
        omega
      · rw [va_up_ne _ _ hj]; exact g6 j hj
    refine z_iload C 0 rfl dX6_copy_73 (rfl : 73 + 2 = 75) ?_
    refine z_bipush (c := 24) C (by decide) dX6_copy_75 (rfl : 75 + 2 = 77) ?_
    refine z_icmp_ge (pt := 183) C dX6_copy_77 (by decide) (rfl : 77 + 3 = 80) (iI_le (by omega) (by omega)).1 (fun q => mt (iI_le (by omega) (by omega)).2 q) (fun c1 => ?_) (fun c1 => ?_)
    · exact absurd c1 (by omega)
    refine z_aload_n C 2 rfl rfl dX6_copy_80 (rfl : 80 + 1 = 81) ?_
    refine z_get C xmm rfl iX6_copy_X6 0 (by decide) lX6_copy_f7 rfl rfl dX6_copy_81 (rfl : 81 + 3 = 84) ?_
    refine z_bipush (c := 24) C (by decide) dX6_copy_84 (rfl : 84 + 2 = 86) ?_
    refine z_iload_n C 3 rfl rfl dX6_copy_86 (rfl : 86 + 1 = 87) ?_
    refine z_imul C dX6_copy_87 (rfl : 87 + 1 = 88) rfl ?_
    refine z_iload C 0 rfl dX6_copy_88 (rfl : 88 + 2 = 90) ?_
    refine z_iadd C dX6_copy_90 (rfl : 90 + 1 = 91) rfl ?_
    refine z_iald C (x := iI (V 0 (24 * mi + k))) xmm_0 ⟨by omega, by omega⟩ (by omega) (by show iI (f0 (24 * mi + k)) = _; rw [e0]) dX6_copy_91 (rfl : 91 + 1 = 92) ?_
    refine z_istore (lv' := [(7, _), (6, _), (5, _), (0, _), (1, _), (2, _), (3, _), (4, _)]) C dX6_copy_92 (rfl : 92 + 2 = 94) (by decide) rfl ?_
    refine z_aload_n C 3 rfl rfl dX6_copy_94 (rfl : 94 + 1 = 95) ?_
    refine z_get C xmm rfl iX6_copy_X6 8 (by decide) lX6_copy_f33 rfl rfl dX6_copy_95 (rfl : 95 + 3 = 98) ?_
    refine z_iload_n C 5 rfl rfl dX6_copy_98 (rfl : 98 + 1 = 99) ?_
    refine z_dup2 C rfl rfl dX6_copy_99 (rfl : 99 + 1 = 100) ?_
    refine z_iald C (x := iI (f8 sc)) xmm_8 ⟨by omega, by omega⟩ (by omega) rfl dX6_copy_100 (rfl : 100 + 1 = 101) ?_
    refine z_aload_n C 3 rfl rfl dX6_copy_101 (rfl : 101 + 1 = 102) ?_
    refine z_get C xmm rfl iX6_copy_X6 6 (by decide) lX6_copy_f30 rfl rfl dX6_copy_102 (rfl : 102 + 3 = 105) ?_
    refine z_iload C 1 rfl dX6_copy_105 (rfl : 105 + 2 = 107) ?_
    refine z_iald C (x := iI (V 6 k)) xmm_6 ⟨by omega, by omega⟩ (by omega) (by show iI (f6 k) = _; rw [e6]) dX6_copy_107 (rfl : 107 + 1 = 108) ?_
    refine z_iconst C dX6_copy_108 (rfl : 108 + 1 = 109) ?_
    refine z_icmp_eq (pt := 128) C dX6_copy_109 (by decide) (rfl : 109 + 3 = 112) (iI_eq (by omega) (by omega)).1 (fun q => mt (iI_eq (by omega) (by omega)).2 q) (fun c2 => ?_) (fun c2 => ?_)
    · refine z_iconst C dX6_copy_128 (rfl : 128 + 1 = 129) ?_
      refine z_iadd C dX6_copy_129 (rfl : 129 + 1 = 130) rfl ?_
      refine z_iast C xmm_8 ⟨by omega, by omega⟩ (by omega) dX6_copy_130 (rfl : 130 + 1 = 131) (xms_8 (i := sc)) ?_
      rw [w3_8]
      refine z_aload_n C 3 rfl rfl dX6_copy_131 (rfl : 131 + 1 = 132) ?_
      refine z_get C xmm rfl iX6_copy_X6 0 (by decide) lX6_copy_f7 rfl rfl dX6_copy_132 (rfl : 132 + 3 = 135) ?_
      refine z_bipush (c := 24) C (by decide) dX6_copy_135 (rfl : 135 + 2 = 137) ?_
      refine z_aload_n C 3 rfl rfl dX6_copy_137 (rfl : 137 + 1 = 138) ?_
      refine z_get C xmm rfl iX6_copy_X6 5 (by decide) lX6_copy_f26 rfl rfl dX6_copy_138 (rfl : 138 + 3 = 141) ?_
      refine z_topi (y := iI ((n : Int))) (congrArg iI hw.1.1) ?_
      refine z_imul C dX6_copy_141 (rfl : 141 + 1 = 142) rfl ?_
      refine z_iload C 1 rfl dX6_copy_142 (rfl : 142 + 2 = 144) ?_
      refine z_iadd C dX6_copy_144 (rfl : 144 + 1 = 145) rfl ?_
      refine z_aload_n C 3 rfl rfl dX6_copy_145 (rfl : 145 + 1 = 146) ?_
      refine z_get C xmm rfl iX6_copy_X6 6 (by decide) lX6_copy_f30 rfl rfl dX6_copy_146 (rfl : 146 + 3 = 149) ?_
      refine z_iload C 1 rfl dX6_copy_149 (rfl : 149 + 2 = 151) ?_
      refine z_iald C (x := iI (V 6 k)) xmm_6 ⟨by omega, by omega⟩ (by omega) (by show iI (f6 k) = _; rw [e6]) dX6_copy_151 (rfl : 151 + 1 = 152) ?_
      refine z_iconst C dX6_copy_152 (rfl : 152 + 1 = 153) ?_
      refine z_icmp_ne (pt := 161) C dX6_copy_153 (by decide) (rfl : 153 + 3 = 156) (fun q => mt (iI_eq (by omega) (by omega)).2 q) (iI_eq (by omega) (by omega)).1 (fun c3 => ?_) (fun c3 => ?_)
      · exact absurd c2 c3
      refine z_iload C 0 rfl dX6_copy_156 (rfl : 156 + 2 = 158) ?_
      refine z_goto (pc' := 168) C dX6_copy_158 (by decide) ?_
      refine z_iast C xmm_0 ⟨by omega, by omega⟩ (by omega) dX6_copy_168 (rfl : 168 + 1 = 169) (xms_0 (i := 24 * n + k)) ?_
      rw [w3_0]
      refine z_aload_n C 3 rfl rfl dX6_copy_169 (rfl : 169 + 1 = 170) ?_
      refine z_get C xmm rfl iX6_copy_X6 6 (by decide) lX6_copy_f30 rfl rfl dX6_copy_170 (rfl : 170 + 3 = 173) ?_
      refine z_iload C 1 rfl dX6_copy_173 (rfl : 173 + 2 = 175) ?_
      refine z_iconst C dX6_copy_175 (rfl : 175 + 1 = 176) ?_
      refine z_iast C xmm_6 ⟨by omega, by omega⟩ (by omega) dX6_copy_176 (rfl : 176 + 1 = 177) (xms_6 (i := k)) ?_
      rw [w3_6]
      refine z_iinc (lv' := [(6, _), (7, _), (5, _), (0, _), (1, _), (2, _), (3, _), (4, _)]) C 1 dX6_copy_177 (rfl : 177 + 3 = 180) rfl rfl (by decide) rfl ?_
      refine z_goto (pc' := 73) C dX6_copy_180 (by decide) ?_
      exact nx _ 0 _ (by rw [b01_f (fun h => h.1 c2)]) (by rw [if_pos c2])
    refine z_aload_n C 3 rfl rfl dX6_copy_112 (rfl : 112 + 1 = 113) ?_
    refine z_get C xmm rfl iX6_copy_X6 6 (by decide) lX6_copy_f30 rfl rfl dX6_copy_113 (rfl : 113 + 3 = 116) ?_
    refine z_iload C 1 rfl dX6_copy_116 (rfl : 116 + 2 = 118) ?_
    refine z_iald C (x := iI (V 6 k)) xmm_6 ⟨by omega, by omega⟩ (by omega) (by show iI (f6 k) = _; rw [e6]) dX6_copy_118 (rfl : 118 + 1 = 119) ?_
    refine z_iload C 0 rfl dX6_copy_119 (rfl : 119 + 2 = 121) ?_
    refine z_icmp_eq (pt := 128) C dX6_copy_121 (by decide) (rfl : 121 + 3 = 124) (iI_eq (by omega) (by omega)).1 (fun q => mt (iI_eq (by omega) (by omega)).2 q) (fun c3 => ?_) (fun c3 => ?_)
    · refine z_iconst C dX6_copy_128 (rfl : 128 + 1 = 129) ?_
      refine z_iadd C dX6_copy_129 (rfl : 129 + 1 = 130) rfl ?_
      refine z_iast C xmm_8 ⟨by omega, by omega⟩ (by omega) dX6_copy_130 (rfl : 130 + 1 = 131) (xms_8 (i := sc)) ?_
      rw [w3_8]
      refine z_aload_n C 3 rfl rfl dX6_copy_131 (rfl : 131 + 1 = 132) ?_
      refine z_get C xmm rfl iX6_copy_X6 0 (by decide) lX6_copy_f7 rfl rfl dX6_copy_132 (rfl : 132 + 3 = 135) ?_
      refine z_bipush (c := 24) C (by decide) dX6_copy_135 (rfl : 135 + 2 = 137) ?_
      refine z_aload_n C 3 rfl rfl dX6_copy_137 (rfl : 137 + 1 = 138) ?_
      refine z_get C xmm rfl iX6_copy_X6 5 (by decide) lX6_copy_f26 rfl rfl dX6_copy_138 (rfl : 138 + 3 = 141) ?_
      refine z_topi (y := iI ((n : Int))) (congrArg iI hw.1.1) ?_
      refine z_imul C dX6_copy_141 (rfl : 141 + 1 = 142) rfl ?_
      refine z_iload C 1 rfl dX6_copy_142 (rfl : 142 + 2 = 144) ?_
      refine z_iadd C dX6_copy_144 (rfl : 144 + 1 = 145) rfl ?_
      refine z_aload_n C 3 rfl rfl dX6_copy_145 (rfl : 145 + 1 = 146) ?_
      refine z_get C xmm rfl iX6_copy_X6 6 (by decide) lX6_copy_f30 rfl rfl dX6_copy_146 (rfl : 146 + 3 = 149) ?_
      refine z_iload C 1 rfl dX6_copy_149 (rfl : 149 + 2 = 151) ?_
      refine z_iald C (x := iI (V 6 k)) xmm_6 ⟨by omega, by omega⟩ (by omega) (by show iI (f6 k) = _; rw [e6]) dX6_copy_151 (rfl : 151 + 1 = 152) ?_
      refine z_iconst C dX6_copy_152 (rfl : 152 + 1 = 153) ?_
      refine z_icmp_ne (pt := 161) C dX6_copy_153 (by decide) (rfl : 153 + 3 = 156) (fun q => mt (iI_eq (by omega) (by omega)).2 q) (iI_eq (by omega) (by omega)).1 (fun c4 => ?_) (fun c4 => ?_)
      rotate_left
      · exact absurd c4 c2
      refine z_aload_n C 3 rfl rfl dX6_copy_161 (rfl : 161 + 1 = 162) ?_
      refine z_get C xmm rfl iX6_copy_X6 6 (by decide) lX6_copy_f30 rfl rfl dX6_copy_162 (rfl : 162 + 3 = 165) ?_
      refine z_iload C 1 rfl dX6_copy_165 (rfl : 165 + 2 = 167) ?_
      refine z_iald C (x := iI (V 6 k)) xmm_6 ⟨by omega, by omega⟩ (by omega) (by show iI (f6 k) = _; rw [e6]) dX6_copy_167 (rfl : 167 + 1 = 168) ?_
      refine z_iast C xmm_0 ⟨by omega, by omega⟩ (by omega) dX6_copy_168 (rfl : 168 + 1 = 169) (xms_0 (i := 24 * n + k)) ?_
      rw [w3_0]
      refine z_aload_n C 3 rfl rfl dX6_copy_169 (rfl : 169 + 1 = 170) ?_
      refine z_get C xmm rfl iX6_copy_X6 6 (by decide) lX6_copy_f30 rfl rfl dX6_copy_170 (rfl : 170 + 3 = 173) ?_
      refine z_iload C 1 rfl dX6_copy_173 (rfl : 173 + 2 = 175) ?_
      refine z_iconst C dX6_copy_175 (rfl : 175 + 1 = 176) ?_
      refine z_iast C xmm_6 ⟨by omega, by omega⟩ (by omega) dX6_copy_176 (rfl : 176 + 1 = 177) (xms_6 (i := k)) ?_
      rw [w3_6]
      refine z_iinc (lv' := [(6, _), (7, _), (5, _), (0, _), (1, _), (2, _), (3, _), (4, _)]) C 1 dX6_copy_177 (rfl : 177 + 3 = 180) rfl rfl (by decide) rfl ?_
      refine z_goto (pc' := 73) C dX6_copy_180 (by decide) ?_
      exact nx _ 0 _ (by rw [b01_f (fun h => h.2 c3.symm)]) (by rw [if_neg c2])
    · refine z_iconst C dX6_copy_124 (rfl : 124 + 1 = 125) ?_
      refine z_goto (pc' := 129) C dX6_copy_125 (by decide) ?_
      refine z_iadd C dX6_copy_129 (rfl : 129 + 1 = 130) rfl ?_
      refine z_iast C xmm_8 ⟨by omega, by omega⟩ (by omega) dX6_copy_130 (rfl : 130 + 1 = 131) (xms_8 (i := sc)) ?_
      rw [w3_8]
      refine z_aload_n C 3 rfl rfl dX6_copy_131 (rfl : 131 + 1 = 132) ?_
      refine z_get C xmm rfl iX6_copy_X6 0 (by decide) lX6_copy_f7 rfl rfl dX6_copy_132 (rfl : 132 + 3 = 135) ?_
      refine z_bipush (c := 24) C (by decide) dX6_copy_135 (rfl : 135 + 2 = 137) ?_
      refine z_aload_n C 3 rfl rfl dX6_copy_137 (rfl : 137 + 1 = 138) ?_
      refine z_get C xmm rfl iX6_copy_X6 5 (by decide) lX6_copy_f26 rfl rfl dX6_copy_138 (rfl : 138 + 3 = 141) ?_
      refine z_topi (y := iI ((n : Int))) (congrArg iI hw.1.1) ?_
      refine z_imul C dX6_copy_141 (rfl : 141 + 1 = 142) rfl ?_
      refine z_iload C 1 rfl dX6_copy_142 (rfl : 142 + 2 = 144) ?_
      refine z_iadd C dX6_copy_144 (rfl : 144 + 1 = 145) rfl ?_
      refine z_aload_n C 3 rfl rfl dX6_copy_145 (rfl : 145 + 1 = 146) ?_
      refine z_get C xmm rfl iX6_copy_X6 6 (by decide) lX6_copy_f30 rfl rfl dX6_copy_146 (rfl : 146 + 3 = 149) ?_
      refine z_iload C 1 rfl dX6_copy_149 (rfl : 149 + 2 = 151) ?_
      refine z_iald C (x := iI (V 6 k)) xmm_6 ⟨by omega, by omega⟩ (by omega) (by show iI (f6 k) = _; rw [e6]) dX6_copy_151 (rfl : 151 + 1 = 152) ?_
      refine z_iconst C dX6_copy_152 (rfl : 152 + 1 = 153) ?_
      refine z_icmp_ne (pt := 161) C dX6_copy_153 (by decide) (rfl : 153 + 3 = 156) (fun q => mt (iI_eq (by omega) (by omega)).2 q) (iI_eq (by omega) (by omega)).1 (fun c4 => ?_) (fun c4 => ?_)
      rotate_left
      · exact absurd c4 c2
      refine z_aload_n C 3 rfl rfl dX6_copy_161 (rfl : 161 + 1 = 162) ?_
      refine z_get C xmm rfl iX6_copy_X6 6 (by decide) lX6_copy_f30 rfl rfl dX6_copy_162 (rfl : 162 + 3 = 165) ?_
      refine z_iload C 1 rfl dX6_copy_165 (rfl : 165 + 2 = 167) ?_
      refine z_iald C (x := iI (V 6 k)) xmm_6 ⟨by omega, by omega⟩ (by omega) (by show iI (f6 k) = _; rw [e6]) dX6_copy_167 (rfl : 167 + 1 = 168) ?_
      refine z_iast C xmm_0 ⟨by omega, by omega⟩ (by omega) dX6_copy_168 (rfl : 168 + 1 = 169) (xms_0 (i := 24 * n + k)) ?_
      rw [w3_0]
      refine z_aload_n C 3 rfl rfl dX6_copy_169 (rfl : 169 + 1 = 170) ?_
      refine z_get C xmm rfl iX6_copy_X6 6 (by decide) lX6_copy_f30 rfl rfl dX6_copy_170 (rfl : 170 + 3 = 173) ?_
      refine z_iload C 1 rfl dX6_copy_173 (rfl : 173 + 2 = 175) ?_
      refine z_iconst C dX6_copy_175 (rfl : 175 + 1 = 176) ?_
      refine z_iast C xmm_6 ⟨by omega, by omega⟩ (by omega) dX6_copy_176 (rfl : 176 + 1 = 177) (xms_6 (i := k)) ?_
      rw [w3_6]
      refine z_iinc (lv' := [(6, _), (7, _), (5, _), (0, _), (1, _), (2, _), (3, _), (4, _)]) C 1 dX6_copy_177 (rfl : 177 + 3 = 180) rfl rfl (by decide) rfl ?_
      refine z_goto (pc' := 73) C dX6_copy_180 (by decide) ?_
      exact nx _ 1 _ (by rw [b01_t ⟨c2, fun h => c3 h.symm⟩]) (by rw [if_neg c2])
theorem c_X6_copy {c s h b : Int} (hc : -2147483648 ≤ c ∧ c < 2147483648) (hs : -2147483648 ≤ s ∧ s < 2147483648) (hh : -2147483648 ≤ h ∧ h < 2147483648) (hb0 : b = 0 ∨ b = 1) (hw : WFV V n m t) : MC l yX6_copy wsX6_copy rmX6_copy G base [.ref (q 30), .int (iI c), .int (iI s), .int (iI h), .int (iI b)] (xm G q V ++ Y) (fun v w => (((0 ≤ c ∧ c < n) ∧ (0 ≤ s ∧ s < 6) ∧ 0 ≤ h ∧ h < 5) ∧ (V 4 c.toNat = h ∧ n < 40) ∧ v = some (.int (iI (n : Int))) ∧ ∃ f0 f6 f8 : Nat → Int, cpR V n c.toNat s.toNat 24 f0 f6 f8 ∧ w = xm G q (nsCopy (up2 V 25 0 0) n c.toNat h.toNat b f0 f6 f8) ++ Y) ∨ (¬ ((0 ≤ c ∧ c < n) ∧ (0 ≤ s ∧ s < 6) ∧ 0 ≤ h ∧ h < 5) ∧ flQ G q V Y 1 v w) ∨ (((0 ≤ c ∧ c < n) ∧ (0 ≤ s ∧ s < 6) ∧ 0 ≤ h ∧ h < 5) ∧ ¬ (V 4 c.toNat = h ∧ n < 40) ∧ flQ G q V Y 2 v w)) (fun _ _ => False) := by
  refine MC.of (cc := cX6_copy) (by decide) rfl rfl (Nat.le_of_ble_eq_true rfl) ?_
  intro κ C hT hl hnm
  have hb : n ≤ 40 ∧ m ≤ 60 ∧ t ≤ 40 ∧ 1 ≤ n := by have := hw.2.1; omega
  refine z_sub [0, 1, 2, 3, 4] (lv' := [(0, .ref (q 30)), (1, .int (iI c)), (2, .int (iI s)), (3, .int (iI h)), (4, .int (iI b))]) rfl ?_
  refine z_aload_n C 0 rfl rfl dX6_copy_0 (rfl : 0 + 1 = 1) ?_
  refine z_iload_n C 1 rfl rfl dX6_copy_1 (rfl : 1 + 1 = 2) ?_
  refine z_callV C 0 0 (c_X6_isCopy hc hw.1.1 (by omega)) gX6_copy_X6_isCopy rfl hd47_X6_isCopy ⟨Nat.le_of_ble_eq_true rfl, Nat.le_of_ble_eq_true rfl⟩ xmm rfl rfl (Nat.le_of_ble_eq_true rfl) dX6_copy_2 (rfl : 2 + 3 = 5) rfl rfl ⟨Nat.le_of_ble_eq_true rfl, Nat.le_of_ble_eq_true rfl⟩ (fun _ _ h => h.elim) ?_ rfl
  rintro _ _ ⟨rfl, rfl⟩
  refine z_v1 ?_
  by_cases k1 : 0 ≤ c ∧ c < n
  rotate_left
  · rw [b01_f k1]
    refine z_if_eq (pt := 26) C dX6_copy_5 (by decide) (rfl : 5 + 3 = 8) (iI_eq0 (by omega)).1 (fun q => mt (iI_eq0 (by omega)).2 q) (fun c1 => ?_) (fun c1 => ?_)
    rotate_left
    · exact absurd rfl c1
    refine z_iconst C dX6_copy_26 (rfl : 26 + 1 = 27) ?_
    refine z_istore (lv' := [(5, _), (0, _), (1, _), (2, _), (3, _), (4, _)]) C dX6_copy_27 (rfl : 27 + 2 = 29) (by decide) rfl ?_
    refine z_aload_n C 1 rfl rfl dX6_copy_29 (rfl : 29 + 1 = 30) ?_
    refine z_iload C 0 rfl dX6_copy_30 (rfl : 30 + 2 = 32) ?_
    refine z_iload C 0 rfl dX6_copy_32 (rfl : 32 + 2 = 34) ?_
    refine z_if_eq (pt := 60) C dX6_copy_34 (by decide) (rfl : 34 + 3 = 37) (iI_eq0 (by omega)).1 (fun q => mt (iI_eq0 (by omega)).2 q) (fun c9 => ?_) (fun c9 => ?_)
    rotate_left
    · exact absurd rfl c9
    refine z_iconst C dX6_copy_60 (rfl : 60 + 1 = 61) ?_
    refine z_iconst C dX6_copy_61 (rfl : 61 + 1 = 62) ?_
    refine z_callV C 0 0 (c_goes_1 (.inl rfl) (.inr rfl)) gX6_copy_X6_goes rfl hd47_X6_goes ⟨Nat.le_of_ble_eq_true rfl, Nat.le_of_ble_eq_true rfl⟩ xmm rfl rfl (Nat.le_of_ble_eq_true rfl) dX6_copy_62 (rfl : 62 + 3 = 65) rfl rfl ⟨Nat.le_of_ble_eq_true rfl, Nat.le_of_ble_eq_true rfl⟩ (fun _ _ h => h.elim) ?_ rfl
    rintro _ _ ⟨rfl, rfl⟩
    refine z_v1 ?_
    refine z_if_ne (pt := 70) C dX6_copy_65 (by decide) (rfl : 65 + 3 = 68) (fun q => mt (iI_eq0 (by omega)).2 q) (iI_eq0 (by omega)).1 (fun c8 => ?_) (fun c8 => ?_)
    · exact absurd rfl c8
    refine z_iconst C dX6_copy_68 (rfl : 68 + 1 = 69) ?_
    exact z_iret C rfl dX6_copy_69 (.inr (.inl ⟨fun h => k1 (by omega), rfl, rfl⟩)) (by decide) (by decide)
  rw [b01_t k1]
  refine z_if_eq (pt := 26) C dX6_copy_5 (by decide) (rfl : 5 + 3 = 8) (iI_eq0 (by omega)).1 (fun q => mt (iI_eq0 (by omega)).2 q) (fun c1 => ?_) (fun c1 => ?_)
  · exact absurd c1 (by omega)
  refine z_iload_n C 2 rfl rfl dX6_copy_8 (rfl : 8 + 1 = 9) ?_
  refine z_callS C 0 0 (c_X6_isScribe hs) gX6_copy_X6_isScribe rfl hd47_X6_isScribe ⟨Nat.le_of_ble_eq_true rfl, Nat.le_of_ble_eq_true rfl⟩ rfl (Nat.le_of_ble_eq_true rfl) dX6_copy_9 (rfl : 9 + 3 = 12) rfl rfl ⟨Nat.le_of_ble_eq_true rfl, Nat.le_of_ble_eq_true rfl⟩ (fun _ _ h => h.elim) ?_ rfl
  rintro _ _ ⟨rfl, rfl⟩
  refine z_v1 ?_
  by_cases k2 : 0 ≤ s ∧ s < 6
  rotate_left
  · rw [b01_f k2]
    refine z_if_eq (pt := 26) C dX6_copy_12 (by decide) (rfl : 12 + 3 = 15) (iI_eq0 (by omega)).1 (fun q => mt (iI_eq0 (by omega)).2 q) (fun c1 => ?_) (fun c1 => ?_)
    rotate_left
    · exact absurd rfl c1
    refine z_iconst C dX6_copy_26 (rfl : 26 + 1 = 27) ?_
    refine z_istore (lv' := [(5, _), (0, _), (1, _), (2, _), (3, _), (4, _)]) C dX6_copy_27 (rfl : 27 + 2 = 29) (by decide) rfl ?_
    refine z_aload_n C 1 rfl rfl dX6_copy_29 (rfl : 29 + 1 = 30) ?_
    refine z_iload C 0 rfl dX6_copy_30 (rfl : 30 + 2 = 32) ?_
    refine z_iload C 0 rfl dX6_copy_32 (rfl : 32 + 2 = 34) ?_
    refine z_if_eq (pt := 60) C dX6_copy_34 (by decide) (rfl : 34 + 3 = 37) (iI_eq0 (by omega)).1 (fun q => mt (iI_eq0 (by omega)).2 q) (fun c9 => ?_) (fun c9 => ?_)
    rotate_left
    · exact absurd rfl c9
    refine z_iconst C dX6_copy_60 (rfl : 60 + 1 = 61) ?_
    refine z_iconst C dX6_copy_61 (rfl : 61 + 1 = 62) ?_
    refine z_callV C 0 0 (c_goes_1 (.inl rfl) (.inr rfl)) gX6_copy_X6_goes rfl hd47_X6_goes ⟨Nat.le_of_ble_eq_true rfl, Nat.le_of_ble_eq_true rfl⟩ xmm rfl rfl (Nat.le_of_ble_eq_true rfl) dX6_copy_62 (rfl : 62 + 3 = 65) rfl rfl ⟨Nat.le_of_ble_eq_true rfl, Nat.le_of_ble_eq_true rfl⟩ (fun _ _ h => h.elim) ?_ rfl
    rintro _ _ ⟨rfl, rfl⟩
    refine z_v1 ?_
    refine z_if_ne (pt := 70) C dX6_copy_65 (by decide) (rfl : 65 + 3 = 68) (fun q => mt (iI_eq0 (by omega)).2 q) (iI_eq0 (by omega)).1 (fun c8 => ?_) (fun c8 => ?_)
    · exact absurd rfl c8
    refine z_iconst C dX6_copy_68 (rfl : 68 + 1 = 69) ?_
    exact z_iret C rfl dX6_copy_69 (.inr (.inl ⟨fun h => k2 (by omega), rfl, rfl⟩)) (by decide) (by decide)
  rw [b01_t k2]
  refine z_if_eq (pt := 26) C dX6_copy_12 (by decide) (rfl : 12 + 3 = 15) (iI_eq0 (by omega)).1 (fun q => mt (iI_eq0 (by omega)).2 q) (fun c1 => ?_) (fun c1 => ?_)
  · exact absurd c1 (by omega)
  refine z_iload_n C 3 rfl rfl dX6_copy_15 (rfl : 15 + 1 = 16) ?_
  refine z_callS C 0 0 (c_X6_isHouse hh) gX6_copy_X6_isHouse rfl hd47_X6_isHouse ⟨Nat.le_of_ble_eq_true rfl, Nat.le_of_ble_eq_true rfl⟩ rfl (Nat.le_of_ble_eq_true rfl) dX6_copy_16 (rfl : 16 + 3 = 19) rfl rfl ⟨Nat.le_of_ble_eq_true rfl, Nat.le_of_ble_eq_true rfl⟩ (fun _ _ h => h.elim) ?_ rfl
  rintro _ _ ⟨rfl, rfl⟩
  refine z_v1 ?_
  by_cases k3 : 0 ≤ h ∧ h < 5
  rotate_left
  · rw [b01_f k3]
    refine z_if_eq (pt := 26) C dX6_copy_19 (by decide) (rfl : 19 + 3 = 22) (iI_eq0 (by omega)).1 (fun q => mt (iI_eq0 (by omega)).2 q) (fun c1 => ?_) (fun c1 => ?_)
    rotate_left
    · exact absurd rfl c1
    refine z_iconst C dX6_copy_26 (rfl : 26 + 1 = 27) ?_
    refine z_istore (lv' := [(5, _), (0, _), (1, _), (2, _), (3, _), (4, _)]) C dX6_copy_27 (rfl : 27 + 2 = 29) (by decide) rfl ?_
    refine z_aload_n C 1 rfl rfl dX6_copy_29 (rfl : 29 + 1 = 30) ?_
    refine z_iload C 0 rfl dX6_copy_30 (rfl : 30 + 2 = 32) ?_
    refine z_iload C 0 rfl dX6_copy_32 (rfl : 32 + 2 = 34) ?_
    refine z_if_eq (pt := 60) C dX6_copy_34 (by decide) (rfl : 34 + 3 = 37) (iI_eq0 (by omega)).1 (fun q => mt (iI_eq0 (by omega)).2 q) (fun c9 => ?_) (fun c9 => ?_)
    rotate_left
    · exact absurd rfl c9
    refine z_iconst C dX6_copy_60 (rfl : 60 + 1 = 61) ?_
    refine z_iconst C dX6_copy_61 (rfl : 61 + 1 = 62) ?_
    refine z_callV C 0 0 (c_goes_1 (.inl rfl) (.inr rfl)) gX6_copy_X6_goes rfl hd47_X6_goes ⟨Nat.le_of_ble_eq_true rfl, Nat.le_of_ble_eq_true rfl⟩ xmm rfl rfl (Nat.le_of_ble_eq_true rfl) dX6_copy_62 (rfl : 62 + 3 = 65) rfl rfl ⟨Nat.le_of_ble_eq_true rfl, Nat.le_of_ble_eq_true rfl⟩ (fun _ _ h => h.elim) ?_ rfl
    rintro _ _ ⟨rfl, rfl⟩
    refine z_v1 ?_
    refine z_if_ne (pt := 70) C dX6_copy_65 (by decide) (rfl : 65 + 3 = 68) (fun q => mt (iI_eq0 (by omega)).2 q) (iI_eq0 (by omega)).1 (fun c8 => ?_) (fun c8 => ?_)
    · exact absurd rfl c8
    refine z_iconst C dX6_copy_68 (rfl : 68 + 1 = 69) ?_
    exact z_iret C rfl dX6_copy_69 (.inr (.inl ⟨fun h => k3 (by omega), rfl, rfl⟩)) (by decide) (by decide)
  rw [b01_t k3]
  refine z_if_eq (pt := 26) C dX6_copy_19 (by decide) (rfl : 19 + 3 = 22) (iI_eq0 (by omega)).1 (fun q => mt (iI_eq0 (by omega)).2 q) (fun c1 => ?_) (fun c1 => ?_)
  · exact absurd c1 (by omega)
  obtain ⟨c, rfl⟩ : ∃ i : Nat, c = (i : Int) := ⟨c.toNat, by omega⟩
  obtain ⟨s, rfl⟩ : ∃ i : Nat, s = (i : Int) := ⟨s.toNat, by omega⟩
  obtain ⟨h, rfl⟩ : ∃ i : Nat, h = (i : Int) := ⟨h.toNat, by omega⟩
  have r1 := hw.2.2.2.2.2.1 c (by omega)
  refine z_iconst C dX6_copy_22 (rfl : 22 + 1 = 23) ?_
  refine z_goto (pc' := 27) C dX6_copy_23 (by decide) ?_
  refine z_istore (lv' := [(5, _), (0, _), (1, _), (2, _), (3, _), (4, _)]) C dX6_copy_27 (rfl : 27 + 2 = 29) (by decide) rfl ?_
  refine z_aload_n C 1 rfl rfl dX6_copy_29 (rfl : 29 + 1 = 30) ?_
  refine z_iload C 0 rfl dX6_copy_30 (rfl : 30 + 2 = 32) ?_
  refine z_iload C 0 rfl dX6_copy_32 (rfl : 32 + 2 = 34) ?_
  refine z_if_eq (pt := 60) C dX6_copy_34 (by decide) (rfl : 34 + 3 = 37) (iI_eq0 (by omega)).1 (fun q => mt (iI_eq0 (by omega)).2 q) (fun c3 => ?_) (fun c3 => ?_)
  · exact absurd c3 (by omega)
  refine z_aload_n C 1 rfl rfl dX6_copy_37 (rfl : 37 + 1 = 38) ?_
  refine z_get C xmm rfl iX6_copy_X6 4 (by decide) lX6_copy_f23 rfl rfl dX6_copy_38 (rfl : 38 + 3 = 41) ?_
  refine z_iload_n C 2 rfl rfl dX6_copy_41 (rfl : 41 + 1 = 42) ?_
  refine z_iald (x := iI (V 4 (c))) C xmm_4 ⟨by omega, by omega⟩ (by omega) rfl dX6_copy_42 (rfl : 42 + 1 = 43) ?_
  refine z_iload_n C 4 rfl rfl dX6_copy_43 (rfl : 43 + 1 = 44) ?_
  refine z_icmp_ne (pt := 60) C dX6_copy_44 (by decide) (rfl : 44 + 3 = 47) (fun q => mt (iI_eq (by omega) (by omega)).2 q) (iI_eq (by omega) (by omega)).1 (fun c4 => ?_) (fun c4 => ?_)
  · refine z_iconst C dX6_copy_60 (rfl : 60 + 1 = 61) ?_
    refine z_iconst C dX6_copy_61 (rfl : 61 + 1 = 62) ?_
    refine z_callV C 0 0 (c_goes_2 (.inr rfl)) gX6_copy_X6_goes rfl hd47_X6_goes ⟨Nat.le_of_ble_eq_true rfl, Nat.le_of_ble_eq_true rfl⟩ xmm rfl rfl (Nat.le_of_ble_eq_true rfl) dX6_copy_62 (rfl : 62 + 3 = 65) rfl rfl ⟨Nat.le_of_ble_eq_true rfl, Nat.le_of_ble_eq_true rfl⟩ (fun _ _ h => h.elim) ?_ rfl
    rintro _ _ ⟨rfl, rfl⟩
    refine z_v1 ?_
    refine z_if_ne (pt := 70) C dX6_copy_65 (by decide) (rfl : 65 + 3 = 68) (fun q => mt (iI_eq0 (by omega)).2 q) (iI_eq0 (by omega)).1 (fun c5 => ?_) (fun c5 => ?_)
    · exact absurd rfl c5
    refine z_iconst C dX6_copy_68 (rfl : 68 + 1 = 69) ?_
    exact z_iret C rfl dX6_copy_69 (.inr (.inr ⟨⟨k1, k2, k3⟩, fun h => c4 h.1, rfl, rfl⟩)) (by decide) (by decide)
  refine z_aload_n C 1 rfl rfl dX6_copy_47 (rfl : 47 + 1 = 48) ?_
  refine z_get C xmm rfl iX6_copy_X6 5 (by decide) lX6_copy_f26 rfl rfl dX6_copy_48 (rfl : 48 + 3 = 51) ?_
  refine z_topi (y := iI ((n : Int))) (congrArg iI hw.1.1) ?_
  refine z_bipush (c := 40) C (by decide) dX6_copy_51 (rfl : 51 + 2 = 53) ?_
  refine z_icmp_ge (pt := 60) C dX6_copy_53 (by decide) (rfl : 53 + 3 = 56) (iI_le (by omega) (by omega)).1 (fun q => mt (iI_le (by omega) (by omega)).2 q) (fun c5 => ?_) (fun c5 => ?_)
  · refine z_iconst C dX6_copy_60 (rfl : 60 + 1 = 61) ?_
    refine z_iconst C dX6_copy_61 (rfl : 61 + 1 = 62) ?_
    refine z_callV C 0 0 (c_goes_2 (.inr rfl)) gX6_copy_X6_goes rfl hd47_X6_goes ⟨Nat.le_of_ble_eq_true rfl, Nat.le_of_ble_eq_true rfl⟩ xmm rfl rfl (Nat.le_of_ble_eq_true rfl) dX6_copy_62 (rfl : 62 + 3 = 65) rfl rfl ⟨Nat.le_of_ble_eq_true rfl, Nat.le_of_ble_eq_true rfl⟩ (fun _ _ h => h.elim) ?_ rfl
    rintro _ _ ⟨rfl, rfl⟩
    refine z_v1 ?_
    refine z_if_ne (pt := 70) C dX6_copy_65 (by decide) (rfl : 65 + 3 = 68) (fun q => mt (iI_eq0 (by omega)).2 q) (iI_eq0 (by omega)).1 (fun c6 => ?_) (fun c6 => ?_)
    · exact absurd rfl c6
    refine z_iconst C dX6_copy_68 (rfl : 68 + 1 = 69) ?_
    exact z_iret C rfl dX6_copy_69 (.inr (.inr ⟨⟨k1, k2, k3⟩, fun h => absurd h.2 (by omega), rfl, rfl⟩)) (by decide) (by decide)
  refine z_iconst C dX6_copy_56 (rfl : 56 + 1 = 57) ?_
  refine z_goto (pc' := 61) C dX6_copy_57 (by decide) ?_
  refine z_iconst C dX6_copy_61 (rfl : 61 + 1 = 62) ?_
  refine z_callV C 0 0 c_goes_ok gX6_copy_X6_goes rfl hd47_X6_goes ⟨Nat.le_of_ble_eq_true rfl, Nat.le_of_ble_eq_true rfl⟩ xmm rfl rfl (Nat.le_of_ble_eq_true rfl) dX6_copy_62 (rfl : 62 + 3 = 65) rfl rfl ⟨Nat.le_of_ble_eq_true rfl, Nat.le_of_ble_eq_true rfl⟩ (fun _ _ h => h.elim) ?_ rfl
  rintro _ _ ⟨rfl, rfl⟩
  refine z_v1 ?_
  refine z_if_ne (pt := 70) C dX6_copy_65 (by decide) (rfl : 65 + 3 = 68) (fun q => mt (iI_eq0 (by omega)).2 q) (iI_eq0 (by omega)).1 (fun c6 => ?_) (fun c6 => ?_)
  rotate_left
  · exact absurd c6 (by omega)
  refine z_iconst C dX6_copy_70 (rfl : 70 + 1 = 71) ?_
  refine z_istore (lv' := [(6, _), (5, _), (0, _), (1, _), (2, _), (3, _), (4, _)]) C dX6_copy_71 (rfl : 71 + 2 = 73) (by decide) rfl ?_
  refine z_ws (congrArg (fun z => xm G q z ++ Y) (w3_id (up2 V 25 0 0)).symm) ?_
  refine lp_X6_copy C (V := up2 V 25 0 0) (h := h) (b := b) (hw.last 0) (mi := c) (sc := s) (by omega) (by omega) (by omega) (fun f0 f6 f8 hf => ?_) 24 0 _ _ _ (by omega) ⟨fun k hk => absurd hk (by omega), fun _ _ => rfl, fun k hk => absurd hk (by omega), fun _ _ => rfl, by simp [wrn], fun _ _ => rfl⟩
  refine z_aload_n C 2 rfl rfl dX6_copy_183 (rfl : 183 + 1 = 184) ?_
  refine z_iconst C dX6_copy_184 (rfl : 184 + 1 = 185) ?_
  refine z_put C tyX6 tyX6_ok nmX6 xmm rfl iX6_copy_X6 7 (by decide) lX6_copy_f92 rfl rfl rfl rfl rfl (Nat.le_of_ble_eq_true rfl) dX6_copy_185 (rfl : 185 + 3 = 188) xms_7 ?_
  refine z_aload_n C 2 rfl rfl dX6_copy_188 (rfl : 188 + 1 = 189) ?_
  refine z_get C xmm rfl iX6_copy_X6 1 (by decide) lX6_copy_f13 rfl rfl dX6_copy_189 (rfl : 189 + 3 = 192) ?_
  refine z_aload_n C 2 rfl rfl dX6_copy_192 (rfl : 192 + 1 = 193) ?_
  refine z_get C xmm rfl iX6_copy_X6 5 (by decide) lX6_copy_f26 rfl rfl dX6_copy_193 (rfl : 193 + 3 = 196) ?_
  refine z_topi (y := iI ((n : Int))) (congrArg iI hw.1.1) ?_
  refine z_iload_n C 3 rfl rfl dX6_copy_196 (rfl : 196 + 1 = 197) ?_
  refine z_iast C xmm_1 ⟨by omega, by omega⟩ (by omega) dX6_copy_197 (rfl : 197 + 1 = 198) (xms_1 (i := n)) ?_
  refine z_aload_n C 2 rfl rfl dX6_copy_198 (rfl : 198 + 1 = 199) ?_
  refine z_get C xmm rfl iX6_copy_X6 2 (by decide) lX6_copy_f16 rfl rfl dX6_copy_199 (rfl : 199 + 3 = 202) ?_
  refine z_aload_n C 2 rfl rfl dX6_copy_202 (rfl : 202 + 1 = 203) ?_
  refine z_get C xmm rfl iX6_copy_X6 5 (by decide) lX6_copy_f26 rfl rfl dX6_copy_203 (rfl : 203 + 3 = 206) ?_
  refine z_topi (y := iI ((n : Int))) (congrArg iI hw.1.1) ?_
  refine z_iload C 6 rfl dX6_copy_206 (rfl : 206 + 2 = 208) ?_
  refine z_zast C xmm_2 ⟨by omega, by omega⟩ (by omega) (by omega) dX6_copy_208 (rfl : 208 + 1 = 209) (xms_2 (i := n)) ?_
  refine z_aload_n C 2 rfl rfl dX6_copy_209 (rfl : 209 + 1 = 210) ?_
  refine z_get C xmm rfl iX6_copy_X6 3 (by decide) lX6_copy_f20 rfl rfl dX6_copy_210 (rfl : 210 + 3 = 213) ?_
  refine z_aload_n C 2 rfl rfl dX6_copy_213 (rfl : 213 + 1 = 214) ?_
  refine z_get C xmm rfl iX6_copy_X6 5 (by decide) lX6_copy_f26 rfl rfl dX6_copy_214 (rfl : 214 + 3 = 217) ?_
  refine z_topi (y := iI ((n : Int))) (congrArg iI hw.1.1) ?_
  refine z_iload_n C 5 rfl rfl dX6_copy_217 (rfl : 217 + 1 = 218) ?_
  refine z_iast C xmm_3 ⟨by omega, by omega⟩ (by omega) dX6_copy_218 (rfl : 218 + 1 = 219) (xms_3 (i := n)) ?_
  refine z_aload_n C 2 rfl rfl dX6_copy_219 (rfl : 219 + 1 = 220) ?_
  refine z_get C xmm rfl iX6_copy_X6 4 (by decide) lX6_copy_f23 rfl rfl dX6_copy_220 (rfl : 220 + 3 = 223) ?_
  refine z_aload_n C 2 rfl rfl dX6_copy_223 (rfl : 223 + 1 = 224) ?_
  refine z_get C xmm rfl iX6_copy_X6 5 (by decide) lX6_copy_f26 rfl rfl dX6_copy_224 (rfl : 224 + 3 = 227) ?_
  refine z_topi (y := iI ((n : Int))) (congrArg iI hw.1.1) ?_
  refine z_iload_n C 5 rfl rfl dX6_copy_227 (rfl : 227 + 1 = 228) ?_
  refine z_iast C xmm_4 ⟨by omega, by omega⟩ (by omega) dX6_copy_228 (rfl : 228 + 1 = 229) (xms_4 (i := n)) ?_
  refine z_aload_n C 2 rfl rfl dX6_copy_229 (rfl : 229 + 1 = 230) ?_
  refine z_dup C rfl dX6_copy_230 (rfl : 230 + 1 = 231) ?_
  refine z_get C xmm rfl iX6_copy_X6 5 (by decide) lX6_copy_f26 rfl rfl dX6_copy_231 (rfl : 231 + 3 = 234) ?_
  refine z_topi (y := iI ((n : Int))) (congrArg iI hw.1.1) ?_
  refine z_iconst C dX6_copy_234 (rfl : 234 + 1 = 235) ?_
  refine z_iadd C dX6_copy_235 (rfl : 235 + 1 = 236) rfl ?_
  refine z_put C tyX6 tyX6_ok nmX6 xmm rfl iX6_copy_X6 5 (by decide) lX6_copy_f26 rfl rfl rfl rfl rfl (Nat.le_of_ble_eq_true rfl) dX6_copy_236 (rfl : 236 + 3 = 239) xms_5 ?_
  refine z_aload_n C 2 rfl rfl dX6_copy_239 (rfl : 239 + 1 = 240) ?_
  refine z_get C xmm rfl iX6_copy_X6 5 (by decide) lX6_copy_f26 rfl rfl dX6_copy_240 (rfl : 240 + 3 = 243) ?_
  refine z_iconst C dX6_copy_243 (rfl : 243 + 1 = 244) ?_
  refine z_isub C dX6_copy_244 (rfl : 244 + 1 = 245) rfl ?_
  refine z_topi (y := iI (n : Int)) (congrArg iI (by rw [up2_at]; omega)) ?_
  exact z_iret C rfl dX6_copy_245 (.inl ⟨⟨k1, k2, k3⟩, ⟨c4, by omega⟩, rfl, f0, f6, f8, hf, rfl⟩) (by decide) (by decide)
end
