theorem lX5_kinByErrors_f139 : Cond.fieldLink RX5 139 "ModelCopies$Copy" "readings" "[I" ∈ wsX5_kinByErrors := by decide +kernel
theorem iX5_kinByErrors_X0 : ∀ w ∈ wsX00, w ∈ wsX5_kinByErrors := by decide +kernel
theorem hd69_X5_copiesThatRead : yX5_copiesThatRead.cls = RX5 ∧ yX5_copiesThatRead.cls ≠ "java/lang/invoke/MethodHandle" ∧ yX5_copiesThatRead.cls ≠ "java/lang/invoke/VarHandle" ∧ (parseMethodDescriptor yX5_copiesThatRead.desc).map (fun d => d.parameters.length) = some 2 := by decide +kernel
def keB (V : Nat → Nat → Int) (c P i : Nat) : Bool := decide (0 < shc (rdV V c) (rdV V i) P)
theorem keB_s (V : Nat → Nat → Int) (c P i : Nat) : keB V c (P + 1) i = (keB V c P i || (decide (V 0 (24 * c + P) ≠ 0) && decide (V 0 (24 * i + P) = V 0 (24 * c + P)))) := by
  have h := shc_rng (rdV V c) (rdV V i) P
  have e : shc (rdV V c) (rdV V i) (P + 1) = shc (rdV V c) (rdV V i) P + if rdV V c P ≠ 0 ∧ rdV V c P = rdV V i P then 1 else 0 := rfl
  unfold keB
  rw [Bool.eq_iff_iff]
  simp only [decide_eq_true_eq, Bool.or_eq_true, Bool.and_eq_true]
  rw [e]
  by_cases q : rdV V c P ≠ 0 ∧ rdV V c P = rdV V i P
  · rw [if_pos q]
    constructor
    · exact fun _ => .inr ⟨q.1, q.2.symm⟩
    · intro _; omega
  · rw [if_neg q, Int.add_zero]
    constructor
    · exact fun x => .inl x
    · rintro (x | x)
      · exact x
      · exact absurd ⟨x.1, x.2.symm⟩ q
section
variable {κ : KxT} {G : GG} {base mc ms : Nat} {post : Option Value → va_W → Prop} {exc : String → va_W → Prop} {X : va_W} {L : List Nat} {K : Nat → Nat} {I : Nat → Nat → Int} {F : Nat → Nat → Option Nat} {R : Nat → Nat → Int} {N : Nat → Nat} {O : Nat → Nat → Option Nat} {l : Launch}
variable {de n m t : Nat} {T : Nat → Nat} {g : Nat → Nat → Nat} {V : Nat → Nat → Int}
abbrev rmX5_kinByErrors : Room := { frames := 4, cells := 0, slots := 0, locals := 120 }
theorem lp_X5_kinByErrors (C : Cx κ cX5_kinByErrors 6 wsX5_kinByErrors RX5 (some .long) rmX5_kinByErrors G base) {c : Nat} (hc : c < n) (h : RP de L K I F R N O T g V 5 n m t) (hw : WFV V n m t)
    (hq : post (some (.long (lN (bitN (keB V c 24) n)))) (pw G X L K I F R N O)) :
    ∀ (d k : Nat), k + d = 24 → Z κ 6 G base mc ms post exc 0 0 5 [(4, .int (iI (k : Int))), (2, .long (lN (bitN (keB V c k) n))), (0, .ref (g 6 0)), (1, .ref (g 0 c))] [] (pw G X L K I F R N O) := by
  have hn := hw.2.1
  intro d
  induction d with
  | zero =>
    intro k hk
    have e : k = 24 := by omega
    subst e
    refine z_iload C 0 rfl dX5_kinByErrors_5 (rfl : 5 + 2 = 7) ?_
    refine z_bipush (c := 24) C (by decide) dX5_kinByErrors_7 (rfl : 7 + 2 = 9) ?_
    refine z_icmp_ge (pt := 43) C dX5_kinByErrors_9 (by decide) (rfl : 9 + 3 = 12) (iI_le (by omega) (by omega)).1 (fun q => mt (iI_le (by omega) (by omega)).2 q) (fun c1 => ?_) (fun c1 => ?_)
    · refine z_lload_n C 1 rfl rfl dX5_kinByErrors_43 (rfl : 43 + 1 = 44) ?_
      exact z_lret C rfl dX5_kinByErrors_44 hq (Nat.zero_le _) (Nat.zero_le _)
    · exact absurd c1 (by omega)
  | succ d ih =>
    intro k hk
    have hrk := hw.2.2.1 (24 * c + k) (by omega)
    refine z_iload C 0 rfl dX5_kinByErrors_5 (rfl : 5 + 2 = 7) ?_
    refine z_bipush (c := 24) C (by decide) dX5_kinByErrors_7 (rfl : 7 + 2 = 9) ?_
    refine z_icmp_ge (pt := 43) C dX5_kinByErrors_9 (by decide) (rfl : 9 + 3 = 12) (iI_le (by omega) (by omega)).1 (fun q => mt (iI_le (by omega) (by omega)).2 q) (fun c1 => ?_) (fun c1 => ?_)
    · exact absurd c1 (by omega)
    refine z_aload_n C 3 rfl rfl dX5_kinByErrors_12 (rfl : 12 + 1 = 13) ?_
    refine z_get C (pwm_Copy (h.g0 hc).1 (h.g0 hc).2) rfl iX5_kinByErrors_X0 3 (by decide) lX5_kinByErrors_f139 rfl rfl dX5_kinByErrors_13 (rfl : 13 + 3 = 16) ?_
    rw [(h.isC hc).2.2.1]
    refine z_iload C 0 rfl dX5_kinByErrors_16 (rfl : 16 + 2 = 18) ?_
    refine z_iald C (x := iI (V 0 (24 * c + k))) (pwm_I (h.g1 hc).1 (h.g1 hc).2) ⟨by omega, by rw [(h.isC hc).2.2.2.2.2]; omega⟩ (by omega) (by rw [Int.toNat_natCast, h.rd hc (by omega)]) dX5_kinByErrors_18 (rfl : 18 + 1 = 19) ?_
    refine z_istore (lv' := [(5, _), (4, _), (2, _), (0, _), (1, _)]) C dX5_kinByErrors_19 (rfl : 19 + 2 = 21) (by decide) rfl ?_
    refine z_iload C 0 rfl dX5_kinByErrors_21 (rfl : 21 + 2 = 23) ?_
    refine z_if_eq (pt := 37) C dX5_kinByErrors_23 (by decide) (rfl : 23 + 3 = 26) (iI_eq0 (by omega)).1 (fun q => mt (iI_eq0 (by omega)).2 q) (fun c2 => ?_) (fun c2 => ?_)
    · refine z_iinc (lv' := [(4, _), (5, _), (2, _), (0, _), (1, _)]) C 1 dX5_kinByErrors_37 (rfl : 37 + 3 = 40) rfl rfl (by decide) rfl ?_
      refine z_goto (pc' := 5) C dX5_kinByErrors_40 (by decide) ?_
      have e : bitN (keB V c (k + 1)) n = bitN (keB V c k) n := bitN_cong n (fun i _ => by rw [keB_s]; simp [c2])
      have := ih (k + 1) (by omega)
      rw [e] at this
      exact z_sub [0, 2, 3, 4] rfl this
    refine z_lload_n C 2 rfl rfl dX5_kinByErrors_26 (rfl : 26 + 1 = 27) ?_
    refine z_aload_n C 3 rfl rfl dX5_kinByErrors_27 (rfl : 27 + 1 = 28) ?_
    refine z_iload C 1 rfl dX5_kinByErrors_28 (rfl : 28 + 2 = 30) ?_
    refine z_iload C 0 rfl dX5_kinByErrors_30 (rfl : 30 + 2 = 32) ?_
    refine z_callV C 0 0 (c_X5_copiesThatRead (p := k) (r := V 0 (24 * c + k)) (by omega) (by omega) h hw) gX5_kinByErrors_X5_copiesThatRead rfl hd69_X5_copiesThatRead ⟨Nat.le_of_ble_eq_true rfl, Nat.le_of_ble_eq_true rfl⟩ (pwm_MC h.x8.1 h.x8.2.1) rfl rfl (Nat.le_of_ble_eq_true rfl) dX5_kinByErrors_32 (rfl : 32 + 3 = 35) rfl rfl ⟨Nat.le_of_ble_eq_true rfl, Nat.le_of_ble_eq_true rfl⟩ (fun _ _ h => h.elim) ?_ rfl
    rintro _ _ ⟨rfl, rfl⟩
    refine z_v1 ?_
    refine z_lor C dX5_kinByErrors_35 (rfl : 35 + 1 = 36) ?_
    refine z_topl (y := lN (bitN (keB V c (k + 1)) n)) (by rw [lN_or, bitN_ior]; congr 1; exact bitN_cong n (fun i _ => by rw [keB_s]; unfold rdB; simp [c2])) ?_
    refine z_lstore_n (lv' := [(2, _), (5, _), (4, _), (0, _), (1, _)]) C rfl dX5_kinByErrors_36 (rfl : 36 + 1 = 37) (by decide) rfl ?_
    refine z_iinc (lv' := [(4, _), (2, _), (5, _), (0, _), (1, _)]) C 2 dX5_kinByErrors_37 (rfl : 37 + 3 = 40) rfl rfl (by decide) rfl ?_
    refine z_goto (pc' := 5) C dX5_kinByErrors_40 (by decide) ?_
    exact z_sub [0, 1, 3, 4] rfl (ih (k + 1) (by omega))
theorem c_X5_kinByErrors {c : Nat} (hc : c < n) (h : RP de L K I F R N O T g V 5 n m t) (hw : WFV V n m t) : MC l yX5_kinByErrors wsX5_kinByErrors rmX5_kinByErrors G base [.ref (g 6 0), .ref (g 0 c)] (pw G X L K I F R N O) (fun v w => v = some (.long (lN (bitN (keB V c 24) n))) ∧ w = (pw G X L K I F R N O)) (fun _ _ => False) := by
  refine MC.of (cc := cX5_kinByErrors) (by decide) rfl rfl (Nat.le_of_ble_eq_true rfl) ?_
  intro κ C hT hl hnm
  refine z_sub [0, 1] (lv' := [(0, .ref (g 6 0)), (1, .ref (g 0 c))]) rfl ?_
  refine z_lconst (v := 0) C (by decide) dX5_kinByErrors_0 (rfl : 0 + 1 = 1) ?_
  refine z_lstore_n (lv' := [(2, _), (0, _), (1, _)]) C rfl dX5_kinByErrors_1 (rfl : 1 + 1 = 2) (by decide) rfl ?_
  refine z_iconst C dX5_kinByErrors_2 (rfl : 2 + 1 = 3) ?_
  refine z_istore (lv' := [(4, _), (2, _), (0, _), (1, _)]) C dX5_kinByErrors_3 (rfl : 3 + 2 = 5) (by decide) rfl ?_
  have e : bitN (keB V c 0) n = 0 := by
    apply Nat.eq_of_testBit_eq
    intro i
    rw [bitN_tb, Nat.zero_testBit]
    have : keB V c 0 i = false := by unfold keB; simp [shc]
    simp [this]
  refine z_sub [0, 1, 2, 3] (lv' := [(4, .int (iI ((0 : Nat) : Int))), (2, .long (lN (bitN (keB V c 0) n))), (0, .ref (g 6 0)), (1, .ref (g 0 c))]) (by rw [e]; rfl) ?_
  exact lp_X5_kinByErrors C hc h hw ⟨rfl, rfl⟩ 24 0 rfl
end
