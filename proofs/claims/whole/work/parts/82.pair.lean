/-- what stands at each turn of the law's loop -/
def INV (G : GG) (q : Nat → Nat) (x qo : Nat) (w : va_W) : Prop :=
  ∃ (V : Nat → Nat → Int) (n m t : Nat) (fo : Nat → Int64) (L : List Nat) (K : Nat → Nat) (I : Nat → Nat → Int) (F : Nat → Nat → Option Nat) (R : Nat → Nat → Int) (N : Nat → Nat) (O : Nat → Nat → Option Nat) (T : Nat → Nat) (g : Nat → Nat → Nat), w = pw G (xo G q V qo fo) L K I F R N O ∧ g 6 0 = x ∧ RX (gde G) L K I F R N O T g V n m t ∧ WFV V n m t ∧ WB V t
/-- behind the reference's call -/
def STP (G : GG) (q : Nat → Nat) (x qo : Nat) (B : Int → Prop) (k : Int) (fo' : Nat → Int64) (Z0 : va_W) (v : Option Value) (w : va_W) : Prop :=
  ∃ (b : Int) (V' : Nat → Nat → Int), v = some (.int (iI b)) ∧ w = xm G q V' ++ ((qo, .inl (G.2.2.2.2.1, 1, .inr (.inl fo'))) :: Z0) ∧ V' 25 0 = k ∧ (k = 0 → fo' 0 = (iI b).toInt64) ∧ (k = 0 → B b) ∧ INV G q x qo w
/-- a wrapper of the class and the reference's method answer alike -/
def PAIR (l : Launch) (G : GG) (base : Nat) (q : Nat → Nat) (x qo : Nat) (yL : MethodName) (wsL : List Cond) (rmL : Room) (yM : MethodName) (wsM : List Cond) (rmM : Room) (as : List Value) (B : Int → Prop) (w0 : va_W) : Prop :=
  ∃ postW : Option Value → va_W → Prop, MCW l yL wsL rmL G base (.ref x :: (as ++ [.ref qo])) w0 postW ∧ ∀ v w, postW v w → ∃ (k : Int) (fo' : Nat → Int64) (V : Nat → Nat → Int) (Z0 : va_W), (0 ≤ k ∧ k ≤ 3) ∧ v = some (.int (iI k)) ∧ w = xm G q V ++ ((qo, .inl (G.2.2.2.2.1, 1, .inr (.inl fo'))) :: Z0) ∧
    ∃ postR : Option Value → va_W → Prop, MC l yM wsM rmM G base (.ref (q 30) :: as) (xm G q V ++ ((qo, .inl (G.2.2.2.2.1, 1, .inr (.inl fo'))) :: Z0)) postR (fun _ _ => False) ∧ ∀ v2 w2, postR v2 w2 → STP G q x qo B k fo' Z0 v2 w2
def PAIRG (l : Launch) (G : GG) (base : Nat) (q : Nat → Nat) (x qo : Nat) (yC : MethodName) (wsC : List Cond) (rmC : Room) (yM : MethodName) (wsM : List Cond) (rmM : Room) (w0 : va_W) : Prop :=
  ∃ postC : Option Value → va_W → Prop, MC l yC wsC rmC G base [.ref x] w0 postC (fun _ _ => False) ∧ ∀ v w, postC v w → ∃ (ans : Int) (V : Nat → Nat → Int) (Y : va_W), v = some (.int (iI ans)) ∧ w = xm G q V ++ Y ∧
    ∃ postR : Option Value → va_W → Prop, MC l yM wsM rmM G base [.ref (q 30)] (xm G q V ++ Y) postR (fun _ _ => False) ∧ ∀ v2 w2, postR v2 w2 → v2 = some (.int (iI ans)) ∧ INV G q x qo w2
section
variable {κ : KxT} {G : GG} {base mc ms : Nat} {post : Option Value → va_W → Prop} {exc : String → va_W → Prop} {X : va_W} {L : List Nat} {K : Nat → Nat} {I : Nat → Nat → Int} {F : Nat → Nat → Option Nat} {R : Nat → Nat → Int} {N : Nat → Nat} {O : Nat → Nat → Option Nat} {l : Launch}
variable {n m t : Nat} {T : Nat → Nat} {g : Nat → Nat → Nat} {V V' : Nat → Nat → Int} {q : Nat → Nat} {qo : Nat} {fo fo' : Nat → Int64}
theorem pwx : pw G (xo G q V qo fo) L K I F R N O = xm G q V ++ ((qo, .inl (G.2.2.2.2.1, 1, .inr (.inl fo))) :: va_pl L (pwF G K I F R N O)) := by
  show (xm G q V ++ [_]) ++ _ = _
  rw [List.append_assoc]
  rfl
theorem INV.of {x : Nat} (hg : g 6 0 = x) (h : RX (gde G) L K I F R N O T g V n m t) (hw : WFV V n m t) (hb : WB V t) : INV G q x qo (xm G q V ++ ((qo, .inl (G.2.2.2.2.1, 1, .inr (.inl fo))) :: va_pl L (pwF G K I F R N O))) := ⟨V, n, m, t, fo, L, K, I, F, R, N, O, T, g, pwx.symm, hg, h, hw, hb⟩
theorem VEQ_last (V : Nat → Nat → Int) (s n m t : Nat) (z : Int) : VEQ V (up2 V 25 0 z) s n m t := ⟨rfl, fun _ _ => rfl, rfl, fun _ _ => rfl, fun _ _ => ⟨rfl, rfl⟩, fun _ _ _ _ => rfl, fun _ _ => ⟨rfl, rfl, rfl, rfl⟩, fun _ _ _ _ => rfl, fun _ _ => ⟨rfl, rfl, rfl⟩, fun _ _ => ⟨rfl, rfl, rfl, rfl, rfl, rfl⟩⟩
theorem VEQ_fam (V : Nat → Nat → Int) (s n m t : Nat) (z : Int) (f : Nat → Int) : VEQ V (va_up (up2 V 25 0 z) 24 f) s n m t := ⟨rfl, fun _ _ => rfl, rfl, fun _ _ => rfl, fun _ _ => ⟨rfl, rfl⟩, fun _ _ _ _ => rfl, fun _ _ => ⟨rfl, rfl, rfl, rfl⟩, fun _ _ _ _ => rfl, fun _ _ => ⟨rfl, rfl, rfl⟩, fun _ _ => ⟨rfl, rfl, rfl, rfl, rfl, rfl⟩⟩
theorem nsLend_last (V : Nat → Nat → Int) (t c h : Nat) (d pl z y : Int) (f : Nat → Int) : up2 (va_up (nsLend (up2 V 25 0 z) t c h d pl) 13 f) 21 0 y = up2 (up2 (va_up (nsLend V t c h d pl) 13 f) 21 0 y) 25 0 z := by
  funext k
  by_cases hk : k = 25
  · subst hk; rfl
  · simp [nsLend, up2, va_up, hk]
theorem fl_stp {B : Int → Prop} {k : Int} {v2 : Option Value} {w2 : va_W} (h : RX (gde G) L K I F R N O T g V n m t) (hw : WFV V n m t) (hb : WB V t) (hk : k ≠ 0) (hf : flQ G q V ((qo, .inl (G.2.2.2.2.1, 1, .inr (.inl fo))) :: va_pl L (pwF G K I F R N O)) k v2 w2) : STP G q (g 6 0) qo B k fo (va_pl L (pwF G K I F R N O)) v2 w2 := by
  obtain ⟨rfl, rfl⟩ := hf
  exact ⟨0, up2 V 25 0 k, rfl, rfl, up2_at _ _ _ _, fun e => absurd e hk, fun e => absurd e hk, INV.of rfl (h.congV (VEQ_last _ _ _ _ _ _)) (hw.last k) (fun j hj => hb j hj)⟩
theorem pair_rd {yL yM : MethodName} {wsL wsM : List Cond} {rmL rmM : Room} {as : List Value} {P : Prop} {ans : Int} {B : Int → Prop} (hB : P → B ans) (h : RX (gde G) L K I F R N O T g V n m t) (hw : WFV V n m t) (hb : WB V t)
    (hW : MCW l yL wsL rmL G base (.ref (g 6 0) :: (as ++ [.ref qo])) (pw G (xo G q V qo fo) L K I F R N O) (WP (pw G (xo G q V qo fo) L K I F R N O) (fun a fo' w => a = ans ∧ P ∧ w = pw G (xo G q V qo fo') L K I F R N O) (fun k => k = 1 ∧ ¬ P)))
    (hR : ∀ Y, MC l yM wsM rmM G base (.ref (q 30) :: as) (xm G q V ++ Y) (rdQ G q V Y P ans) (fun _ _ => False)) : PAIR l G base q (g 6 0) qo yL wsL rmL yM wsM rmM as B (pw G (xo G q V qo fo) L K I F R N O) := by
  refine ⟨_, hW, fun v w hv => ?_⟩
  rcases hv with ⟨a, fo', rfl, hfo, rfl, hP, rfl⟩ | ⟨k, rfl, ⟨rfl, hP⟩, rfl⟩
  · refine ⟨0, fo', V, _, ⟨by decide, by decide⟩, rfl, pwx, _, hR _, fun v2 w2 h2 => ?_⟩
    rcases h2 with ⟨-, rfl, rfl⟩ | ⟨hn, -⟩
    · exact ⟨_, _, rfl, rfl, up2_at _ _ _ _, fun _ => hfo, fun _ => hB hP, INV.of rfl (h.congV (VEQ_last _ _ _ _ _ _)) (hw.last 0) (fun j hj => hb j hj)⟩
    · exact absurd hP hn
  · refine ⟨1, fo, V, _, ⟨by decide, by decide⟩, rfl, pwx, _, hR _, fun v2 w2 h2 => ?_⟩
    rcases h2 with ⟨hn, -⟩ | ⟨-, h2⟩
    · exact absurd hn hP
    · exact fl_stp h hw hb (by decide) h2
theorem pair_rd2 {yL yM : MethodName} {wsL wsM : List Cond} {rmL rmM : Room} {as : List Value} {P1 P2 : Prop} {ans : Int} (h : RX (gde G) L K I F R N O T g V n m t) (hw : WFV V n m t) (hb : WB V t)
    (hW : MCW l yL wsL rmL G base (.ref (g 6 0) :: (as ++ [.ref qo])) (pw G (xo G q V qo fo) L K I F R N O) (WP (pw G (xo G q V qo fo) L K I F R N O) (fun a fo' w => a = ans ∧ (P1 ∧ P2) ∧ w = pw G (xo G q V qo fo') L K I F R N O) (fun k => (k = 1 ∧ ¬ P1) ∨ (k = 2 ∧ P1 ∧ ¬ P2))))
    (hR : ∀ Y, MC l yM wsM rmM G base (.ref (q 30) :: as) (xm G q V ++ Y) (rdQ2 G q V Y P1 P2 ans) (fun _ _ => False)) : PAIR l G base q (g 6 0) qo yL wsL rmL yM wsM rmM as (fun _ => True) (pw G (xo G q V qo fo) L K I F R N O) := by
  refine ⟨_, hW, fun v w hv => ?_⟩
  rcases hv with ⟨a, fo', rfl, hfo, rfl, ⟨hP1, hP2⟩, rfl⟩ | ⟨k, rfl, hk, rfl⟩
  · refine ⟨0, fo', V, _, ⟨by decide, by decide⟩, rfl, pwx, _, hR _, fun v2 w2 h2 => ?_⟩
    rcases h2 with ⟨-, -, rfl, rfl⟩ | ⟨hn, -⟩ | ⟨-, hn, -⟩
    · exact ⟨_, _, rfl, rfl, up2_at _ _ _ _, fun _ => hfo, fun _ => trivial, INV.of rfl (h.congV (VEQ_last _ _ _ _ _ _)) (hw.last 0) (fun j hj => hb j hj)⟩
    · exact absurd hP1 hn
    · exact absurd hP2 hn
  · rcases hk with ⟨rfl, hP⟩ | ⟨rfl, hP1, hP2⟩
    · refine ⟨1, fo, V, _, ⟨by decide, by decide⟩, rfl, pwx, _, hR _, fun v2 w2 h2 => ?_⟩
      rcases h2 with ⟨hn, -⟩ | ⟨-, h2⟩ | ⟨hn, -⟩
      · exact absurd hn hP
      · exact fl_stp h hw hb (by decide) h2
      · exact absurd hn hP
    · refine ⟨2, fo, V, _, ⟨by decide, by decide⟩, rfl, pwx, _, hR _, fun v2 w2 h2 => ?_⟩
      rcases h2 with ⟨-, hn, -⟩ | ⟨hn, -⟩ | ⟨-, -, h2⟩
      · exact absurd hn hP2
      · exact absurd hP1 hn
      · exact fl_stp h hw hb (by decide) h2
theorem pr_reading {a b : Int} (ra : -2147483648 ≤ a ∧ a < 2147483648) (rb : -2147483648 ≤ b ∧ b < 2147483648) (h : RX (gde G) L K I F R N O T g V n m t) (hw : WFV V n m t) (hb : WB V t) : PAIR l G base q (g 6 0) qo yL_reading wsL_reading rmL_reading yX6_reading wsX6_reading rmX6_reading [.int (iI a), .int (iI b)] (fun _ => True) (pw G (xo G q V qo fo) L K I F R N O) := by
  refine pair_rd (fun _ => trivial) h hw hb (w_reading ⟨h.1.x8.1, h.1.x8.2.1⟩ (c_X5_reading ra rb h hw) (fun v w hv => ?_) (fun E w hE => ⟨hE.2.1, hE.1, rfl, hE.2.2⟩)) (fun Y => c_X6_reading ra rb hw)
  obtain ⟨rfl, hP, rfl⟩ := hv
  exact ⟨_, rfl, L, K, I, F, R, N, O, rfl, fun _ _ => ⟨rfl, hP, rfl⟩⟩
theorem pr_errors {a : Int} (ra : -2147483648 ≤ a ∧ a < 2147483648) (h : RX (gde G) L K I F R N O T g V n m t) (hw : WFV V n m t) (hb : WB V t) : PAIR l G base q (g 6 0) qo yL_errors wsL_errors rmL_errors yX6_errors wsX6_errors rmX6_errors [.int (iI a)] (fun _ => True) (pw G (xo G q V qo fo) L K I F R N O) := by
  refine pair_rd (fun _ => trivial) h hw hb (w_errors ⟨h.1.x8.1, h.1.x8.2.1⟩ (c_X5_errors ra h hw) (fun v w hv => ?_) (fun E w hE => ⟨hE.2.1, hE.1, rfl, hE.2.2⟩)) (fun Y => c_X6_errors ra hw)
  obtain ⟨rfl, hP, rfl⟩ := hv
  exact ⟨_, rfl, L, K, I, F, R, N, O, rfl, fun _ _ => ⟨rfl, hP, rfl⟩⟩
theorem pr_shared {a b : Int} (ra : -2147483648 ≤ a ∧ a < 2147483648) (rb : -2147483648 ≤ b ∧ b < 2147483648) (h : RX (gde G) L K I F R N O T g V n m t) (hw : WFV V n m t) (hb : WB V t) : PAIR l G base q (g 6 0) qo yL_shared wsL_shared rmL_shared yX6_shared wsX6_shared rmX6_shared [.int (iI a), .int (iI b)] (fun _ => True) (pw G (xo G q V qo fo) L K I F R N O) := by
  refine pair_rd (fun _ => trivial) h hw hb (w_shared ⟨h.1.x8.1, h.1.x8.2.1⟩ (c_X5_shared ra rb h hw) (fun v w hv => ?_) (fun E w hE => ⟨hE.2.1, hE.1, rfl, hE.2.2⟩)) (fun Y => c_X6_shared ra rb hw)
  obtain ⟨rfl, hP, rfl⟩ := hv
  exact ⟨_, rfl, L, K, I, F, R, N, O, rfl, fun _ _ => ⟨rfl, hP, rfl⟩⟩
theorem pr_houseOf {a : Int} (ra : -2147483648 ≤ a ∧ a < 2147483648) (h : RX (gde G) L K I F R N O T g V n m t) (hw : WFV V n m t) (hb : WB V t) : PAIR l G base q (g 6 0) qo yL_houseOf wsL_houseOf rmL_houseOf yX6_houseOf wsX6_houseOf rmX6_houseOf [.int (iI a)] (fun _ => True) (pw G (xo G q V qo fo) L K I F R N O) := by
  refine pair_rd (fun _ => trivial) h hw hb (w_houseOf ⟨h.1.x8.1, h.1.x8.2.1⟩ (c_X5_houseOf ra h hw) (fun v w hv => ?_) (fun E w hE => ⟨hE.2.1, hE.1, rfl, hE.2.2⟩)) (fun Y => c_X6_houseOf ra hw)
  obtain ⟨rfl, hP, rfl⟩ := hv
  exact ⟨_, rfl, L, K, I, F, R, N, O, rfl, fun _ _ => ⟨rfl, hP, rfl⟩⟩
theorem pr_ownerOf {a : Int} (ra : -2147483648 ≤ a ∧ a < 2147483648) (h : RX (gde G) L K I F R N O T g V n m t) (hw : WFV V n m t) (hb : WB V t) : PAIR l G base q (g 6 0) qo yL_ownerOf wsL_ownerOf rmL_ownerOf yX6_ownerOf wsX6_ownerOf rmX6_ownerOf [.int (iI a)] (fun _ => True) (pw G (xo G q V qo fo) L K I F R N O) := by
  refine pair_rd (fun _ => trivial) h hw hb (w_ownerOf ⟨h.1.x8.1, h.1.x8.2.1⟩ (c_X5_ownerOf ra h hw) (fun v w hv => ?_) (fun E w hE => ⟨hE.2.1, hE.1, rfl, hE.2.2⟩)) (fun Y => c_X6_ownerOf ra hw)
  obtain ⟨rfl, hP, rfl⟩ := hv
  exact ⟨_, rfl, L, K, I, F, R, N, O, rfl, fun _ _ => ⟨rfl, hP, rfl⟩⟩
theorem pr_toldModel {a : Int} (ra : -2147483648 ≤ a ∧ a < 2147483648) (h : RX (gde G) L K I F R N O T g V n m t) (hw : WFV V n m t) (hb : WB V t) : PAIR l G base q (g 6 0) qo yL_toldModel wsL_toldModel rmL_toldModel yX6_toldModel wsX6_toldModel rmX6_toldModel [.int (iI a)] (fun _ => True) (pw G (xo G q V qo fo) L K I F R N O) := by
  refine pair_rd (fun _ => trivial) h hw hb (w_toldModel ⟨h.1.x8.1, h.1.x8.2.1⟩ (c_X5_toldModel ra h hw) (fun v w hv => ?_) (fun E w hE => ⟨hE.2.1, hE.1, rfl, hE.2.2⟩)) (fun Y => c_X6_toldModel ra hw)
  obtain ⟨rfl, hP, rfl⟩ := hv
  exact ⟨_, rfl, L, K, I, F, R, N, O, rfl, fun _ _ => ⟨rfl, hP, rfl⟩⟩
theorem pr_slips {a : Int} (ra : -2147483648 ≤ a ∧ a < 2147483648) (h : RX (gde G) L K I F R N O T g V n m t) (hw : WFV V n m t) (hb : WB V t) : PAIR l G base q (g 6 0) qo yL_slips wsL_slips rmL_slips yX6_slips wsX6_slips rmX6_slips [.int (iI a)] (fun _ => True) (pw G (xo G q V qo fo) L K I F R N O) := by
  refine pair_rd (fun _ => trivial) h hw hb (w_slips ⟨h.1.x8.1, h.1.x8.2.1⟩ (c_X5_slips ra h hw) (fun v w hv => ?_) (fun E w hE => ⟨hE.2.1, hE.1, rfl, hE.2.2⟩)) (fun Y => c_X6_slips ra hw)
  obtain ⟨rfl, hP, rfl⟩ := hv
  exact ⟨_, rfl, L, K, I, F, R, N, O, rfl, fun _ _ => ⟨rfl, hP, rfl⟩⟩
theorem pr_guess {a : Int} (ra : -2147483648 ≤ a ∧ a < 2147483648) (h : RX (gde G) L K I F R N O T g V n m t) (hw : WFV V n m t) (hb : WB V t) : PAIR l G base q (g 6 0) qo yL_guess wsL_guess rmL_guess yX6_guess wsX6_guess rmX6_guess [.int (iI a)] (fun _ => True) (pw G (xo G q V qo fo) L K I F R N O) := by
  refine pair_rd (fun _ => trivial) h hw hb (w_guess ⟨h.1.x8.1, h.1.x8.2.1⟩ (c_X5_guess ra h hw) (fun v w hv => ?_) (fun E w hE => ⟨hE.2.1, hE.1, rfl, hE.2.2⟩)) (fun Y => c_X6_guess ra hw)
  obtain ⟨rfl, hP, rfl⟩ := hv
  exact ⟨_, rfl, L, K, I, F, R, N, O, rfl, fun _ _ => ⟨rfl, hP, rfl⟩⟩
theorem pr_letter {a : Int} (ra : -2147483648 ≤ a ∧ a < 2147483648) (h : RX (gde G) L K I F R N O T g V n m t) (hw : WFV V n m t) (hb : WB V t) : PAIR l G base q (g 6 0) qo yL_letter wsL_letter rmL_letter yX6_letter wsX6_letter rmX6_letter [.int (iI a)] (fun _ => True) (pw G (xo G q V qo fo) L K I F R N O) := by
  refine pair_rd (fun _ => trivial) h hw hb (w_letter ⟨h.1.x8.1, h.1.x8.2.1⟩ (c_X5_letter ra h hw) (fun v w hv => ?_) (fun E w hE => ⟨hE.2.1, hE.1, rfl, hE.2.2⟩)) (fun Y => c_X6_letter ra hw)
  obtain ⟨rfl, hP, rfl⟩ := hv
  exact ⟨_, rfl, L, K, I, F, R, N, O, rfl, fun _ _ => ⟨rfl, hP, rfl⟩⟩
theorem pr_late {a : Int} (ra : -2147483648 ≤ a ∧ a < 2147483648) (h : RX (gde G) L K I F R N O T g V n m t) (hw : WFV V n m t) (hb : WB V t) : PAIR l G base q (g 6 0) qo yL_late wsL_late rmL_late yX6_late wsX6_late rmX6_late [.int (iI a)] (fun _ => True) (pw G (xo G q V qo fo) L K I F R N O) := by
  refine pair_rd (fun _ => trivial) h hw hb (w_late ⟨h.1.x8.1, h.1.x8.2.1⟩ (c_X5_late ra h hw) (fun v w hv => ?_) (fun E w hE => ⟨hE.2.1, hE.1, rfl, hE.2.2⟩)) (fun Y => c_X6_late ra hw)
  obtain ⟨rfl, hP, rfl⟩ := hv
  exact ⟨_, rfl, L, K, I, F, R, N, O, rfl, fun _ _ => ⟨rfl, hP, rfl⟩⟩
theorem pr_coins {a : Int} (ra : -2147483648 ≤ a ∧ a < 2147483648) (h : RX (gde G) L K I F R N O T g V n m t) (hw : WFV V n m t) (hb : WB V t) : PAIR l G base q (g 6 0) qo yL_coins wsL_coins rmL_coins yX6_coins wsX6_coins rmX6_coins [.int (iI a)] (fun _ => True) (pw G (xo G q V qo fo) L K I F R N O) := by
  refine pair_rd (fun _ => trivial) h hw hb (w_coins ⟨h.1.x8.1, h.1.x8.2.1⟩ (c_X5_coins ra h hw) (fun v w hv => ?_) (fun E w hE => ⟨hE.2.1, hE.1, rfl, hE.2.2⟩)) (fun Y => c_X6_coins ra hw)
  obtain ⟨rfl, hP, rfl⟩ := hv
  exact ⟨_, rfl, L, K, I, F, R, N, O, rfl, fun _ _ => ⟨rfl, hP, rfl⟩⟩
theorem pr_laidDown {a : Int} (ra : -2147483648 ≤ a ∧ a < 2147483648) (h : RX (gde G) L K I F R N O T g V n m t) (hw : WFV V n m t) (hb : WB V t) : PAIR l G base q (g 6 0) qo yL_laidDown wsL_laidDown rmL_laidDown yX6_laidDown wsX6_laidDown rmX6_laidDown [.int (iI a)] (fun _ => True) (pw G (xo G q V qo fo) L K I F R N O) := by
  refine pair_rd (fun _ => trivial) h hw hb (w_laidDown ⟨h.1.x8.1, h.1.x8.2.1⟩ (c_X5_laidDown ra h hw) (fun v w hv => ?_) (fun E w hE => ⟨hE.2.1, hE.1, rfl, hE.2.2⟩)) (fun Y => c_X6_laidDown ra hw)
  obtain ⟨rfl, hP, rfl⟩ := hv
  exact ⟨_, rfl, L, K, I, F, R, N, O, rfl, fun _ _ => ⟨rfl, hP, rfl⟩⟩
theorem pr_hasLetter {a b : Int} (ra : -2147483648 ≤ a ∧ a < 2147483648) (rb : -2147483648 ≤ b ∧ b < 2147483648) (h : RX (gde G) L K I F R N O T g V n m t) (hw : WFV V n m t) (hb : WB V t) : PAIR l G base q (g 6 0) qo yL_hasLetter wsL_hasLetter rmL_hasLetter yX6_hasLetter wsX6_hasLetter rmX6_hasLetter [.int (iI a), .int (iI b)] (fun b => b = 0 ∨ b = 1) (pw G (xo G q V qo fo) L K I F R N O) := by
  refine pair_rd (fun hP => ?_) h hw hb (w_hasLetter ⟨h.1.x8.1, h.1.x8.2.1⟩ (c_X5_hasLetter ra rb h hw) (fun v w hv => ?_) (fun E w hE => ⟨hE.2.1, hE.1, rfl, hE.2.2⟩)) (fun Y => c_X6_hasLetter ra rb hw)
  · exact hw.2.2.2.2.2.2.2.2.1.1 (60 * a.toNat + b.toNat) (by have := hw.2.1; omega)
  obtain ⟨rfl, hP, rfl⟩ := hv
  exact ⟨_, rfl, hw.2.2.2.2.2.2.2.2.1.1 (60 * a.toNat + b.toNat) (by have := hw.2.1; omega), L, K, I, F, R, N, O, rfl, fun _ _ => ⟨rfl, hP, rfl⟩⟩
theorem pr_isBack {a : Int} (ra : -2147483648 ≤ a ∧ a < 2147483648) (h : RX (gde G) L K I F R N O T g V n m t) (hw : WFV V n m t) (hb : WB V t) : PAIR l G base q (g 6 0) qo yL_isBack wsL_isBack rmL_isBack yX6_isBack wsX6_isBack rmX6_isBack [.int (iI a)] (fun b => b = 0 ∨ b = 1) (pw G (xo G q V qo fo) L K I F R N O) := by
  refine pair_rd (fun hP => ?_) h hw hb (w_isBack ⟨h.1.x8.1, h.1.x8.2.1⟩ (c_X5_isBack ra h hw) (fun v w hv => ?_) (fun E w hE => ⟨hE.2.1, hE.1, rfl, hE.2.2⟩)) (fun Y => c_X6_isBack ra hw)
  · exact hw.2.2.2.2.2.2.2.2.2.2.1 a.toNat (by have := hw.2.1; omega)
  obtain ⟨rfl, hP, rfl⟩ := hv
  exact ⟨_, rfl, hw.2.2.2.2.2.2.2.2.2.2.1 a.toNat (by have := hw.2.1; omega), L, K, I, F, R, N, O, rfl, fun _ _ => ⟨rfl, hP, rfl⟩⟩
theorem pr_spread {a b : Int} (ra : -2147483648 ≤ a ∧ a < 2147483648) (rb : -2147483648 ≤ b ∧ b < 2147483648) (h : RX (gde G) L K I F R N O T g V n m t) (hw : WFV V n m t) (hb : WB V t) : PAIR l G base q (g 6 0) qo yL_spread wsL_spread rmL_spread yX6_spread wsX6_spread rmX6_spread [.int (iI a), .int (iI b)] (fun _ => True) (pw G (xo G q V qo fo) L K I F R N O) := by
  refine pair_rd2 h hw hb (w_spread ⟨h.1.x8.1, h.1.x8.2.1⟩ (c_X5_spread ra rb h hw) (fun v w hv => ?_) (fun E w hE => ?_)) (fun Y => c_X6_spread ra rb hw)
  · obtain ⟨rfl, hP1, hP2, rfl⟩ := hv
    exact ⟨_, rfl, L, K, I, F, R, N, O, rfl, fun _ _ => ⟨rfl, ⟨hP1, hP2⟩, rfl⟩⟩
  · obtain ⟨rfl, hE⟩ := hE
    refine ⟨rfl, ?_⟩
    rcases hE with ⟨rfl, e⟩ | ⟨rfl, e1, e2⟩
    · exact .inl ⟨rfl, .inl ⟨rfl, e⟩⟩
    · exact .inr ⟨rfl, .inr ⟨rfl, e1, e2⟩⟩
theorem pr_sources {a b : Int} (ra : -2147483648 ≤ a ∧ a < 2147483648) (rb : -2147483648 ≤ b ∧ b < 2147483648) (h : RX (gde G) L K I F R N O T g V n m t) (hw : WFV V n m t) (hb : WB V t) : PAIR l G base q (g 6 0) qo yL_sources wsL_sources rmL_sources yX6_sources wsX6_sources rmX6_sources [.int (iI a), .int (iI b)] (fun _ => True) (pw G (xo G q V qo fo) L K I F R N O) := by
  refine pair_rd2 h hw hb (w_sources ⟨h.1.x8.1, h.1.x8.2.1⟩ (c_X5_sources ra rb h hw) (fun v w hv => ?_) (fun E w hE => ?_)) (fun Y => c_X6_sources ra rb hw)
  · obtain ⟨rfl, hP1, hP2, rfl⟩ := hv
    exact ⟨_, rfl, L, K, I, F, R, N, O, rfl, fun _ _ => ⟨rfl, ⟨hP1, hP2⟩, rfl⟩⟩
  · obtain ⟨rfl, hE⟩ := hE
    refine ⟨rfl, ?_⟩
    rcases hE with ⟨rfl, e⟩ | ⟨rfl, e1, e2⟩
    · exact .inl ⟨rfl, .inl ⟨rfl, e⟩⟩
    · exact .inr ⟨rfl, .inr ⟨rfl, e1, e2⟩⟩
theorem pr_family {a : Int} (ra : -2147483648 ≤ a ∧ a < 2147483648) (h : RX (gde G) L K I F R N O T g V n m t) (hw : WFV V n m t) (hb : WB V t) : PAIR l G base q (g 6 0) qo yL_family wsL_family rmL_family yX6_family wsX6_family rmX6_family [.int (iI a)] (fun _ => True) (pw G (xo G q V qo fo) L K I F R N O) := by
  refine ⟨_, w_family (Qs := fun z fo' w => (∃ f : Nat → Int, IsFam V n f ∧ z = f a.toNat) ∧ (0 ≤ a ∧ a < n) ∧ w = pw G (xo G q V qo fo') L K I F R N O) (bad := fun k => k = 1 ∧ ¬ (0 ≤ a ∧ a < n)) ⟨h.1.x8.1, h.1.x8.2.1⟩ (c_X5_family ra h hw) (fun v w hv => ?_) (fun E w hE => ⟨hE.2.1, hE.1, rfl, hE.2.2⟩), fun v w hv => ?_⟩
  · obtain ⟨rfl, hP, f, hf, rfl⟩ := hv
    exact ⟨_, rfl, L, K, I, F, R, N, O, rfl, fun _ _ => ⟨⟨f, hf, rfl⟩, hP, rfl⟩⟩
  rcases hv with ⟨z, fo', rfl, hfo, ⟨f, hf, rfl⟩, hP, rfl⟩ | ⟨k, rfl, ⟨rfl, hP⟩, rfl⟩
  · refine ⟨0, fo', V, _, ⟨by decide, by decide⟩, rfl, pwx, _, c_X6_family ra hw, fun v2 w2 h2 => ?_⟩
    rcases h2 with ⟨-, f', hf', rfl, rfl⟩ | ⟨hn, -⟩
    · have e := hf.uniq hf' (i := a.toNat) (by omega)
      exact ⟨_, _, rfl, rfl, rfl, fun _ => by rw [← e]; exact hfo, fun _ => trivial, INV.of rfl (h.congV (VEQ_fam _ _ _ _ _ _ _)) ((hw.last 0).fam f') (fun j hj => hb j hj)⟩
    · exact absurd hP hn
  · refine ⟨1, fo, V, _, ⟨by decide, by decide⟩, rfl, pwx, _, c_X6_family ra hw, fun v2 w2 h2 => ?_⟩
    rcases h2 with ⟨hn, -⟩ | ⟨-, h2⟩
    · exact absurd hn hP
    · exact fl_stp h hw hb (by decide) h2
theorem pr_familyByErrors {a : Int} (ra : -2147483648 ≤ a ∧ a < 2147483648) (h : RX (gde G) L K I F R N O T g V n m t) (hw : WFV V n m t) (hb : WB V t) : PAIR l G base q (g 6 0) qo yL_familyByErrors wsL_familyByErrors rmL_familyByErrors yX6_familyByErrors wsX6_familyByErrors rmX6_familyByErrors [.int (iI a)] (fun _ => True) (pw G (xo G q V qo fo) L K I F R N O) := by
  refine ⟨_, w_familyByErrors (Qs := fun z fo' w => (∃ f : Nat → Int, IsFam V n f ∧ z = f a.toNat) ∧ (0 ≤ a ∧ a < n) ∧ w = pw G (xo G q V qo fo') L K I F R N O) (bad := fun k => k = 1 ∧ ¬ (0 ≤ a ∧ a < n)) ⟨h.1.x8.1, h.1.x8.2.1⟩ (c_X5_familyByErrors ra h hw) (fun v w hv => ?_) (fun E w hE => ⟨hE.2.1, hE.1, rfl, hE.2.2⟩), fun v w hv => ?_⟩
  · obtain ⟨rfl, hP, f, hf, rfl⟩ := hv
    exact ⟨_, rfl, L, K, I, F, R, N, O, rfl, fun _ _ => ⟨⟨f, hf, rfl⟩, hP, rfl⟩⟩
  rcases hv with ⟨z, fo', rfl, hfo, ⟨f, hf, rfl⟩, hP, rfl⟩ | ⟨k, rfl, ⟨rfl, hP⟩, rfl⟩
  · refine ⟨0, fo', V, _, ⟨by decide, by decide⟩, rfl, pwx, _, c_X6_familyByErrors ra hw, fun v2 w2 h2 => ?_⟩
    rcases h2 with ⟨-, f', hf', rfl, rfl⟩ | ⟨hn, -⟩
    · have e := hf.uniq hf' (i := a.toNat) (by omega)
      exact ⟨_, _, rfl, rfl, rfl, fun _ => by rw [← e]; exact hfo, fun _ => trivial, INV.of rfl (h.congV (VEQ_fam _ _ _ _ _ _ _)) ((hw.last 0).fam f') (fun j hj => hb j hj)⟩
    · exact absurd hP hn
  · refine ⟨1, fo, V, _, ⟨by decide, by decide⟩, rfl, pwx, _, c_X6_familyByErrors ra hw, fun v2 w2 h2 => ?_⟩
    rcases h2 with ⟨hn, -⟩ | ⟨-, h2⟩
    · exact absurd hn hP
    · exact fl_stp h hw hb (by decide) h2
theorem pr_slip {a b : Int} (ra : -2147483648 ≤ a ∧ a < 2147483648) (rb : -2147483648 ≤ b ∧ b < 2147483648) (h : RX (gde G) L K I F R N O T g V n m t) (hw : WFV V n m t) (hb : WB V t) : PAIR l G base q (g 6 0) qo yL_slip wsL_slip rmL_slip yX6_slip wsX6_slip rmX6_slip [.int (iI a), .int (iI b)] (fun _ => True) (pw G (xo G q V qo fo) L K I F R N O) := by
  refine ⟨_, w_slip (Qs := fun z fo' w => z = nsSlip V a.toNat b 7 0 ∧ ((0 ≤ a ∧ a < 24) ∧ (-1 ≤ b ∧ b ≤ 9) ∧ (okSlip V a b)) ∧ MUT G (xo G q V qo fo') (g 6 0) (fun V' => V' = nsSlip V a.toNat b) n m t w) (bad := fun k => (k = 1 ∧ ¬ (0 ≤ a ∧ a < 24)) ∨ (k = 2 ∧ (0 ≤ a ∧ a < 24) ∧ ¬ (-1 ≤ b ∧ b ≤ 9)) ∨ (k = 3 ∧ (0 ≤ a ∧ a < 24) ∧ (-1 ≤ b ∧ b ≤ 9) ∧ ¬ (okSlip V a b))) ⟨h.1.x8.1, h.1.x8.2.1⟩ (c_X5_slip ra rb h hw) (fun v w hv => ?_) (fun E w hE => ?_), fun v w hv => ?_⟩
  · obtain ⟨hP, rfl, L', K', I', F', R', N', O', T', g', rfl, e, hV⟩ := hv
    exact ⟨_, rfl, L', K', I', F', R', N', O', rfl, fun _ _ => ⟨rfl, hP, L', K', I', F', R', N', O', T', g', rfl, e, hV⟩⟩
  · obtain ⟨rfl, hE⟩ := hE
    refine ⟨rfl, ?_⟩
    rcases hE with ⟨rfl, e⟩ | ⟨rfl, e⟩ | ⟨rfl, e⟩
    · exact .inl (⟨rfl, .inl (⟨rfl, e⟩)⟩)
    · exact .inr (.inl (⟨rfl, .inr (.inl (⟨rfl, e⟩))⟩))
    · exact .inr (.inr (⟨rfl, .inr (.inr (⟨rfl, e⟩))⟩))
  rcases hv with ⟨z, fo', rfl, hfo, rfl, ⟨hP1, hP2, hP3⟩, L', K', I', F', R', N', O', T', g', rfl, e, hV⟩ | ⟨k, rfl, hk, rfl⟩
  · refine ⟨0, fo', V, _, ⟨by decide, by decide⟩, rfl, pwx, _, c_X6_slip ra rb hw, fun v2 w2 h2 => ?_⟩
    rcases h2 with ⟨-, -, -, rfl, rfl⟩ | ⟨hn, -⟩ | ⟨-, hn, -⟩ | ⟨-, -, hn, -⟩
    · exact ⟨_, _, rfl, rfl, rfl, fun _ => hfo, fun _ => trivial, INV.of e ((hV _ rfl).congV ⟨rfl, fun _ _ => rfl, rfl, fun _ _ => rfl, fun _ _ => ⟨rfl, rfl⟩, fun _ _ _ _ => rfl, fun _ _ => ⟨rfl, rfl, rfl, rfl⟩, fun _ _ _ _ => rfl, fun _ _ => ⟨rfl, rfl, rfl⟩, fun _ _ => ⟨rfl, rfl, rfl, rfl, rfl, rfl⟩⟩) (hw.slip hP2) (fun j hj => hb j hj)⟩
    · exact absurd hP1 hn
    · exact absurd hP2 hn
    · exact absurd hP3 hn
  · rcases hk with ⟨rfl, hN⟩ | ⟨rfl, hP1, hN⟩ | ⟨rfl, hP1, hP2, hN⟩
    · refine ⟨1, fo, V, _, ⟨by decide, by decide⟩, rfl, pwx, _, c_X6_slip ra rb hw, fun v2 w2 h2 => ?_⟩
      rcases h2 with ⟨hn, -⟩ | ⟨-, h2⟩ | ⟨hn, -⟩ | ⟨hn, -⟩
      · exact absurd hn hN
      · exact fl_stp h hw hb (by decide) h2
      · exact absurd hn hN
      · exact absurd hn hN
    · refine ⟨2, fo, V, _, ⟨by decide, by decide⟩, rfl, pwx, _, c_X6_slip ra rb hw, fun v2 w2 h2 => ?_⟩
      rcases h2 with ⟨-, hn, -⟩ | ⟨hn, -⟩ | ⟨-, -, h2⟩ | ⟨-, hn, -⟩
      · exact absurd hn hN
      · exact absurd hP1 hn
      · exact fl_stp h hw hb (by decide) h2
      · exact absurd hn hN
    · refine ⟨3, fo, V, _, ⟨by decide, by decide⟩, rfl, pwx, _, c_X6_slip ra rb hw, fun v2 w2 h2 => ?_⟩
      rcases h2 with ⟨-, -, hn, -⟩ | ⟨hn, -⟩ | ⟨-, hn, -⟩ | ⟨-, -, -, h2⟩
      · exact absurd hn hN
      · exact absurd hP1 hn
      · exact absurd hP2 hn
      · exact fl_stp h hw hb (by decide) h2
theorem pr_pass {a : Int} (ra : -2147483648 ≤ a ∧ a < 2147483648) (h : RX (gde G) L K I F R N O T g V n m t) (hw : WFV V n m t) (hb : WB V t) : PAIR l G base q (g 6 0) qo yL_pass wsL_pass rmL_pass yX6_pass wsX6_pass rmX6_pass [.int (iI a)] (fun _ => True) (pw G (xo G q V qo fo) L K I F R N O) := by
  refine ⟨_, w_pass (Qs := fun z fo' w => z = V 9 0 + a ∧ ((1 ≤ a ∧ a ≤ 200) ∧ (V 9 0 + a ≤ 2000)) ∧ MUT G (xo G q V qo fo') (g 6 0) (fun V' => V' = up2 V 9 0 (V 9 0 + a)) n m t w) (bad := fun k => (k = 1 ∧ ¬ (1 ≤ a ∧ a ≤ 200)) ∨ (k = 2 ∧ (1 ≤ a ∧ a ≤ 200) ∧ ¬ (V 9 0 + a ≤ 2000))) ⟨h.1.x8.1, h.1.x8.2.1⟩ (c_X5_pass ra h hw) (fun v w hv => ?_) (fun E w hE => ?_), fun v w hv => ?_⟩
  · obtain ⟨hP, rfl, L', K', I', F', R', N', O', T', g', rfl, e, hV⟩ := hv
    exact ⟨_, rfl, L', K', I', F', R', N', O', rfl, fun _ _ => ⟨rfl, hP, L', K', I', F', R', N', O', T', g', rfl, e, hV⟩⟩
  · obtain ⟨rfl, hE⟩ := hE
    refine ⟨rfl, ?_⟩
    rcases hE with ⟨rfl, e⟩ | ⟨rfl, e⟩
    · exact .inl (⟨rfl, .inl (⟨rfl, e⟩)⟩)
    · exact .inr (⟨rfl, .inr (⟨rfl, e⟩)⟩)
  rcases hv with ⟨z, fo', rfl, hfo, rfl, ⟨hP1, hP2⟩, L', K', I', F', R', N', O', T', g', rfl, e, hV⟩ | ⟨k, rfl, hk, rfl⟩
  · refine ⟨0, fo', V, _, ⟨by decide, by decide⟩, rfl, pwx, _, c_X6_pass ra hw, fun v2 w2 h2 => ?_⟩
    rcases h2 with ⟨-, -, rfl, rfl⟩ | ⟨hn, -⟩ | ⟨-, hn, -⟩
    · exact ⟨_, _, rfl, rfl, rfl, fun _ => hfo, fun _ => trivial, INV.of e ((hV _ rfl).congV ⟨rfl, fun _ _ => rfl, rfl, fun _ _ => rfl, fun _ _ => ⟨rfl, rfl⟩, fun _ _ _ _ => rfl, fun _ _ => ⟨rfl, rfl, rfl, rfl⟩, fun _ _ _ _ => rfl, fun _ _ => ⟨rfl, rfl, rfl⟩, fun _ _ => ⟨rfl, rfl, rfl, rfl, rfl, rfl⟩⟩) (hw.pass ⟨by have := hw.2.2.2.2.2.2.2.2.2.2.2; omega, hP2⟩) (fun j hj => hb j hj)⟩
    · exact absurd hP1 hn
    · exact absurd hP2 hn
  · rcases hk with ⟨rfl, hN⟩ | ⟨rfl, hP1, hN⟩
    · refine ⟨1, fo, V, _, ⟨by decide, by decide⟩, rfl, pwx, _, c_X6_pass ra hw, fun v2 w2 h2 => ?_⟩
      rcases h2 with ⟨hn, -⟩ | ⟨-, h2⟩ | ⟨hn, -⟩
      · exact absurd hn hN
      · exact fl_stp h hw hb (by decide) h2
      · exact absurd hn hN
    · refine ⟨2, fo, V, _, ⟨by decide, by decide⟩, rfl, pwx, _, c_X6_pass ra hw, fun v2 w2 h2 => ?_⟩
      rcases h2 with ⟨-, hn, -⟩ | ⟨hn, -⟩ | ⟨-, -, h2⟩
      · exact absurd hn hN
      · exact absurd hP1 hn
      · exact fl_stp h hw hb (by decide) h2
theorem pr_correct {a b c d : Int} (ra : -2147483648 ≤ a ∧ a < 2147483648) (rb : -2147483648 ≤ b ∧ b < 2147483648) (rc : -2147483648 ≤ c ∧ c < 2147483648) (rd : -2147483648 ≤ d ∧ d < 2147483648) (h : RX (gde G) L K I F R N O T g V n m t) (hw : WFV V n m t) (hb : WB V t) : PAIR l G base q (g 6 0) qo yL_correct wsL_correct rmL_correct yX6_correct wsX6_correct rmX6_correct [.int (iI a), .int (iI b), .int (iI c), .int (iI d)] (fun _ => True) (pw G (xo G q V qo fo) L K I F R N O) := by
  refine ⟨_, w_correct (Qs := fun z fo' w => z = (m : Int) ∧ (((0 ≤ a ∧ a < 5) ∧ (0 ≤ b ∧ b < n) ∧ (0 ≤ c ∧ c < n) ∧ 0 ≤ d ∧ d < 24) ∧ (okCorrect V m a b c d)) ∧ MUT G (xo G q V qo fo') (g 6 0) (fun V' => V' = nsCorrect V m a.toNat b.toNat c.toNat d.toNat) n (m + 1) t w) (bad := fun k => (k = 1 ∧ ¬ ((0 ≤ a ∧ a < 5) ∧ (0 ≤ b ∧ b < n) ∧ (0 ≤ c ∧ c < n) ∧ 0 ≤ d ∧ d < 24)) ∨ (k = 2 ∧ ((0 ≤ a ∧ a < 5) ∧ (0 ≤ b ∧ b < n) ∧ (0 ≤ c ∧ c < n) ∧ 0 ≤ d ∧ d < 24) ∧ ¬ (okCorrect V m a b c d))) ⟨h.1.x8.1, h.1.x8.2.1⟩ (c_X5_correct ra rb rc rd h hw) (fun v w hv => ?_) (fun E w hE => ?_), fun v w hv => ?_⟩
  · obtain ⟨hP, rfl, L', K', I', F', R', N', O', T', g', rfl, e, hV⟩ := hv
    exact ⟨_, rfl, L', K', I', F', R', N', O', rfl, fun _ _ => ⟨rfl, hP, L', K', I', F', R', N', O', T', g', rfl, e, hV⟩⟩
  · obtain ⟨rfl, hE⟩ := hE
    refine ⟨rfl, ?_⟩
    rcases hE with ⟨rfl, e⟩ | ⟨rfl, e⟩
    · exact .inl (⟨rfl, .inl (⟨rfl, e⟩)⟩)
    · exact .inr (⟨rfl, .inr (⟨rfl, e⟩)⟩)
  rcases hv with ⟨z, fo', rfl, hfo, rfl, ⟨hP1, hP2⟩, L', K', I', F', R', N', O', T', g', rfl, e, hV⟩ | ⟨k, rfl, hk, rfl⟩
  · refine ⟨0, fo', V, _, ⟨by decide, by decide⟩, rfl, pwx, _, c_X6_correct ra rb rc rd hw, fun v2 w2 h2 => ?_⟩
    rcases h2 with ⟨-, -, rfl, rfl⟩ | ⟨hn, -⟩ | ⟨-, hn, -⟩
    · exact ⟨_, _, rfl, rfl, rfl, fun _ => hfo, fun _ => trivial, INV.of e ((hV _ rfl).congV ⟨rfl, fun _ _ => rfl, rfl, fun _ _ => rfl, fun _ _ => ⟨rfl, rfl⟩, fun _ _ _ _ => rfl, fun _ _ => ⟨rfl, rfl, rfl, rfl⟩, fun _ _ _ _ => rfl, fun _ _ => ⟨rfl, rfl, rfl⟩, fun _ _ => ⟨rfl, rfl, rfl, rfl, rfl, rfl⟩⟩) (hw.correct hP2.2.2.2 (by omega) (by omega) (by omega) (by omega)) (fun j hj => hb j hj)⟩
    · exact absurd hP1 hn
    · exact absurd hP2 hn
  · rcases hk with ⟨rfl, hN⟩ | ⟨rfl, hP1, hN⟩
    · refine ⟨1, fo, V, _, ⟨by decide, by decide⟩, rfl, pwx, _, c_X6_correct ra rb rc rd hw, fun v2 w2 h2 => ?_⟩
      rcases h2 with ⟨hn, -⟩ | ⟨-, h2⟩ | ⟨hn, -⟩
      · exact absurd hn hN
      · exact fl_stp h hw hb (by decide) h2
      · exact absurd hn hN
    · refine ⟨2, fo, V, _, ⟨by decide, by decide⟩, rfl, pwx, _, c_X6_correct ra rb rc rd hw, fun v2 w2 h2 => ?_⟩
      rcases h2 with ⟨-, hn, -⟩ | ⟨hn, -⟩ | ⟨-, -, h2⟩
      · exact absurd hn hN
      · exact absurd hP1 hn
      · exact fl_stp h hw hb (by decide) h2
theorem pr_workIn {a b : Int} (ra : -2147483648 ≤ a ∧ a < 2147483648) (rb : -2147483648 ≤ b ∧ b < 2147483648) (h : RX (gde G) L K I F R N O T g V n m t) (hw : WFV V n m t) (hb : WB V t) : PAIR l G base q (g 6 0) qo yL_workIn wsL_workIn rmL_workIn yX6_workIn wsX6_workIn rmX6_workIn [.int (iI a), .int (iI b)] (fun _ => True) (pw G (xo G q V qo fo) L K I F R N O) := by
  refine ⟨_, w_workIn (Qs := fun z fo' w => z = (wkV V a.toNat (rdV V b.toNat) m).2 ∧ (((0 ≤ a ∧ a < 5) ∧ 0 ≤ b ∧ b < n) ∧ (V 4 b.toNat = a)) ∧ MUT G (xo G q V qo fo') (g 6 0) (fun V' => ∃ f, wkR V a.toNat b.toNat m f ∧ V' = va_up V 0 f) n m t w) (bad := fun k => (k = 1 ∧ ¬ ((0 ≤ a ∧ a < 5) ∧ 0 ≤ b ∧ b < n)) ∨ (k = 2 ∧ ((0 ≤ a ∧ a < 5) ∧ 0 ≤ b ∧ b < n) ∧ ¬ (V 4 b.toNat = a))) ⟨h.1.x8.1, h.1.x8.2.1⟩ (c_X5_workIn ra rb h hw) (fun v w hv => ?_) (fun E w hE => ?_), fun v w hv => ?_⟩
  · obtain ⟨hP, rfl, L', K', I', F', R', N', O', T', g', rfl, e, hV⟩ := hv
    exact ⟨_, rfl, L', K', I', F', R', N', O', rfl, fun _ _ => ⟨rfl, hP, L', K', I', F', R', N', O', T', g', rfl, e, hV⟩⟩
  · obtain ⟨rfl, hE⟩ := hE
    refine ⟨rfl, ?_⟩
    rcases hE with ⟨rfl, e⟩ | ⟨rfl, e⟩
    · exact .inl (⟨rfl, .inl (⟨rfl, e⟩)⟩)
    · exact .inr (⟨rfl, .inr (⟨rfl, e⟩)⟩)
  rcases hv with ⟨z, fo', rfl, hfo, rfl, ⟨hP1, hP2⟩, L', K', I', F', R', N', O', T', g', rfl, e, hV⟩ | ⟨k, rfl, hk, rfl⟩
  · refine ⟨0, fo', V, _, ⟨by decide, by decide⟩, rfl, pwx, _, c_X6_workIn ra rb hw, fun v2 w2 h2 => ?_⟩
    rcases h2 with ⟨-, -, rfl, f, hf, rfl⟩ | ⟨hn, -⟩ | ⟨-, hn, -⟩
    · exact ⟨_, _, rfl, rfl, rfl, fun _ => hfo, fun _ => trivial, INV.of e ((hV _ ⟨f, hf, rfl⟩).congV ⟨rfl, fun _ _ => rfl, rfl, fun _ _ => rfl, fun _ _ => ⟨rfl, rfl⟩, fun _ _ _ _ => rfl, fun _ _ => ⟨rfl, rfl, rfl, rfl⟩, fun _ _ _ _ => rfl, fun _ _ => ⟨rfl, rfl, rfl⟩, fun _ _ => ⟨rfl, rfl, rfl, rfl, rfl, rfl⟩⟩) (hw.work (by omega) hf) (fun j hj => hb j hj)⟩
    · exact absurd hP1 hn
    · exact absurd hP2 hn
  · rcases hk with ⟨rfl, hN⟩ | ⟨rfl, hP1, hN⟩
    · refine ⟨1, fo, V, _, ⟨by decide, by decide⟩, rfl, pwx, _, c_X6_workIn ra rb hw, fun v2 w2 h2 => ?_⟩
      rcases h2 with ⟨hn, -⟩ | ⟨-, h2⟩ | ⟨hn, -⟩
      · exact absurd hn hN
      · exact fl_stp h hw hb (by decide) h2
      · exact absurd hn hN
    · refine ⟨2, fo, V, _, ⟨by decide, by decide⟩, rfl, pwx, _, c_X6_workIn ra rb hw, fun v2 w2 h2 => ?_⟩
      rcases h2 with ⟨-, hn, -⟩ | ⟨hn, -⟩ | ⟨-, -, h2⟩
      · exact absurd hn hN
      · exact absurd hP1 hn
      · exact fl_stp h hw hb (by decide) h2
theorem pr_lend {a b c d : Int} (ra : -2147483648 ≤ a ∧ a < 2147483648) (rb : -2147483648 ≤ b ∧ b < 2147483648) (rc : -2147483648 ≤ c ∧ c < 2147483648) (rd : -2147483648 ≤ d ∧ d < 2147483648) (h : RX (gde G) L K I F R N O T g V n m t) (hw : WFV V n m t) (hb : WB V t) : PAIR l G base q (g 6 0) qo yL_lend wsL_lend rmL_lend yX6_lend wsX6_lend rmX6_lend [.int (iI a), .int (iI b), .int (iI c), .int (iI d)] (fun _ => True) (pw G (xo G q V qo fo) L K I F R N O) := by
  refine ⟨_, w_lend (Qs := fun z fo' w => z = (t : Int) ∧ (((0 ≤ a ∧ a < n) ∧ 0 ≤ b ∧ b < 5) ∧ ((1 ≤ c ∧ c ≤ 100) ∧ 0 ≤ d ∧ d ≤ 50) ∧ (okLend V t a b d)) ∧ MUT G (xo G q V qo fo') (g 6 0) (fun V' => ∃ f, gtL V m b.toNat (V 3 a.toNat).toNat f ∧ V' = up2 (va_up (nsLend V t a.toNat b.toNat c d) 13 f) 21 0 (t + 1)) n m (t + 1) w) (bad := fun k => (k = 1 ∧ ¬ ((0 ≤ a ∧ a < n) ∧ 0 ≤ b ∧ b < 5)) ∨ (k = 2 ∧ ((0 ≤ a ∧ a < n) ∧ 0 ≤ b ∧ b < 5) ∧ ¬ ((1 ≤ c ∧ c ≤ 100) ∧ 0 ≤ d ∧ d ≤ 50)) ∨ (k = 3 ∧ ((0 ≤ a ∧ a < n) ∧ 0 ≤ b ∧ b < 5) ∧ ((1 ≤ c ∧ c ≤ 100) ∧ 0 ≤ d ∧ d ≤ 50) ∧ ¬ (okLend V t a b d))) ⟨h.1.x8.1, h.1.x8.2.1⟩ (c_X5_lend ra rb rc rd h hw hb) (fun v w hv => ?_) (fun E w hE => ?_), fun v w hv => ?_⟩
  · obtain ⟨hP, rfl, L', K', I', F', R', N', O', T', g', rfl, e, hV⟩ := hv
    exact ⟨_, rfl, L', K', I', F', R', N', O', rfl, fun _ _ => ⟨rfl, hP, L', K', I', F', R', N', O', T', g', rfl, e, hV⟩⟩
  · obtain ⟨rfl, hE⟩ := hE
    refine ⟨rfl, ?_⟩
    rcases hE with ⟨rfl, e⟩ | ⟨rfl, e⟩ | ⟨rfl, e⟩
    · exact .inl (⟨rfl, .inl (⟨rfl, e⟩)⟩)
    · exact .inr (.inl (⟨rfl, .inr (.inl (⟨rfl, e⟩))⟩))
    · exact .inr (.inr (⟨rfl, .inr (.inr (⟨rfl, e⟩))⟩))
  rcases hv with ⟨z, fo', rfl, hfo, rfl, ⟨hP1, hP2, hP3⟩, L', K', I', F', R', N', O', T', g', rfl, e, hV⟩ | ⟨k, rfl, hk, rfl⟩
  · refine ⟨0, fo', V, _, ⟨by decide, by decide⟩, rfl, pwx, _, c_X6_lend ra rb rc rd hw, fun v2 w2 h2 => ?_⟩
    rcases h2 with ⟨-, -, -, rfl, f, hf, rfl⟩ | ⟨hn, -⟩ | ⟨-, hn, -⟩ | ⟨-, -, hn, -⟩
    · rw [nsLend_last]
      exact ⟨_, _, rfl, rfl, up2_at _ _ _ _, fun _ => hfo, fun _ => trivial, INV.of e ((hV _ ⟨f, hf, rfl⟩).congV (VEQ_last _ _ _ _ _ _)) ((hw.lend (by omega) (by omega) hP2.1 hP2.2 hP3.2.2.2 hf).last 0) (fun j hj => hb j (by omega))⟩
    · exact absurd hP1 hn
    · exact absurd hP2 hn
    · exact absurd hP3 hn
  · rcases hk with ⟨rfl, hN⟩ | ⟨rfl, hP1, hN⟩ | ⟨rfl, hP1, hP2, hN⟩
    · refine ⟨1, fo, V, _, ⟨by decide, by decide⟩, rfl, pwx, _, c_X6_lend ra rb rc rd hw, fun v2 w2 h2 => ?_⟩
      rcases h2 with ⟨hn, -⟩ | ⟨-, h2⟩ | ⟨hn, -⟩ | ⟨hn, -⟩
      · exact absurd hn hN
      · exact fl_stp h hw hb (by decide) h2
      · exact absurd hn hN
      · exact absurd hn hN
    · refine ⟨2, fo, V, _, ⟨by decide, by decide⟩, rfl, pwx, _, c_X6_lend ra rb rc rd hw, fun v2 w2 h2 => ?_⟩
      rcases h2 with ⟨-, hn, -⟩ | ⟨hn, -⟩ | ⟨-, -, h2⟩ | ⟨-, hn, -⟩
      · exact absurd hn hN
      · exact absurd hP1 hn
      · exact fl_stp h hw hb (by decide) h2
      · exact absurd hn hN
    · refine ⟨3, fo, V, _, ⟨by decide, by decide⟩, rfl, pwx, _, c_X6_lend ra rb rc rd hw, fun v2 w2 h2 => ?_⟩
      rcases h2 with ⟨-, -, hn, -⟩ | ⟨hn, -⟩ | ⟨-, hn, -⟩ | ⟨-, -, -, h2⟩
      · exact absurd hn hN
      · exact absurd hP1 hn
      · exact absurd hP2 hn
      · exact fl_stp h hw hb (by decide) h2
theorem pr_giveBack {a : Int} (ra : -2147483648 ≤ a ∧ a < 2147483648) (h : RX (gde G) L K I F R N O T g V n m t) (hw : WFV V n m t) (hb : WB V t) : PAIR l G base q (g 6 0) qo yL_giveBack wsL_giveBack rmL_giveBack yX6_giveBack wsX6_giveBack rmX6_giveBack [.int (iI a)] (fun _ => True) (pw G (xo G q V qo fo) L K I F R N O) := by
  refine ⟨_, w_giveBack (Qs := fun z fo' w => z = lostOf (lateOf (V 9 0) (V 17 a.toNat)) (V 18 a.toNat) ∧ ((0 ≤ a ∧ a < t) ∧ (V 20 a.toNat = 0)) ∧ MUT G (xo G q V qo fo') (g 6 0) (fun V' => ∃ f, gtL V m (V 3 (V 15 a.toNat).toNat).toNat (V 16 a.toNat).toNat f ∧ V' = va_up (nsBack V a.toNat) 13 f) n m t w) (bad := fun k => (k = 1 ∧ ¬ (0 ≤ a ∧ a < t)) ∨ (k = 2 ∧ (0 ≤ a ∧ a < t) ∧ ¬ (V 20 a.toNat = 0))) ⟨h.1.x8.1, h.1.x8.2.1⟩ (c_X5_giveBack ra h hw) (fun v w hv => ?_) (fun E w hE => ?_), fun v w hv => ?_⟩
  · obtain ⟨hP, rfl, L', K', I', F', R', N', O', T', g', rfl, e, hV⟩ := hv
    exact ⟨_, rfl, L', K', I', F', R', N', O', rfl, fun _ _ => ⟨rfl, hP, L', K', I', F', R', N', O', T', g', rfl, e, hV⟩⟩
  · obtain ⟨rfl, hE⟩ := hE
    refine ⟨rfl, ?_⟩
    rcases hE with ⟨rfl, e⟩ | ⟨rfl, e⟩
    · exact .inl (⟨rfl, .inl (⟨rfl, e⟩)⟩)
    · exact .inr (⟨rfl, .inr (⟨rfl, e⟩)⟩)
  rcases hv with ⟨z, fo', rfl, hfo, rfl, ⟨hP1, hP2⟩, L', K', I', F', R', N', O', T', g', rfl, e, hV⟩ | ⟨k, rfl, hk, rfl⟩
  · refine ⟨0, fo', V, _, ⟨by decide, by decide⟩, rfl, pwx, _, c_X6_giveBack ra hw, fun v2 w2 h2 => ?_⟩
    rcases h2 with ⟨-, -, rfl, f, hf, rfl⟩ | ⟨hn, -⟩ | ⟨-, hn, -⟩
    · exact ⟨_, _, rfl, rfl, rfl, fun _ => hfo, fun _ => trivial, INV.of e ((hV _ ⟨f, hf, rfl⟩).congV ⟨rfl, fun _ _ => rfl, rfl, fun _ _ => rfl, fun _ _ => ⟨rfl, rfl⟩, fun _ _ _ _ => rfl, fun _ _ => ⟨rfl, rfl, rfl, rfl⟩, fun _ _ _ _ => rfl, fun _ _ => ⟨rfl, rfl, rfl⟩, fun _ _ => ⟨rfl, rfl, rfl, rfl, rfl, rfl⟩⟩) (hw.back (by omega) hf) (fun j hj => (va_up_ne (V 20) 1 (by omega)).trans (hb j hj))⟩
    · exact absurd hP1 hn
    · exact absurd hP2 hn
  · rcases hk with ⟨rfl, hN⟩ | ⟨rfl, hP1, hN⟩
    · refine ⟨1, fo, V, _, ⟨by decide, by decide⟩, rfl, pwx, _, c_X6_giveBack ra hw, fun v2 w2 h2 => ?_⟩
      rcases h2 with ⟨hn, -⟩ | ⟨-, h2⟩ | ⟨hn, -⟩
      · exact absurd hn hN
      · exact fl_stp h hw hb (by decide) h2
      · exact absurd hn hN
    · refine ⟨2, fo, V, _, ⟨by decide, by decide⟩, rfl, pwx, _, c_X6_giveBack ra hw, fun v2 w2 h2 => ?_⟩
      rcases h2 with ⟨-, hn, -⟩ | ⟨hn, -⟩ | ⟨-, -, h2⟩
      · exact absurd hn hN
      · exact absurd hP1 hn
      · exact fl_stp h hw hb (by decide) h2
theorem pr_copy {a b c d : Int} (ra : -2147483648 ≤ a ∧ a < 2147483648) (rb : -2147483648 ≤ b ∧ b < 2147483648) (rc : -2147483648 ≤ c ∧ c < 2147483648) (rd : d = 0 ∨ d = 1) (h : RX (gde G) L K I F R N O T g V n m t) (hw : WFV V n m t) (hb : WB V t) : PAIR l G base q (g 6 0) qo yL_copy wsL_copy rmL_copy yX6_copy wsX6_copy rmX6_copy [.int (iI a), .int (iI b), .int (iI c), .int (iI d)] (fun _ => True) (pw G (xo G q V qo fo) L K I F R N O) := by
  refine ⟨_, w_copy (Qs := fun z fo' w => z = (n : Int) ∧ (((0 ≤ a ∧ a < n) ∧ (0 ≤ b ∧ b < 6) ∧ 0 ≤ c ∧ c < 5) ∧ (V 4 a.toNat = c ∧ n < 40)) ∧ MUT G (xo G q V qo fo') (g 6 0) (fun V' => ∃ f0 f6 f8, cpR V n a.toNat b.toNat 24 f0 f6 f8 ∧ V' = nsCopy V n a.toNat c.toNat d f0 f6 f8) (n + 1) m t w) (bad := fun k => (k = 1 ∧ ¬ ((0 ≤ a ∧ a < n) ∧ (0 ≤ b ∧ b < 6) ∧ 0 ≤ c ∧ c < 5)) ∨ (k = 2 ∧ ((0 ≤ a ∧ a < n) ∧ (0 ≤ b ∧ b < 6) ∧ 0 ≤ c ∧ c < 5) ∧ ¬ (V 4 a.toNat = c ∧ n < 40))) ⟨h.1.x8.1, h.1.x8.2.1⟩ (c_X5_copy ra rb rc rd h hw) (fun v w hv => ?_) (fun E w hE => ?_), fun v w hv => ?_⟩
  · obtain ⟨hP, rfl, L', K', I', F', R', N', O', T', g', rfl, e, hV⟩ := hv
    exact ⟨_, rfl, L', K', I', F', R', N', O', rfl, fun _ _ => ⟨rfl, hP, L', K', I', F', R', N', O', T', g', rfl, e, hV⟩⟩
  · obtain ⟨rfl, hE⟩ := hE
    refine ⟨rfl, ?_⟩
    rcases hE with ⟨rfl, e⟩ | ⟨rfl, e⟩
    · exact .inl (⟨rfl, .inl (⟨rfl, e⟩)⟩)
    · exact .inr (⟨rfl, .inr (⟨rfl, e⟩)⟩)
  rcases hv with ⟨z, fo', rfl, hfo, rfl, ⟨hP1, hP2⟩, L', K', I', F', R', N', O', T', g', rfl, e, hV⟩ | ⟨k, rfl, hk, rfl⟩
  · refine ⟨0, fo', V, _, ⟨by decide, by decide⟩, rfl, pwx, _, c_X6_copy ra rb rc rd hw, fun v2 w2 h2 => ?_⟩
    rcases h2 with ⟨-, -, rfl, f0, f6, f8, hf, rfl⟩ | ⟨hn, -⟩ | ⟨-, hn, -⟩
    · exact ⟨_, _, rfl, rfl, rfl, fun _ => hfo, fun _ => trivial, INV.of e ((hV _ ⟨f0, f6, f8, hf, rfl⟩).congV ⟨rfl, fun _ _ => rfl, rfl, fun _ _ => rfl, fun _ _ => ⟨rfl, rfl⟩, fun _ _ _ _ => rfl, fun _ _ => ⟨rfl, rfl, rfl, rfl⟩, fun _ _ _ _ => rfl, fun _ _ => ⟨rfl, rfl, rfl⟩, fun _ _ => ⟨rfl, rfl, rfl, rfl, rfl, rfl⟩⟩) (hw.copy hP2.2 (by omega) (by omega) rd hf) (fun j hj => hb j hj)⟩
    · exact absurd hP1 hn
    · exact absurd hP2 hn
  · rcases hk with ⟨rfl, hN⟩ | ⟨rfl, hP1, hN⟩
    · refine ⟨1, fo, V, _, ⟨by decide, by decide⟩, rfl, pwx, _, c_X6_copy ra rb rc rd hw, fun v2 w2 h2 => ?_⟩
      rcases h2 with ⟨hn, -⟩ | ⟨-, h2⟩ | ⟨hn, -⟩
      · exact absurd hn hN
      · exact fl_stp h hw hb (by decide) h2
      · exact absurd hn hN
    · refine ⟨2, fo, V, _, ⟨by decide, by decide⟩, rfl, pwx, _, c_X6_copy ra rb rc rd hw, fun v2 w2 h2 => ?_⟩
      rcases h2 with ⟨-, hn, -⟩ | ⟨hn, -⟩ | ⟨-, -, h2⟩
      · exact absurd hn hN
      · exact absurd hP1 hn
      · exact fl_stp h hw hb (by decide) h2
theorem pr_tellModel {a : Int} (ra : -2147483648 ≤ a ∧ a < 2147483648) (h : RX (gde G) L K I F R N O T g V n m t) (hw : WFV V n m t) (hb : WB V t) : PAIR l G base q (g 6 0) qo yL_tellModel wsL_tellModel rmL_tellModel yX6_tellModel wsX6_tellModel rmX6_tellModel [.int (iI a)] (fun _ => True) (pw G (xo G q V qo fo) L K I F R N O) := by
  refine ⟨_, w_tellModel (Qs := fun z fo' w => (∃ f : Nat → Int, IsFam (up2 V 2 a.toNat 1) n f ∧ z = f a.toNat) ∧ ((0 ≤ a ∧ a < n) ∧ 0 < a ∧ V 2 a.toNat = 0) ∧ MUT G (xo G q V qo fo') (g 6 0) (fun V' => V' = up2 V 2 a.toNat 1) n m t w) (bad := fun k => (k = 1 ∧ ¬ (0 ≤ a ∧ a < n)) ∨ (k = 2 ∧ (0 ≤ a ∧ a < n) ∧ ¬ (0 < a ∧ V 2 a.toNat = 0))) ⟨h.1.x8.1, h.1.x8.2.1⟩ (c_X5_tellModel ra h hw) (fun v w hv => ?_) (fun E w hE => ?_), fun v w hv => ?_⟩
  · obtain ⟨hP1, hP2, f, hf, rfl, L', K', I', F', R', N', O', T', g', rfl, e, hV⟩ := hv
    exact ⟨_, rfl, L', K', I', F', R', N', O', rfl, fun _ _ => ⟨⟨f, hf, rfl⟩, ⟨hP1, hP2⟩, L', K', I', F', R', N', O', T', g', rfl, e, hV⟩⟩
  · obtain ⟨rfl, hE⟩ := hE
    refine ⟨rfl, ?_⟩
    rcases hE with ⟨rfl, e⟩ | ⟨rfl, e⟩
    · exact .inl ⟨rfl, .inl ⟨rfl, e⟩⟩
    · exact .inr ⟨rfl, .inr ⟨rfl, e⟩⟩
  rcases hv with ⟨z, fo', rfl, hfo, ⟨f, hf, rfl⟩, ⟨hP1, hP2⟩, L', K', I', F', R', N', O', T', g', rfl, e, hV⟩ | ⟨k, rfl, hk, rfl⟩
  · refine ⟨0, fo', V, _, ⟨by decide, by decide⟩, rfl, pwx, _, c_X6_tellModel ra hw, fun v2 w2 h2 => ?_⟩
    rcases h2 with ⟨-, -, f', hf', rfl, rfl⟩ | ⟨hn, -⟩ | ⟨-, hn, -⟩
    · have ef := hf.uniq hf' (i := a.toNat) (by omega)
      exact ⟨_, _, rfl, rfl, rfl, fun _ => by rw [← ef]; exact hfo, fun _ => trivial, INV.of e ((hV _ rfl).congV ⟨rfl, fun _ _ => rfl, rfl, fun _ _ => rfl, fun _ _ => ⟨rfl, rfl⟩, fun _ _ _ _ => rfl, fun _ _ => ⟨rfl, rfl, rfl, rfl⟩, fun _ _ _ _ => rfl, fun _ _ => ⟨rfl, rfl, rfl⟩, fun _ _ => ⟨rfl, rfl, rfl, rfl, rfl, rfl⟩⟩) ((hw.tell (i := a.toNat) (by omega)).fam f') (fun j hj => hb j hj)⟩
    · exact absurd hP1 hn
    · exact absurd hP2 hn
  · rcases hk with ⟨rfl, hN⟩ | ⟨rfl, hP1, hN⟩
    · refine ⟨1, fo, V, _, ⟨by decide, by decide⟩, rfl, pwx, _, c_X6_tellModel ra hw, fun v2 w2 h2 => ?_⟩
      rcases h2 with ⟨hn, -⟩ | ⟨-, h2⟩ | ⟨hn, -⟩
      · exact absurd hn hN
      · exact fl_stp h hw hb (by decide) h2
      · exact absurd hn hN
    · refine ⟨2, fo, V, _, ⟨by decide, by decide⟩, rfl, pwx, _, c_X6_tellModel ra hw, fun v2 w2 h2 => ?_⟩
      rcases h2 with ⟨-, hn, -⟩ | ⟨hn, -⟩ | ⟨-, -, h2⟩
      · exact absurd hn hN
      · exact absurd hP1 hn
      · exact fl_stp h hw hb (by decide) h2
theorem pr_day (h : RX (gde G) L K I F R N O T g V n m t) (hw : WFV V n m t) (hb : WB V t) : PAIRG l G base q (g 6 0) qo yX5_day wsX5_day rmX5_day yX6_day wsX6_day rmX6_day (pw G (xo G q V qo fo) L K I F R N O) := by
  refine ⟨_, c_X5_day h hw, fun v w hv => ?_⟩
  obtain ⟨rfl, rfl⟩ := hv
  refine ⟨_, V, _, rfl, pwx, _, c_X6_day, fun v2 w2 h2 => ?_⟩
  obtain ⟨rfl, rfl⟩ := h2
  exact ⟨rfl, INV.of rfl (h.congV (VEQ_last _ _ _ _ _ _)) (hw.last 0) (fun j hj => hb j hj)⟩
theorem pr_copies (h : RX (gde G) L K I F R N O T g V n m t) (hw : WFV V n m t) (hb : WB V t) : PAIRG l G base q (g 6 0) qo yX5_copies wsX5_copies rmX5_copies yX6_copies wsX6_copies rmX6_copies (pw G (xo G q V qo fo) L K I F R N O) := by
  refine ⟨_, c_X5_copies h hw, fun v w hv => ?_⟩
  obtain ⟨rfl, rfl⟩ := hv
  refine ⟨_, V, _, rfl, pwx, _, c_X6_copies, fun v2 w2 h2 => ?_⟩
  obtain ⟨rfl, rfl⟩ := h2
  exact ⟨by rw [hw.1.1], INV.of rfl (h.congV (VEQ_last _ _ _ _ _ _)) (hw.last 0) (fun j hj => hb j hj)⟩
theorem pr_letters (h : RX (gde G) L K I F R N O T g V n m t) (hw : WFV V n m t) (hb : WB V t) : PAIRG l G base q (g 6 0) qo yX5_letters wsX5_letters rmX5_letters yX6_letters wsX6_letters rmX6_letters (pw G (xo G q V qo fo) L K I F R N O) := by
  refine ⟨_, c_X5_letters h hw, fun v w hv => ?_⟩
  obtain ⟨rfl, rfl⟩ := hv
  refine ⟨_, V, _, rfl, pwx, _, c_X6_letters, fun v2 w2 h2 => ?_⟩
  obtain ⟨rfl, rfl⟩ := h2
  exact ⟨by rw [hw.1.2.1], INV.of rfl (h.congV (VEQ_last _ _ _ _ _ _)) (hw.last 0) (fun j hj => hb j hj)⟩
theorem pr_loans (h : RX (gde G) L K I F R N O T g V n m t) (hw : WFV V n m t) (hb : WB V t) : PAIRG l G base q (g 6 0) qo yX5_loans wsX5_loans rmX5_loans yX6_loans wsX6_loans rmX6_loans (pw G (xo G q V qo fo) L K I F R N O) := by
  refine ⟨_, c_X5_loans h hw, fun v w hv => ?_⟩
  obtain ⟨rfl, rfl⟩ := hv
  refine ⟨_, V, _, rfl, pwx, _, c_X6_loans, fun v2 w2 h2 => ?_⟩
  obtain ⟨rfl, rfl⟩ := h2
  exact ⟨by rw [hw.1.2.2], INV.of rfl (h.congV (VEQ_last _ _ _ _ _ _)) (hw.last 0) (fun j hj => hb j hj)⟩
theorem pr_rightGuesses (h : RX (gde G) L K I F R N O T g V n m t) (hw : WFV V n m t) (hb : WB V t) : PAIRG l G base q (g 6 0) qo yX5_rightGuesses wsX5_rightGuesses rmX5_rightGuesses yX6_rightGuesses wsX6_rightGuesses rmX6_rightGuesses (pw G (xo G q V qo fo) L K I F R N O) := by
  refine ⟨_, c_X5_rightGuesses h hw, fun v w hv => ?_⟩
  obtain ⟨rfl, rfl⟩ := hv
  refine ⟨_, V, _, rfl, pwx, _, c_X6_rightGuesses hw, fun v2 w2 h2 => ?_⟩
  obtain ⟨rfl, rfl⟩ := h2
  exact ⟨rfl, INV.of rfl (h.congV (VEQ_last _ _ _ _ _ _)) (hw.last 0) (fun j hj => hb j hj)⟩
theorem pr_families (h : RX (gde G) L K I F R N O T g V n m t) (hw : WFV V n m t) (hb : WB V t) : PAIRG l G base q (g 6 0) qo yX5_families wsX5_families rmX5_families yX6_families wsX6_families rmX6_families (pw G (xo G q V qo fo) L K I F R N O) := by
  refine ⟨_, c_X5_families h hw, fun v w hv => ?_⟩
  obtain ⟨rfl, f, hf, rfl⟩ := hv
  refine ⟨_, V, _, rfl, pwx, _, c_X6_families hw, fun v2 w2 h2 => ?_⟩
  obtain ⟨f', hf', rfl, rfl⟩ := h2
  refine ⟨?_, INV.of rfl (h.congV (VEQ_fam _ _ _ _ _ _ _)) ((hw.last 0).fam f') (fun j hj => hb j hj)⟩
  rw [smI_cong (f := fun i => b01 (f' i = (i : Int))) (g := fun i => b01 (f i = (i : Int))) n (fun i hi => by
    show b01 (f' i = (i : Int)) = b01 (f i = (i : Int))
    rw [hf.uniq hf' hi])]
end
