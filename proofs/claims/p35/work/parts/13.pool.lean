/-! the class's world: objects and arrays by their addresses; I c a: the number in field c of the object a; F c a: the reference; R, N: rows of numbers and their lengths; O: rows of references -/
abbrev up2 {α : Type} (f : Nat → Nat → α) (c a : Nat) (v : α) : Nat → Nat → α := va_up f c (va_up (f c) a v)
def pwF (G : GG) (K : Nat → Nat) (I : Nat → Nat → Int) (F : Nat → Nat → Option Nat) (R : Nat → Nat → Int) (N : Nat → Nat) (O : Nat → Nat → Option Nat) : Nat → va_E := fun a => if K a = 0 then .inr (1, [.int (iI (I 0 a)), va_rf (F 0 a), va_rf (F 1 a), va_rf (F 2 a), va_rf (F 3 a), .int (iI (I 1 a)), .int (iI (I 2 a))]) else if K a = 1 then .inr (2, [va_rf (F 4 a), .int (iI (I 3 a))]) else if K a = 2 then .inr (3, [.int (iI (I 4 a)), va_rf (F 5 a), .int (iI (I 5 a)), .int (iI (I 6 a))]) else if K a = 3 then .inr (4, [.int (iI (I 7 a)), .int (iI (I 8 a)), .int (iI (I 9 a))]) else if K a = 4 then .inr (5, [va_rf (F 6 a), va_rf (F 7 a), .int (iI (I 10 a)), .int (iI (I 11 a)), .int (iI (I 12 a)), .int (iI (I 13 a))]) else if K a = 5 then .inr (6, [va_rf (F 8 a), va_rf (F 9 a), va_rf (F 10 a), va_rf (F 11 a), va_rf (F 12 a), va_rf (F 13 a), .int (iI (I 14 a))]) else if K a = 6 then .inr (0, [.int (iI (I 15 a)), va_rf (F 14 a), .int (iI (I 16 a))]) else if K a = 7 then .inl (G.2.1, N a, .inl (fun j => iI (R a j))) else if K a = 8 then .inl (G.2.2.1, N a, .inl (fun j => iI (R a j))) else .inl (G.2.2.2.1, N a, .inr (.inr (.inr (.inr (O a)))))
def pw (G : GG) (X : va_W) (L : List Nat) (K : Nat → Nat) (I : Nat → Nat → Int) (F : Nat → Nat → Option Nat) (R : Nat → Nat → Int) (N : Nat → Nat) (O : Nat → Nat → Option Nat) : va_W := X ++ va_pl L (pwF G K I F R N O)
theorem pl_wSet {X : va_W} {L : List Nat} {f f' : Nat → va_E} {a : Nat} {e : va_E} (hL : a ∈ L) (hf : ∀ b, va_up f a e b = f' b) : wSet (X ++ va_pl L f) a e (X ++ va_pl L f') := fun A k e0 hD hk => by
  obtain ⟨k', hk'⟩ := va_pl_get (X := X) (f := f) hL
  have h := va_Duq hD hk hk'
  subst h
  rw [va_pl_set hD hL hk']
  exact congrArg (fun l => X ++ l) (va_pl_congr hf)
theorem pl_new {X : va_W} {L : List Nat} {f f' : Nat → va_E} {q : Nat} {e : va_E} (hq : ∀ z ∈ X ++ va_pl L f, z.1 ≠ q) (hf : ∀ b, va_up f q e b = f' b) : (X ++ va_pl L f) ++ [(q, e)] = X ++ va_pl (L ++ [q]) f' := by
  have hL : q ∉ L := fun h => hq (q, f q) (List.mem_append_right _ (List.mem_map.mpr ⟨q, h, rfl⟩)) rfl
  rw [List.append_assoc, va_pl_push hL]
  exact congrArg (fun l => X ++ l) (va_pl_congr hf)
section
variable {G : GG} {X : va_W} {L : List Nat} {K : Nat → Nat} {I : Nat → Nat → Int} {F : Nat → Nat → Option Nat} {R : Nat → Nat → Int} {N : Nat → Nat} {O : Nat → Nat → Option Nat} {a q : Nat}
theorem pw_fresh (hq : ∀ z ∈ pw G X L K I F R N O, z.1 ≠ q) : q ∉ L := fun h => hq (q, pwF G K I F R N O q) (List.mem_append_right _ (List.mem_map.mpr ⟨q, h, rfl⟩)) rfl
theorem pw_mem {e : va_E} (hL : a ∈ L) (he : pwF G K I F R N O a = e) : (a, e) ∈ pw G X L K I F R N O := by
  rw [← he]
  exact List.mem_append_right _ (List.mem_map.mpr ⟨a, hL, rfl⟩)
theorem pwm_Copy (hL : a ∈ L) (hK : K a = 0) : (a, .inr (1, [.int (iI (I 0 a)), va_rf (F 0 a), va_rf (F 1 a), va_rf (F 2 a), va_rf (F 3 a), .int (iI (I 1 a)), .int (iI (I 2 a))])) ∈ pw G X L K I F R N O := pw_mem hL (by simp [pwF, hK])
theorem pwm_Draft (hL : a ∈ L) (hK : K a = 1) : (a, .inr (2, [va_rf (F 4 a), .int (iI (I 3 a))])) ∈ pw G X L K I F R N O := pw_mem hL (by simp [pwF, hK])
theorem pwm_House (hL : a ∈ L) (hK : K a = 2) : (a, .inr (3, [.int (iI (I 4 a)), va_rf (F 5 a), .int (iI (I 5 a)), .int (iI (I 6 a))])) ∈ pw G X L K I F R N O := pw_mem hL (by simp [pwF, hK])
theorem pwm_Letter (hL : a ∈ L) (hK : K a = 3) : (a, .inr (4, [.int (iI (I 7 a)), .int (iI (I 8 a)), .int (iI (I 9 a))])) ∈ pw G X L K I F R N O := pw_mem hL (by simp [pwF, hK])
theorem pwm_Loan (hL : a ∈ L) (hK : K a = 4) : (a, .inr (5, [va_rf (F 6 a), va_rf (F 7 a), .int (iI (I 10 a)), .int (iI (I 11 a)), .int (iI (I 12 a)), .int (iI (I 13 a))])) ∈ pw G X L K I F R N O := pw_mem hL (by simp [pwF, hK])
theorem pwm_MC (hL : a ∈ L) (hK : K a = 5) : (a, .inr (6, [va_rf (F 8 a), va_rf (F 9 a), va_rf (F 10 a), va_rf (F 11 a), va_rf (F 12 a), va_rf (F 13 a), .int (iI (I 14 a))])) ∈ pw G X L K I F R N O := pw_mem hL (by simp [pwF, hK])
theorem pwm_AL (hL : a ∈ L) (hK : K a = 6) : (a, .inr (0, [.int (iI (I 15 a)), va_rf (F 14 a), .int (iI (I 16 a))])) ∈ pw G X L K I F R N O := pw_mem hL (by simp [pwF, hK])
theorem pwm_I (hL : a ∈ L) (hK : K a = 7) : (a, .inl (G.2.1, N a, .inl (fun j => iI (R a j)))) ∈ pw G X L K I F R N O := pw_mem hL (by simp [pwF, hK])
theorem pwm_Z (hL : a ∈ L) (hK : K a = 8) : (a, .inl (G.2.2.1, N a, .inl (fun j => iI (R a j)))) ∈ pw G X L K I F R N O := pw_mem hL (by simp [pwF, hK])
theorem pwm_O (hL : a ∈ L) (hK : K a = 9) : (a, .inl (G.2.2.2.1, N a, .inr (.inr (.inr (.inr (O a)))))) ∈ pw G X L K I F R N O := pw_mem hL (by simp [pwF, hK])
theorem pws_Copy_number {z : Int} (hL : a ∈ L) (hK : K a = 0) : wSet (pw G X L K I F R N O) a (.inr (1, [.int (iI z), va_rf (F 0 a), va_rf (F 1 a), va_rf (F 2 a), va_rf (F 3 a), .int (iI (I 1 a)), .int (iI (I 2 a))])) (pw G X L K (up2 I 0 a z) F R N O) := pl_wSet hL (fun b => by
  by_cases hb : b = a
  · subst hb; simp [va_up, pwF, up2, hK]
  · simp [va_up, pwF, up2, hb])
theorem pws_Copy_model {z : Option Nat} (hL : a ∈ L) (hK : K a = 0) : wSet (pw G X L K I F R N O) a (.inr (1, [.int (iI (I 0 a)), va_rf z, va_rf (F 1 a), va_rf (F 2 a), va_rf (F 3 a), .int (iI (I 1 a)), .int (iI (I 2 a))])) (pw G X L K I (up2 F 0 a z) R N O) := pl_wSet hL (fun b => by
  by_cases hb : b = a
  · subst hb; simp [va_up, pwF, up2, hK]
  · simp [va_up, pwF, up2, hb])
theorem pws_Copy_owner {z : Option Nat} (hL : a ∈ L) (hK : K a = 0) : wSet (pw G X L K I F R N O) a (.inr (1, [.int (iI (I 0 a)), va_rf (F 0 a), va_rf z, va_rf (F 2 a), va_rf (F 3 a), .int (iI (I 1 a)), .int (iI (I 2 a))])) (pw G X L K I (up2 F 1 a z) R N O) := pl_wSet hL (fun b => by
  by_cases hb : b = a
  · subst hb; simp [va_up, pwF, up2, hK]
  · simp [va_up, pwF, up2, hb])
theorem pws_Copy_readings {z : Option Nat} (hL : a ∈ L) (hK : K a = 0) : wSet (pw G X L K I F R N O) a (.inr (1, [.int (iI (I 0 a)), va_rf (F 0 a), va_rf (F 1 a), va_rf z, va_rf (F 3 a), .int (iI (I 1 a)), .int (iI (I 2 a))])) (pw G X L K I (up2 F 2 a z) R N O) := pl_wSet hL (fun b => by
  by_cases hb : b = a
  · subst hb; simp [va_up, pwF, up2, hK]
  · simp [va_up, pwF, up2, hb])
theorem pws_Copy_house {z : Option Nat} (hL : a ∈ L) (hK : K a = 0) : wSet (pw G X L K I F R N O) a (.inr (1, [.int (iI (I 0 a)), va_rf (F 0 a), va_rf (F 1 a), va_rf (F 2 a), va_rf z, .int (iI (I 1 a)), .int (iI (I 2 a))])) (pw G X L K I (up2 F 3 a z) R N O) := pl_wSet hL (fun b => by
  by_cases hb : b = a
  · subst hb; simp [va_up, pwF, up2, hK]
  · simp [va_up, pwF, up2, hb])
theorem pws_Copy_isTold {z : Int} (hL : a ∈ L) (hK : K a = 0) : wSet (pw G X L K I F R N O) a (.inr (1, [.int (iI (I 0 a)), va_rf (F 0 a), va_rf (F 1 a), va_rf (F 2 a), va_rf (F 3 a), .int (iI z), .int (iI (I 2 a))])) (pw G X L K (up2 I 1 a z) F R N O) := pl_wSet hL (fun b => by
  by_cases hb : b = a
  · subst hb; simp [va_up, pwF, up2, hK]
  · simp [va_up, pwF, up2, hb])
theorem pws_Copy_family {z : Int} (hL : a ∈ L) (hK : K a = 0) : wSet (pw G X L K I F R N O) a (.inr (1, [.int (iI (I 0 a)), va_rf (F 0 a), va_rf (F 1 a), va_rf (F 2 a), va_rf (F 3 a), .int (iI (I 1 a)), .int (iI z)])) (pw G X L K (up2 I 2 a z) F R N O) := pl_wSet hL (fun b => by
  by_cases hb : b = a
  · subst hb; simp [va_up, pwF, up2, hK]
  · simp [va_up, pwF, up2, hb])
theorem pwn_Copy (hq : ∀ z ∈ pw G X L K I F R N O, z.1 ≠ q) : pw G X L K I F R N O ++ [(q, .inr (1, [.int 0, .null, .null, .null, .null, .int 0, .int 0]))] = pw G X (L ++ [q]) (va_up K q 0) (up2 (up2 (up2 I 0 q 0) 1 q 0) 2 q 0) (up2 (up2 (up2 (up2 F 0 q none) 1 q none) 2 q none) 3 q none) R N O := pl_new hq (fun b => by
  by_cases hb : b = q
  · subst hb; simp [va_up, pwF, up2, va_rf]; rfl
  · simp [va_up, pwF, up2, hb])
theorem pws_Draft_readings {z : Option Nat} (hL : a ∈ L) (hK : K a = 1) : wSet (pw G X L K I F R N O) a (.inr (2, [va_rf z, .int (iI (I 3 a))])) (pw G X L K I (up2 F 4 a z) R N O) := pl_wSet hL (fun b => by
  by_cases hb : b = a
  · subst hb; simp [va_up, pwF, up2, hK]
  · simp [va_up, pwF, up2, hb])
theorem pws_Draft_filled {z : Int} (hL : a ∈ L) (hK : K a = 1) : wSet (pw G X L K I F R N O) a (.inr (2, [va_rf (F 4 a), .int (iI z)])) (pw G X L K (up2 I 3 a z) F R N O) := pl_wSet hL (fun b => by
  by_cases hb : b = a
  · subst hb; simp [va_up, pwF, up2, hK]
  · simp [va_up, pwF, up2, hb])
theorem pwn_Draft (hq : ∀ z ∈ pw G X L K I F R N O, z.1 ≠ q) : pw G X L K I F R N O ++ [(q, .inr (2, [.null, .int 0]))] = pw G X (L ++ [q]) (va_up K q 1) (up2 I 3 q 0) (up2 F 4 q none) R N O := pl_new hq (fun b => by
  by_cases hb : b = q
  · subst hb; simp [va_up, pwF, up2, va_rf]; rfl
  · simp [va_up, pwF, up2, hb])
theorem pws_House_number {z : Int} (hL : a ∈ L) (hK : K a = 2) : wSet (pw G X L K I F R N O) a (.inr (3, [.int (iI z), va_rf (F 5 a), .int (iI (I 5 a)), .int (iI (I 6 a))])) (pw G X L K (up2 I 4 a z) F R N O) := pl_wSet hL (fun b => by
  by_cases hb : b = a
  · subst hb; simp [va_up, pwF, up2, hK]
  · simp [va_up, pwF, up2, hb])
theorem pws_House_held {z : Option Nat} (hL : a ∈ L) (hK : K a = 2) : wSet (pw G X L K I F R N O) a (.inr (3, [.int (iI (I 4 a)), va_rf z, .int (iI (I 5 a)), .int (iI (I 6 a))])) (pw G X L K I (up2 F 5 a z) R N O) := pl_wSet hL (fun b => by
  by_cases hb : b = a
  · subst hb; simp [va_up, pwF, up2, hK]
  · simp [va_up, pwF, up2, hb])
theorem pws_House_coins {z : Int} (hL : a ∈ L) (hK : K a = 2) : wSet (pw G X L K I F R N O) a (.inr (3, [.int (iI (I 4 a)), va_rf (F 5 a), .int (iI z), .int (iI (I 6 a))])) (pw G X L K (up2 I 5 a z) F R N O) := pl_wSet hL (fun b => by
  by_cases hb : b = a
  · subst hb; simp [va_up, pwF, up2, hK]
  · simp [va_up, pwF, up2, hb])
theorem pws_House_laidDown {z : Int} (hL : a ∈ L) (hK : K a = 2) : wSet (pw G X L K I F R N O) a (.inr (3, [.int (iI (I 4 a)), va_rf (F 5 a), .int (iI (I 5 a)), .int (iI z)])) (pw G X L K (up2 I 6 a z) F R N O) := pl_wSet hL (fun b => by
  by_cases hb : b = a
  · subst hb; simp [va_up, pwF, up2, hK]
  · simp [va_up, pwF, up2, hb])
theorem pwn_House (hq : ∀ z ∈ pw G X L K I F R N O, z.1 ≠ q) : pw G X L K I F R N O ++ [(q, .inr (3, [.int 0, .null, .int 0, .int 0]))] = pw G X (L ++ [q]) (va_up K q 2) (up2 (up2 (up2 I 4 q 0) 5 q 0) 6 q 0) (up2 F 5 q none) R N O := pl_new hq (fun b => by
  by_cases hb : b = q
  · subst hb; simp [va_up, pwF, up2, va_rf]; rfl
  · simp [va_up, pwF, up2, hb])
theorem pws_Letter_place {z : Int} (hL : a ∈ L) (hK : K a = 3) : wSet (pw G X L K I F R N O) a (.inr (4, [.int (iI z), .int (iI (I 8 a)), .int (iI (I 9 a))])) (pw G X L K (up2 I 7 a z) F R N O) := pl_wSet hL (fun b => by
  by_cases hb : b = a
  · subst hb; simp [va_up, pwF, up2, hK]
  · simp [va_up, pwF, up2, hb])
theorem pws_Letter_was {z : Int} (hL : a ∈ L) (hK : K a = 3) : wSet (pw G X L K I F R N O) a (.inr (4, [.int (iI (I 7 a)), .int (iI z), .int (iI (I 9 a))])) (pw G X L K (up2 I 8 a z) F R N O) := pl_wSet hL (fun b => by
  by_cases hb : b = a
  · subst hb; simp [va_up, pwF, up2, hK]
  · simp [va_up, pwF, up2, hb])
theorem pws_Letter_now {z : Int} (hL : a ∈ L) (hK : K a = 3) : wSet (pw G X L K I F R N O) a (.inr (4, [.int (iI (I 7 a)), .int (iI (I 8 a)), .int (iI z)])) (pw G X L K (up2 I 9 a z) F R N O) := pl_wSet hL (fun b => by
  by_cases hb : b = a
  · subst hb; simp [va_up, pwF, up2, hK]
  · simp [va_up, pwF, up2, hb])
theorem pwn_Letter (hq : ∀ z ∈ pw G X L K I F R N O, z.1 ≠ q) : pw G X L K I F R N O ++ [(q, .inr (4, [.int 0, .int 0, .int 0]))] = pw G X (L ++ [q]) (va_up K q 3) (up2 (up2 (up2 I 7 q 0) 8 q 0) 9 q 0) F R N O := pl_new hq (fun b => by
  by_cases hb : b = q
  · subst hb; simp [va_up, pwF, up2, va_rf]; rfl
  · simp [va_up, pwF, up2, hb])
theorem pws_Loan_copy {z : Option Nat} (hL : a ∈ L) (hK : K a = 4) : wSet (pw G X L K I F R N O) a (.inr (5, [va_rf z, va_rf (F 7 a), .int (iI (I 10 a)), .int (iI (I 11 a)), .int (iI (I 12 a)), .int (iI (I 13 a))])) (pw G X L K I (up2 F 6 a z) R N O) := pl_wSet hL (fun b => by
  by_cases hb : b = a
  · subst hb; simp [va_up, pwF, up2, hK]
  · simp [va_up, pwF, up2, hb])
theorem pws_Loan_borrower {z : Option Nat} (hL : a ∈ L) (hK : K a = 4) : wSet (pw G X L K I F R N O) a (.inr (5, [va_rf (F 6 a), va_rf z, .int (iI (I 10 a)), .int (iI (I 11 a)), .int (iI (I 12 a)), .int (iI (I 13 a))])) (pw G X L K I (up2 F 7 a z) R N O) := pl_wSet hL (fun b => by
  by_cases hb : b = a
  · subst hb; simp [va_up, pwF, up2, hK]
  · simp [va_up, pwF, up2, hb])
theorem pws_Loan_lastDay {z : Int} (hL : a ∈ L) (hK : K a = 4) : wSet (pw G X L K I F R N O) a (.inr (5, [va_rf (F 6 a), va_rf (F 7 a), .int (iI z), .int (iI (I 11 a)), .int (iI (I 12 a)), .int (iI (I 13 a))])) (pw G X L K (up2 I 10 a z) F R N O) := pl_wSet hL (fun b => by
  by_cases hb : b = a
  · subst hb; simp [va_up, pwF, up2, hK]
  · simp [va_up, pwF, up2, hb])
theorem pws_Loan_pledge {z : Int} (hL : a ∈ L) (hK : K a = 4) : wSet (pw G X L K I F R N O) a (.inr (5, [va_rf (F 6 a), va_rf (F 7 a), .int (iI (I 10 a)), .int (iI z), .int (iI (I 12 a)), .int (iI (I 13 a))])) (pw G X L K (up2 I 11 a z) F R N O) := pl_wSet hL (fun b => by
  by_cases hb : b = a
  · subst hb; simp [va_up, pwF, up2, hK]
  · simp [va_up, pwF, up2, hb])
theorem pws_Loan_isBack {z : Int} (hL : a ∈ L) (hK : K a = 4) : wSet (pw G X L K I F R N O) a (.inr (5, [va_rf (F 6 a), va_rf (F 7 a), .int (iI (I 10 a)), .int (iI (I 11 a)), .int (iI z), .int (iI (I 13 a))])) (pw G X L K (up2 I 12 a z) F R N O) := pl_wSet hL (fun b => by
  by_cases hb : b = a
  · subst hb; simp [va_up, pwF, up2, hK]
  · simp [va_up, pwF, up2, hb])
theorem pws_Loan_daysLateAtEnd {z : Int} (hL : a ∈ L) (hK : K a = 4) : wSet (pw G X L K I F R N O) a (.inr (5, [va_rf (F 6 a), va_rf (F 7 a), .int (iI (I 10 a)), .int (iI (I 11 a)), .int (iI (I 12 a)), .int (iI z)])) (pw G X L K (up2 I 13 a z) F R N O) := pl_wSet hL (fun b => by
  by_cases hb : b = a
  · subst hb; simp [va_up, pwF, up2, hK]
  · simp [va_up, pwF, up2, hb])
theorem pwn_Loan (hq : ∀ z ∈ pw G X L K I F R N O, z.1 ≠ q) : pw G X L K I F R N O ++ [(q, .inr (5, [.null, .null, .int 0, .int 0, .int 0, .int 0]))] = pw G X (L ++ [q]) (va_up K q 4) (up2 (up2 (up2 (up2 I 10 q 0) 11 q 0) 12 q 0) 13 q 0) (up2 (up2 F 6 q none) 7 q none) R N O := pl_new hq (fun b => by
  by_cases hb : b = q
  · subst hb; simp [va_up, pwF, up2, va_rf]; rfl
  · simp [va_up, pwF, up2, hb])
theorem pws_MC_houses {z : Option Nat} (hL : a ∈ L) (hK : K a = 5) : wSet (pw G X L K I F R N O) a (.inr (6, [va_rf z, va_rf (F 9 a), va_rf (F 10 a), va_rf (F 11 a), va_rf (F 12 a), va_rf (F 13 a), .int (iI (I 14 a))])) (pw G X L K I (up2 F 8 a z) R N O) := pl_wSet hL (fun b => by
  by_cases hb : b = a
  · subst hb; simp [va_up, pwF, up2, hK]
  · simp [va_up, pwF, up2, hb])
theorem pws_MC_copies {z : Option Nat} (hL : a ∈ L) (hK : K a = 5) : wSet (pw G X L K I F R N O) a (.inr (6, [va_rf (F 8 a), va_rf z, va_rf (F 10 a), va_rf (F 11 a), va_rf (F 12 a), va_rf (F 13 a), .int (iI (I 14 a))])) (pw G X L K I (up2 F 9 a z) R N O) := pl_wSet hL (fun b => by
  by_cases hb : b = a
  · subst hb; simp [va_up, pwF, up2, hK]
  · simp [va_up, pwF, up2, hb])
theorem pws_MC_letters {z : Option Nat} (hL : a ∈ L) (hK : K a = 5) : wSet (pw G X L K I F R N O) a (.inr (6, [va_rf (F 8 a), va_rf (F 9 a), va_rf z, va_rf (F 11 a), va_rf (F 12 a), va_rf (F 13 a), .int (iI (I 14 a))])) (pw G X L K I (up2 F 10 a z) R N O) := pl_wSet hL (fun b => by
  by_cases hb : b = a
  · subst hb; simp [va_up, pwF, up2, hK]
  · simp [va_up, pwF, up2, hb])
theorem pws_MC_loans {z : Option Nat} (hL : a ∈ L) (hK : K a = 5) : wSet (pw G X L K I F R N O) a (.inr (6, [va_rf (F 8 a), va_rf (F 9 a), va_rf (F 10 a), va_rf z, va_rf (F 12 a), va_rf (F 13 a), .int (iI (I 14 a))])) (pw G X L K I (up2 F 11 a z) R N O) := pl_wSet hL (fun b => by
  by_cases hb : b = a
  · subst hb; simp [va_up, pwF, up2, hK]
  · simp [va_up, pwF, up2, hb])
theorem pws_MC_slips {z : Option Nat} (hL : a ∈ L) (hK : K a = 5) : wSet (pw G X L K I F R N O) a (.inr (6, [va_rf (F 8 a), va_rf (F 9 a), va_rf (F 10 a), va_rf (F 11 a), va_rf z, va_rf (F 13 a), .int (iI (I 14 a))])) (pw G X L K I (up2 F 12 a z) R N O) := pl_wSet hL (fun b => by
  by_cases hb : b = a
  · subst hb; simp [va_up, pwF, up2, hK]
  · simp [va_up, pwF, up2, hb])
theorem pws_MC_draft {z : Option Nat} (hL : a ∈ L) (hK : K a = 5) : wSet (pw G X L K I F R N O) a (.inr (6, [va_rf (F 8 a), va_rf (F 9 a), va_rf (F 10 a), va_rf (F 11 a), va_rf (F 12 a), va_rf z, .int (iI (I 14 a))])) (pw G X L K I (up2 F 13 a z) R N O) := pl_wSet hL (fun b => by
  by_cases hb : b = a
  · subst hb; simp [va_up, pwF, up2, hK]
  · simp [va_up, pwF, up2, hb])
theorem pws_MC_today {z : Int} (hL : a ∈ L) (hK : K a = 5) : wSet (pw G X L K I F R N O) a (.inr (6, [va_rf (F 8 a), va_rf (F 9 a), va_rf (F 10 a), va_rf (F 11 a), va_rf (F 12 a), va_rf (F 13 a), .int (iI z)])) (pw G X L K (up2 I 14 a z) F R N O) := pl_wSet hL (fun b => by
  by_cases hb : b = a
  · subst hb; simp [va_up, pwF, up2, hK]
  · simp [va_up, pwF, up2, hb])
theorem pwn_MC (hq : ∀ z ∈ pw G X L K I F R N O, z.1 ≠ q) : pw G X L K I F R N O ++ [(q, .inr (6, [.null, .null, .null, .null, .null, .null, .int 0]))] = pw G X (L ++ [q]) (va_up K q 5) (up2 I 14 q 0) (up2 (up2 (up2 (up2 (up2 (up2 F 8 q none) 9 q none) 10 q none) 11 q none) 12 q none) 13 q none) R N O := pl_new hq (fun b => by
  by_cases hb : b = q
  · subst hb; simp [va_up, pwF, up2, va_rf]; rfl
  · simp [va_up, pwF, up2, hb])
theorem pws_AL_modCount {z : Int} (hL : a ∈ L) (hK : K a = 6) : wSet (pw G X L K I F R N O) a (.inr (0, [.int (iI z), va_rf (F 14 a), .int (iI (I 16 a))])) (pw G X L K (up2 I 15 a z) F R N O) := pl_wSet hL (fun b => by
  by_cases hb : b = a
  · subst hb; simp [va_up, pwF, up2, hK]
  · simp [va_up, pwF, up2, hb])
theorem pws_AL_elementData {z : Option Nat} (hL : a ∈ L) (hK : K a = 6) : wSet (pw G X L K I F R N O) a (.inr (0, [.int (iI (I 15 a)), va_rf z, .int (iI (I 16 a))])) (pw G X L K I (up2 F 14 a z) R N O) := pl_wSet hL (fun b => by
  by_cases hb : b = a
  · subst hb; simp [va_up, pwF, up2, hK]
  · simp [va_up, pwF, up2, hb])
theorem pws_AL_size {z : Int} (hL : a ∈ L) (hK : K a = 6) : wSet (pw G X L K I F R N O) a (.inr (0, [.int (iI (I 15 a)), va_rf (F 14 a), .int (iI z)])) (pw G X L K (up2 I 16 a z) F R N O) := pl_wSet hL (fun b => by
  by_cases hb : b = a
  · subst hb; simp [va_up, pwF, up2, hK]
  · simp [va_up, pwF, up2, hb])
theorem pwn_AL (hq : ∀ z ∈ pw G X L K I F R N O, z.1 ≠ q) : pw G X L K I F R N O ++ [(q, .inr (0, [.int 0, .null, .int 0]))] = pw G X (L ++ [q]) (va_up K q 6) (up2 (up2 I 15 q 0) 16 q 0) (up2 F 14 q none) R N O := pl_new hq (fun b => by
  by_cases hb : b = q
  · subst hb; simp [va_up, pwF, up2, va_rf]; rfl
  · simp [va_up, pwF, up2, hb])
theorem pwt_I {i : Nat} {z : Int} (hL : a ∈ L) (hK : K a = 7) : wSet (pw G X L K I F R N O) a (.inl (G.2.1, N a, .inl (upd (fun j => iI (R a j)) i (iI z)))) (pw G X L K I F (up2 R a i z) N O) := pl_wSet hL (fun b => by
  by_cases hb : b = a
  · subst hb
    have e : upd (fun j => iI (R b j)) i (iI z) = fun j => iI (up2 R b i z b j) := by
      funext j
      by_cases hj : j = i <;> simp [upd, up2, va_up, hj]
    rw [e]
    simp [va_up, pwF, hK]
  · simp [va_up, pwF, up2, hb])
theorem pwf_I {f : Nat → Int} (hL : a ∈ L) (hK : K a = 7) : wSet (pw G X L K I F R N O) a (.inl (G.2.1, N a, .inl (fun j => iI (f j)))) (pw G X L K I F (va_up R a f) N O) := pl_wSet hL (fun b => by
  by_cases hb : b = a
  · subst hb; simp [va_up, pwF, hK]
  · simp [va_up, pwF, up2, hb])
theorem pwn_I {n : Nat} (hq : ∀ z ∈ pw G X L K I F R N O, z.1 ≠ q) : pw G X L K I F R N O ++ [(q, .inl (G.2.1, n, .inl (fun _ => 0)))] = pw G X (L ++ [q]) (va_up K q 7) I F (va_up R q (fun _ => 0)) (va_up N q n) O := pl_new hq (fun b => by
  by_cases hb : b = q
  · subst hb; simp [va_up, pwF]; rfl
  · simp [va_up, pwF, up2, hb])
theorem pwt_Z {i : Nat} {z : Int} (hL : a ∈ L) (hK : K a = 8) : wSet (pw G X L K I F R N O) a (.inl (G.2.2.1, N a, .inl (upd (fun j => iI (R a j)) i (iI z)))) (pw G X L K I F (up2 R a i z) N O) := pl_wSet hL (fun b => by
  by_cases hb : b = a
  · subst hb
    have e : upd (fun j => iI (R b j)) i (iI z) = fun j => iI (up2 R b i z b j) := by
      funext j
      by_cases hj : j = i <;> simp [upd, up2, va_up, hj]
    rw [e]
    simp [va_up, pwF, hK]
  · simp [va_up, pwF, up2, hb])
theorem pwf_Z {f : Nat → Int} (hL : a ∈ L) (hK : K a = 8) : wSet (pw G X L K I F R N O) a (.inl (G.2.2.1, N a, .inl (fun j => iI (f j)))) (pw G X L K I F (va_up R a f) N O) := pl_wSet hL (fun b => by
  by_cases hb : b = a
  · subst hb; simp [va_up, pwF, hK]
  · simp [va_up, pwF, up2, hb])
theorem pwn_Z {n : Nat} (hq : ∀ z ∈ pw G X L K I F R N O, z.1 ≠ q) : pw G X L K I F R N O ++ [(q, .inl (G.2.2.1, n, .inl (fun _ => 0)))] = pw G X (L ++ [q]) (va_up K q 8) I F (va_up R q (fun _ => 0)) (va_up N q n) O := pl_new hq (fun b => by
  by_cases hb : b = q
  · subst hb; simp [va_up, pwF]; rfl
  · simp [va_up, pwF, up2, hb])
theorem pwt_O {i : Nat} {z : Option Nat} (hL : a ∈ L) (hK : K a = 9) : wSet (pw G X L K I F R N O) a (.inl (G.2.2.2.1, N a, .inr (.inr (.inr (.inr (va_up (O a) i z)))))) (pw G X L K I F R N (up2 O a i z)) := pl_wSet hL (fun b => by
  by_cases hb : b = a
  · subst hb; simp [va_up, pwF, up2, hK]
  · simp [va_up, pwF, up2, hb])
theorem pwf_O {f : Nat → Option Nat} (hL : a ∈ L) (hK : K a = 9) : wSet (pw G X L K I F R N O) a (.inl (G.2.2.2.1, N a, .inr (.inr (.inr (.inr f))))) (pw G X L K I F R N (va_up O a f)) := pl_wSet hL (fun b => by
  by_cases hb : b = a
  · subst hb; simp [va_up, pwF, up2, hK]
  · simp [va_up, pwF, up2, hb])
theorem pwn_O {n : Nat} (hq : ∀ z ∈ pw G X L K I F R N O, z.1 ≠ q) : pw G X L K I F R N O ++ [(q, .inl (G.2.2.2.1, n, .inr (.inr (.inr (.inr (fun _ => none))))))] = pw G X (L ++ [q]) (va_up K q 9) I F R (va_up N q n) (va_up O q (fun _ => none)) := pl_new hq (fun b => by
  by_cases hb : b = q
  · subst hb; simp [va_up, pwF]
  · simp [va_up, pwF, up2, hb])
end
