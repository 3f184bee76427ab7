theorem iL_law_X5 : ∀ w ∈ wsX50, w ∈ wsL_law := by decide +kernel
theorem lL_law_c8 : Cond.classLink RL 8 "ModelCopies" ∈ wsL_law := by decide +kernel
theorem nnL_law_X5 : Cond.instantiable "ModelCopies" 7 ∈ wsL_law := by decide +kernel
theorem niL_law_X5 : Cond.initialized "ModelCopies" ∈ wsL_law := by decide +kernel
theorem hd84_X5_init : yX5_init.cls ≠ "java/lang/invoke/MethodHandle" ∧ yX5_init.cls ≠ "java/lang/invoke/VarHandle" ∧ (parseMethodDescriptor yX5_init.desc).map (fun d => d.parameters.length) = some 0 := by decide +kernel
theorem lL_law_m99 : Cond.methodLink RL 99 yX5_init ∈ wsL_law := by decide +kernel
theorem nL_law_X5_init : Cond.initialized yX5_init.cls ∈ wsL_law := by decide +kernel
theorem vL_law_X5_init : Cond.instanceMethod yX5_init ∈ wsL_law := by decide +kernel
theorem iL_law_X6 : ∀ w ∈ wsX60, w ∈ wsL_law := by decide +kernel
theorem lL_law_c100 : Cond.classLink RL 100 "ModelCopiesModel" ∈ wsL_law := by decide +kernel
theorem nnL_law_X6 : Cond.instantiable "ModelCopiesModel" 26 ∈ wsL_law := by decide +kernel
theorem niL_law_X6 : Cond.initialized "ModelCopiesModel" ∈ wsL_law := by decide +kernel
theorem hd84_X6_init : yX6_init.cls ≠ "java/lang/invoke/MethodHandle" ∧ yX6_init.cls ≠ "java/lang/invoke/VarHandle" ∧ (parseMethodDescriptor yX6_init.desc).map (fun d => d.parameters.length) = some 0 := by decide +kernel
theorem lL_law_m102 : Cond.methodLink RL 102 yX6_init ∈ wsL_law := by decide +kernel
theorem nL_law_X6_init : Cond.initialized yX6_init.cls ∈ wsL_law := by decide +kernel
theorem vL_law_X6_init : Cond.instanceMethod yX6_init ∈ wsL_law := by decide +kernel
theorem strOf {args : Array Value} {s : State} {k : Nat} {tx : String} (h1 : (Cond.stringRef RX5 k tx).before args s = true) (h2 : (Cond.exactly (.string RX5 k) "java/lang/String").before args s = true) : ∃ sa : Nat, vk_R RX5 k tx sa s := by
  obtain ⟨a, -, -, -, e, -⟩ := Cond.exactly_spec (args := args) (first := s) (o := none) (s := s) (idx := []) (t := .string RX5 k) (cls := "java/lang/String") h2
  exact ⟨a, vk_R.of h1 e⟩
theorem law_str {args : Array Value} {s : State} (hts : ∀ w ∈ lw_tbl, w.before args s = true) (hgf : ∀ c ∈ flatC (Jvm.Cond.and given_1 narrow_1), c.before args s = true) : ∀ q ∈ strL, ∃ sa : Nat, vk_R RX5 q.1 q.2 sa s := by
  refine List.forall_mem_cons.mpr ⟨strOf (k := 295) (tx := "there is no such place") (hts _ (List.mem_of_getElem? (i := 361) (by decide +kernel))) (hgf _ (List.mem_of_getElem? (i := 41) (by decide +kernel))), ?_⟩
  refine List.forall_mem_cons.mpr ⟨strOf (k := 59) (tx := "there is no such reading") (hts _ (List.mem_of_getElem? (i := 397) (by decide +kernel))) (hgf _ (List.mem_of_getElem? (i := 67) (by decide +kernel))), ?_⟩
  refine List.forall_mem_cons.mpr ⟨strOf (k := 70) (tx := "the draft has readings for as many places as it can") (hts _ (List.mem_of_getElem? (i := 421) (by decide +kernel))) (hgf _ (List.mem_of_getElem? (i := 96) (by decide +kernel))), ?_⟩
  refine List.forall_mem_cons.mpr ⟨strOf (k := 286) (tx := "there is no such copy") (hts _ (List.mem_of_getElem? (i := 443) (by decide +kernel))) (hgf _ (List.mem_of_getElem? (i := 153) (by decide +kernel))), ?_⟩
  refine List.forall_mem_cons.mpr ⟨strOf (k := 297) (tx := "there is no such scribe") (hts _ (List.mem_of_getElem? (i := 447) (by decide +kernel))) (hgf _ (List.mem_of_getElem? (i := 181) (by decide +kernel))), ?_⟩
  refine List.forall_mem_cons.mpr ⟨strOf (k := 289) (tx := "there is no such house") (hts _ (List.mem_of_getElem? (i := 452) (by decide +kernel))) (hgf _ (List.mem_of_getElem? (i := 212) (by decide +kernel))), ?_⟩
  refine List.forall_mem_cons.mpr ⟨strOf (k := 95) (tx := "the model is not in the house") (hts _ (List.mem_of_getElem? (i := 453) (by decide +kernel))) (hgf _ (List.mem_of_getElem? (i := 243) (by decide +kernel))), ?_⟩
  refine List.forall_mem_cons.mpr ⟨strOf (k := 101) (tx := "there are as many copies as there can be") (hts _ (List.mem_of_getElem? (i := 454) (by decide +kernel))) (hgf _ (List.mem_of_getElem? (i := 282) (by decide +kernel))), ?_⟩
  refine List.forall_mem_cons.mpr ⟨strOf (k := 125) (tx := "the copy has no model, or its model is told") (hts _ (List.mem_of_getElem? (i := 485) (by decide +kernel))) (hgf _ (List.mem_of_getElem? (i := 333) (by decide +kernel))), ?_⟩
  refine List.forall_mem_cons.mpr ⟨strOf (k := 133) (tx := "so many days cannot go by at once") (hts _ (List.mem_of_getElem? (i := 493) (by decide +kernel))) (hgf _ (List.mem_of_getElem? (i := 388) (by decide +kernel))), ?_⟩
  refine List.forall_mem_cons.mpr ⟨strOf (k := 135) (tx := "the last day would be passed") (hts _ (List.mem_of_getElem? (i := 494) (by decide +kernel))) (hgf _ (List.mem_of_getElem? (i := 434) (by decide +kernel))), ?_⟩
  refine List.forall_mem_cons.mpr ⟨strOf (k := 137) (tx := "not both copies are in the house") (hts _ (List.mem_of_getElem? (i := 502) (by decide +kernel))) (hgf _ (List.mem_of_getElem? (i := 476) (by decide +kernel))), ?_⟩
  refine List.forall_mem_cons.mpr ⟨strOf (k := 142) (tx := "both copies have the same reading there") (hts _ (List.mem_of_getElem? (i := 503) (by decide +kernel))) (hgf _ (List.mem_of_getElem? (i := 523) (by decide +kernel))), ?_⟩
  refine List.forall_mem_cons.mpr ⟨strOf (k := 144) (tx := "as many letters were written as can be") (hts _ (List.mem_of_getElem? (i := 504) (by decide +kernel))) (hgf _ (List.mem_of_getElem? (i := 578) (by decide +kernel))), ?_⟩
  refine List.forall_mem_cons.mpr ⟨strOf (k := 157) (tx := "the copy is not in the house") (hts _ (List.mem_of_getElem? (i := 539) (by decide +kernel))) (hgf _ (List.mem_of_getElem? (i := 633) (by decide +kernel))), ?_⟩
  refine List.forall_mem_cons.mpr ⟨strOf (k := 170) (tx := "a copy is not lent for so many days") (hts _ (List.mem_of_getElem? (i := 555) (by decide +kernel))) (hgf _ (List.mem_of_getElem? (i := 679) (by decide +kernel))), ?_⟩
  refine List.forall_mem_cons.mpr ⟨strOf (k := 172) (tx := "a pledge is not so high") (hts _ (List.mem_of_getElem? (i := 556) (by decide +kernel))) (hgf _ (List.mem_of_getElem? (i := 733) (by decide +kernel))), ?_⟩
  refine List.forall_mem_cons.mpr ⟨strOf (k := 177) (tx := "the copy belongs to the house, or is lent") (hts _ (List.mem_of_getElem? (i := 557) (by decide +kernel))) (hgf _ (List.mem_of_getElem? (i := 776) (by decide +kernel))), ?_⟩
  refine List.forall_mem_cons.mpr ⟨strOf (k := 182) (tx := "the house does not have so many coins") (hts _ (List.mem_of_getElem? (i := 558) (by decide +kernel))) (hgf _ (List.mem_of_getElem? (i := 838) (by decide +kernel))), ?_⟩
  refine List.forall_mem_cons.mpr ⟨strOf (k := 184) (tx := "as many loans were made as can be") (hts _ (List.mem_of_getElem? (i := 559) (by decide +kernel))) (hgf _ (List.mem_of_getElem? (i := 897) (by decide +kernel))), ?_⟩
  refine List.forall_mem_cons.mpr ⟨strOf (k := 291) (tx := "there is no such loan") (hts _ (List.mem_of_getElem? (i := 607) (by decide +kernel))) (hgf _ (List.mem_of_getElem? (i := 953) (by decide +kernel))), ?_⟩
  refine List.forall_mem_cons.mpr ⟨strOf (k := 205) (tx := "the loan was given back") (hts _ (List.mem_of_getElem? (i := 608) (by decide +kernel))) (hgf _ (List.mem_of_getElem? (i := 998) (by decide +kernel))), ?_⟩
  refine List.forall_mem_cons.mpr ⟨strOf (k := 299) (tx := "there is no such error") (hts _ (List.mem_of_getElem? (i := 722) (by decide +kernel))) (hgf _ (List.mem_of_getElem? (i := 1046) (by decide +kernel))), ?_⟩
  refine List.forall_mem_cons.mpr ⟨strOf (k := 293) (tx := "there is no such letter") (hts _ (List.mem_of_getElem? (i := 747) (by decide +kernel))) (hgf _ (List.mem_of_getElem? (i := 1094) (by decide +kernel))), ?_⟩
  exact fun _ h => nomatch h
theorem law_cls {args : Array Value} {s : State} (hts : ∀ w ∈ lw_tbl, w.before args s = true) : ∃ D : va_G, ∀ (k : Nat) (q : vw_C), vwCl[k]? = some q → u_Kn s q.1 q.2.1 q.2.2 (D.1 k) (D.2 k) := by
  obtain ⟨c0, s0, k0⟩ := u_known (C := RJx4a65c) (T := TJx4a65c) (N := 3) (n := 3) hts inJx4a65c (hts _ (List.mem_of_getElem? (i := 61) (by decide +kernel)))
  obtain ⟨c1, s1, k1⟩ := u_known (C := RX0) (T := TX0) (N := 7) (n := 7) hts inX0 (hts _ (List.mem_of_getElem? (i := 186) (by decide +kernel)))
  obtain ⟨c2, s2, k2⟩ := u_known (C := RX1) (T := TX1) (N := 2) (n := 2) hts inX1 (hts _ (List.mem_of_getElem? (i := 87) (by decide +kernel)))
  obtain ⟨c3, s3, k3⟩ := u_known (C := RX2) (T := TX2) (N := 4) (n := 4) hts inX2 (hts _ (List.mem_of_getElem? (i := 105) (by decide +kernel)))
  obtain ⟨c4, s4, k4⟩ := u_known (C := RX3) (T := TX3) (N := 3) (n := 3) hts inX3 (hts _ (List.mem_of_getElem? (i := 506) (by decide +kernel)))
  obtain ⟨c5, s5, k5⟩ := u_known (C := RX4) (T := TX4) (N := 6) (n := 6) hts inX4 (hts _ (List.mem_of_getElem? (i := 561) (by decide +kernel)))
  obtain ⟨c6, s6, k6⟩ := u_known (C := RX5) (T := TX5) (N := 7) (n := 7) hts inX5 (hts _ (List.mem_of_getElem? (i := 53) (by decide +kernel)))
  obtain ⟨c7, s7, k7⟩ := u_known (C := RX6) (T := TX6) (N := 26) (n := 26) hts inX6 (hts _ (List.mem_of_getElem? (i := 784) (by decide +kernel)))
  refine ⟨(fun k => if k = 0 then c0 else if k = 1 then c1 else if k = 2 then c2 else if k = 3 then c3 else if k = 4 then c4 else if k = 5 then c5 else if k = 6 then c6 else c7, fun k => if k = 0 then s0 else if k = 1 then s1 else if k = 2 then s2 else if k = 3 then s3 else if k = 4 then s4 else if k = 5 then s5 else if k = 6 then s6 else s7), fun k q hq => ?_⟩
  match k, hq with
  | 0, hq => cases hq; exact k0
  | 1, hq => cases hq; exact k1
  | 2, hq => cases hq; exact k2
  | 3, hq => cases hq; exact k3
  | 4, hq => cases hq; exact k4
  | 5, hq => cases hq; exact k5
  | 6, hq => cases hq; exact k6
  | 7, hq => cases hq; exact k7
  | k + 8, hq => simp [vwCl] at hq
theorem law_ev {args : Array Value} {s : State} (hts : ∀ w ∈ lw_tbl, w.before args s = true) (hgf : ∀ c ∈ flatC (Jvm.Cond.and given_1 narrow_1), c.before args s = true) : ∃ G : GG, Ev G s.heap.size s s.heap := by
  have hA : ∀ a : Nat, a < s.heap.size → ¬ Bd s.heap.size a := fun a h1 h2 => absurd h1 (Nat.not_lt.mpr h2)
  obtain ⟨D, hD⟩ := law_cls hts
  obtain ⟨ai, ki, pi, i1, i2, i3⟩ := Cond.arrayClass_spec (args := args) (first := s) (o := none) (s := s) (idx := []) (type := .int) (hts _ (List.mem_of_getElem? (i := 103) (by decide +kernel)))
  obtain ⟨az, kz, pz, z1, z2, z3⟩ := Cond.arrayClass_spec (args := args) (first := s) (o := none) (s := s) (idx := []) (type := .boolean) (hts _ (List.mem_of_getElem? (i := 126) (by decide +kernel)))
  obtain ⟨aj, kj, pj, j1, j2, j3⟩ := Cond.arrayClass_spec (args := args) (first := s) (o := none) (s := s) (idx := []) (type := .long) (hts _ (List.mem_of_getElem? (i := 1061) (by decide +kernel)))
  obtain ⟨po, ao, ko, o1, o2, o3, o4, o5⟩ := Cond.arrayOver_spec (args := args) (first := s) (o := none) (s := s) (idx := []) (n := "java/lang/Object") (hts _ (List.mem_of_getElem? (i := 175) (by decide +kernel)))
  obtain ⟨mi, hmi⟩ := va_Mi.of (args := args) (s := s) (C := "[Ljava/lang/Object;") (hgf _ (List.mem_of_getElem? (i := 40) (by decide +kernel)))
  obtain ⟨de, hde, hT⟩ := va_Tof (args := args) (s := s) (tm := .static "java/util/ArrayList" "DEFAULTCAPACITY_EMPTY_ELEMENTDATA" "[Ljava/lang/Object;") (ty := .object "java/lang/Object") (N := 0) (f := fun _ => .null) (A := Bd s.heap.size) (by decide) (hgf _ (List.mem_of_getElem? (i := 5) (by decide +kernel))) (va_eqt (z := 0) (hgf _ (List.mem_of_getElem? (i := 7) (by decide +kernel)))) (fun j hj => absurd hj (Nat.not_lt_zero j)) hA
  have hZ : va_Z RJx4a65c "DEFAULTCAPACITY_EMPTY_ELEMENTDATA" "[Ljava/lang/Object;" (.ref de) (Bd s.heap.size) s s.heap := va_Zof (args := args) (hts _ (List.mem_of_getElem? (i := 73) (by decide +kernel))) (hts _ (List.mem_of_getElem? (i := 32) (by decide +kernel))) hde hA
  refine ⟨(D, ai, az, ao, aj, de, mi), ⟨hD, fun k q hq => ?_⟩, vx_Zqof (args := args) (hts _ (List.mem_of_getElem? (i := 347) (by decide +kernel))) (hts _ (List.mem_of_getElem? (i := 41) (by decide +kernel))) (hgf _ (List.mem_of_getElem? (i := 8) (by decide +kernel))) hA, vx_Zqof (args := args) (hts _ (List.mem_of_getElem? (i := 349) (by decide +kernel))) (hts _ (List.mem_of_getElem? (i := 41) (by decide +kernel))) (hgf _ (List.mem_of_getElem? (i := 9) (by decide +kernel))) hA, law_str hts hgf, ?_, ?_, hmi, va_Dc.of (hts _ (List.mem_of_getElem? (i := 1078) (by decide +kernel))), va_AO.of (hts _ (List.mem_of_getElem? (i := 175) (by decide +kernel))), hZ, hT⟩
  · match k, hq with
    | 0, hq => cases hq; exact ⟨fun n z => ⟨fun k h => (by cases h), ki, i2, pi, i3⟩, i1⟩
    | 1, hq => cases hq; exact ⟨fun n z => ⟨fun k h => (by cases h), kz, z2, pz, z3⟩, z1⟩
    | 2, hq => cases hq; exact ⟨fun n z => ⟨fun k h => (by cases h), ko, o3, po, o4⟩, ko, po, o3, o4, o1, o5⟩
    | 3, hq => cases hq; exact ⟨fun n z => ⟨fun k h => (by cases h), kj, j2, pj, j3⟩, j1⟩
    | k + 4, hq => simp [tysG] at hq
  · refine List.forall_mem_cons.mpr ⟨va_Nw.of rfl (hts _ (List.mem_of_getElem? (i := 1067) (by decide +kernel))), ?_⟩
    refine List.forall_mem_cons.mpr ⟨va_Nw.of rfl (hts _ (List.mem_of_getElem? (i := 1066) (by decide +kernel))), ?_⟩
    refine List.forall_mem_cons.mpr ⟨va_Nw.of rfl (hts _ (List.mem_of_getElem? (i := 1072) (by decide +kernel))), ?_⟩
    refine List.forall_mem_cons.mpr ⟨va_Nw.of rfl (hts _ (List.mem_of_getElem? (i := 1073) (by decide +kernel))), ?_⟩
    refine List.forall_mem_cons.mpr ⟨va_Nw.of rfl (hts _ (List.mem_of_getElem? (i := 390) (by decide +kernel))), ?_⟩
    refine List.forall_mem_cons.mpr ⟨va_Nw.of rfl (hts _ (List.mem_of_getElem? (i := 414) (by decide +kernel))), ?_⟩
    refine List.forall_mem_cons.mpr ⟨va_Nw.of rfl (hts _ (List.mem_of_getElem? (i := 322) (by decide +kernel))), ?_⟩
    exact fun _ h => nomatch h
  · refine List.forall_mem_cons.mpr ⟨va_Nw.of rfl (hts _ (List.mem_of_getElem? (i := 324) (by decide +kernel))), ?_⟩
    refine List.forall_mem_cons.mpr ⟨va_Nw.of rfl (hts _ (List.mem_of_getElem? (i := 326) (by decide +kernel))), ?_⟩
    refine List.forall_mem_cons.mpr ⟨va_Nw.of rfl (hts _ (List.mem_of_getElem? (i := 328) (by decide +kernel))), ?_⟩
    exact fun _ h => nomatch h
theorem law_nc {args : Array Value} {s : State} (hts : ∀ w ∈ lw_tbl, w.before args s = true) (hgf : ∀ c ∈ flatC (Jvm.Cond.and given_1 narrow_1), c.before args s = true) : NcA s := by
  refine ⟨?_, ?_⟩
  · refine List.forall_mem_cons.mpr ⟨va_Nc.of (args := args) (hgf _ (List.mem_of_getElem? (i := 16) (by decide +kernel))), ?_⟩
    refine List.forall_mem_cons.mpr ⟨va_Nc.of (args := args) (hgf _ (List.mem_of_getElem? (i := 17) (by decide +kernel))), ?_⟩
    refine List.forall_mem_cons.mpr ⟨va_Nc.of (args := args) (hgf _ (List.mem_of_getElem? (i := 27) (by decide +kernel))), ?_⟩
    exact fun _ h => nomatch h
  · refine List.forall_mem_cons.mpr ⟨va_Nw.of rfl (hts _ (List.mem_of_getElem? (i := 310) (by decide +kernel))), ?_⟩
    refine List.forall_mem_cons.mpr ⟨va_Nw.of rfl (hts _ (List.mem_of_getElem? (i := 311) (by decide +kernel))), ?_⟩
    refine List.forall_mem_cons.mpr ⟨va_Nw.of rfl (hts _ (List.mem_of_getElem? (i := 312) (by decide +kernel))), ?_⟩
    exact fun _ h => nomatch h
theorem wfv0 : WFV V0 1 0 0 := by
  refine ⟨⟨rfl, rfl, rfl⟩, ⟨⟨by decide, by decide⟩, by decide, by decide⟩, fun j _ => ?_, ⟨rfl, fun i h1 h2 => by omega⟩, ⟨rfl, fun i _ => .inl rfl⟩, fun i _ => ?_, fun k hk => ?_, fun j hj => absurd hj (Nat.not_lt_zero j), ⟨fun j _ => .inl rfl, fun _ _ _ _ _ => rfl⟩, fun j hj => absurd hj (Nat.not_lt_zero j), fun j _ => .inl rfl, ?_⟩
  · show 0 ≤ (0 : Int) ∧ (0 : Int) ≤ 9
    decide
  · show (0 ≤ (0 : Int) ∧ (0 : Int) < 5) ∧ 0 ≤ (0 : Int) ∧ (0 : Int) < 5
    decide
  · show -1 ≤ (if k < 24 then (-1 : Int) else 0) ∧ (if k < 24 then (-1 : Int) else 0) ≤ 9
    rw [if_pos hk]
    decide
  · show 0 ≤ (0 : Int) ∧ (0 : Int) ≤ 2000
    decide
theorem sbn_forget {s s' : State} {L : List Loc} {k n : Nat} (h : s.sameButNew s' L k n) (hL : ∀ q ∈ L, s.heap.size ≤ q.base) : s.sameButNew s' [] k n := by
  obtain ⟨h1, h2, h3, h4, h5, h6⟩ := h
  refine ⟨h1, h2, h3, h4, h5, fun a c ha => ?_⟩
  obtain ⟨c', e1, e2, e3, e4⟩ := h6 a c ha
  refine ⟨c', e1, e2, e3, fun i _ => e4 i (fun hm => ?_)⟩
  have q1 : s.heap.size ≤ a := hL _ hm
  have q2 := (Array.getElem?_eq_some_iff.mp ha).1
  omega
theorem arL_law_long : Cond.arrayClass (newarray.typeOf .long) ∈ wsL_law := by decide +kernel
section
variable {κ : KxT} {G : GG} {base mc ms : Nat} {post : Option Value → va_W → Prop} {exc : String → va_W → Prop} {b Ln : Nat} {xs : Nat → Int32}
theorem tl_L_init (C : Cx κ cL_law 7 wsL_law RL (some .boolean) rmL_law G base) (hN : NcA (ks κ)) (S : SCR κ base b Ln xs) (hL : Ln ≤ 2560) (hp : ∀ w, post (some (.int (iI 1))) w) (hmc : mc = 601024) (hms : ms = 7293034) : Z κ 7 G base mc ms post exc 0 0 0 [(0, .ref b)] [] [] := by
  refine z_ws (ws' := pw G [] [] (fun _ => 0) (fun _ _ => 0) (fun _ _ => none) (fun _ _ => 0) (fun _ => 0) (fun _ _ => none)) rfl ?_
  refine z_new (ci := 6) (fs := [.null, .null, .null, .null, .null, .null, .int 0]) C tyX5 tyX5_ok iL_law_X5 lL_law_c8 nnL_law_X5 niL_law_X5 rfl (by decide) (Nat.le_of_ble_eq_true rfl) (Nat.le_of_ble_eq_true rfl) dL_law_0 (rfl : 0 + 3 = 3) (fun x hx => ?_)
  refine z_ws (pwn_MC hx) ?_
  refine z_dup C rfl dL_law_3 (rfl : 3 + 1 = 4) ?_
  refine z_callI C 81 6007 (c_X5_init (by simp) (va_up_self _ _ _)) gL_law_X5_init rfl nL_law_X5_init lL_law_m99 vL_law_X5_init rfl hd84_X5_init ⟨Nat.le_of_ble_eq_true rfl, Nat.le_of_ble_eq_true rfl⟩ rfl (Nat.le_of_ble_eq_true rfl) dL_law_4 (rfl : 4 + 3 = 7) rfl rfl ⟨Nat.le_of_ble_eq_true rfl, Nat.le_of_ble_eq_true rfl⟩ (fun _ _ h => h.elim) ?_ rfl
  rintro _ _ ⟨rfl, L, K, I, F, R, N, O, T, g, rfl, hRX, hg⟩
  refine z_v0 ?_
  refine z_astore_n (lv' := [(1, _), (0, _)]) C rfl dL_law_7 (rfl : 7 + 1 = 8) (by decide) rfl ?_
  refine z_new (ci := 7) (fs := [.null, .null, .null, .null, .null, .int 0, .null, .int 0, .null, .int 0, .null, .null, .null, .null, .int 0, .null, .null, .null, .null, .null, .null, .int 0, .null, .null, .null, .int 0]) C tyX6 tyX6_ok iL_law_X6 lL_law_c100 nnL_law_X6 niL_law_X6 rfl (by decide) (Nat.le_of_ble_eq_true rfl) (Nat.le_of_ble_eq_true rfl) dL_law_8 (rfl : 8 + 3 = 11) (fun xm0 hxm0 => ?_)
  refine z_dup C rfl dL_law_11 (rfl : 11 + 1 = 12) ?_
  refine z_perm (ws' := xr xm0 (fun _ => none) (fun _ _ => 0) [] ++ pw G [] L K I F R N O) List.perm_append_comm ?_
  refine z_callI C 102 8033 (c_X6_init) gL_law_X6_init rfl nL_law_X6_init lL_law_m102 vL_law_X6_init rfl hd84_X6_init ⟨Nat.le_of_ble_eq_true rfl, Nat.le_of_ble_eq_true rfl⟩ rfl (Nat.le_of_ble_eq_true rfl) dL_law_12 (rfl : 12 + 3 = 15) rfl rfl ⟨Nat.le_of_ble_eq_true rfl, Nat.le_of_ble_eq_true rfl⟩ (fun _ _ h => h.elim) ?_ rfl
  rintro _ _ ⟨rfl, q, rfl, rfl⟩
  refine z_v0 ?_
  refine z_astore_n (lv' := [(2, _), (1, _), (0, _)]) C rfl dL_law_15 (rfl : 15 + 1 = 16) (by decide) rfl ?_
  refine z_iconst C dL_law_16 (rfl : 16 + 1 = 17) ?_
  refine z_newa (N' := 1) (a0 := (1, .inr (.inl (fun _ => 0)))) C 3 rfl arL_law_long rfl (fun _ => rfl) rfl (by decide) (by decide) (Nat.le_of_ble_eq_true rfl) (Nat.le_of_ble_eq_true rfl) dL_law_17 (rfl : 17 + 2 = 19) (fun qo hqo => ?_)
  refine z_perm (ws' := xm G q V0 ++ ((qo, .inl (G.2.2.2.2.1, 1, .inr (.inl (fun _ => 0)))) :: pw G [] L K I F R N O)) (by rw [List.append_assoc]; exact List.Perm.append_left _ List.perm_append_comm) ?_
  refine z_astore_n (lv' := [(3, _), (2, _), (1, _), (0, _)]) C rfl dL_law_19 (rfl : 19 + 1 = 20) (by decide) rfl ?_
  refine z_iconst C dL_law_20 (rfl : 20 + 1 = 21) ?_
  refine z_istore (lv' := [(4, _), (3, _), (2, _), (1, _), (0, _)]) C dL_law_21 (rfl : 21 + 2 = 23) (by decide) rfl ?_
  refine z_sub [0, 4, 3, 2, 1] (lv' := [(4, .int (iI ((0 : Nat) : Int))), (0, .ref b), (1, .ref x), (2, .ref (q 30)), (3, .ref qo)]) rfl ?_
  exact lp_law C hN S hL (fun w _ => hp w) hmc hms 513 0 103 8034 _ (by omega) (by omega) (by decide) (by decide) (INV.of hg hRX wfv0 (fun _ _ => rfl))
end
