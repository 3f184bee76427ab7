theorem strOf {args : Array Value} {s : State} {k : Nat} {tx : String} (h1 : (Cond.stringRef RX5 k tx).before args s = true) (h2 : (Cond.exactly (.string RX5 k) "java/lang/String").before args s = true) : ∃ sa : Nat, vk_R RX5 k tx sa s := by
  obtain ⟨a, -, -, -, e, -⟩ := Cond.exactly_spec (args := args) (first := s) (o := none) (s := s) (idx := []) (t := .string RX5 k) (cls := "java/lang/String") h2
  exact ⟨a, vk_R.of h1 e⟩
theorem law_str {args : Array Value} {s : State} (hts : ∀ w ∈ lw_tbl, w.before args s = true) (hgf : ∀ c ∈ flatC (Jvm.Cond.and given_1 narrow_1), c.before args s = true) : ∀ q ∈ strL, ∃ sa : Nat, vk_R RX5 q.1 q.2 sa s := by
  refine List.forall_mem_cons.mpr ⟨strOf (k := 295) (tx := "there is no such place") (hts _ (List.mem_of_getElem? (i := 306) (by decide +kernel))) (hgf _ (List.mem_of_getElem? (i := 38) (by decide +kernel))), ?_⟩
  refine List.forall_mem_cons.mpr ⟨strOf (k := 59) (tx := "there is no such reading") (hts _ (List.mem_of_getElem? (i := 343) (by decide +kernel))) (hgf _ (List.mem_of_getElem? (i := 64) (by decide +kernel))), ?_⟩
  refine List.forall_mem_cons.mpr ⟨strOf (k := 70) (tx := "the draft has readings for as many places as it can") (hts _ (List.mem_of_getElem? (i := 367) (by decide +kernel))) (hgf _ (List.mem_of_getElem? (i := 93) (by decide +kernel))), ?_⟩
  refine List.forall_mem_cons.mpr ⟨strOf (k := 286) (tx := "there is no such copy") (hts _ (List.mem_of_getElem? (i := 393) (by decide +kernel))) (hgf _ (List.mem_of_getElem? (i := 150) (by decide +kernel))), ?_⟩
  refine List.forall_mem_cons.mpr ⟨strOf (k := 297) (tx := "there is no such scribe") (hts _ (List.mem_of_getElem? (i := 438) (by decide +kernel))) (hgf _ (List.mem_of_getElem? (i := 229) (by decide +kernel))), ?_⟩
  refine List.forall_mem_cons.mpr ⟨strOf (k := 289) (tx := "there is no such house") (hts _ (List.mem_of_getElem? (i := 443) (by decide +kernel))) (hgf _ (List.mem_of_getElem? (i := 261) (by decide +kernel))), ?_⟩
  refine List.forall_mem_cons.mpr ⟨strOf (k := 95) (tx := "the model is not in the house") (hts _ (List.mem_of_getElem? (i := 444) (by decide +kernel))) (hgf _ (List.mem_of_getElem? (i := 293) (by decide +kernel))), ?_⟩
  refine List.forall_mem_cons.mpr ⟨strOf (k := 101) (tx := "there are as many copies as there can be") (hts _ (List.mem_of_getElem? (i := 445) (by decide +kernel))) (hgf _ (List.mem_of_getElem? (i := 333) (by decide +kernel))), ?_⟩
  refine List.forall_mem_cons.mpr ⟨strOf (k := 125) (tx := "the copy has no model, or its model is told") (hts _ (List.mem_of_getElem? (i := 408) (by decide +kernel))) (hgf _ (List.mem_of_getElem? (i := 178) (by decide +kernel))), ?_⟩
  refine List.forall_mem_cons.mpr ⟨strOf (k := 133) (tx := "so many days cannot go by at once") (hts _ (List.mem_of_getElem? (i := 608) (by decide +kernel))) (hgf _ (List.mem_of_getElem? (i := 933) (by decide +kernel))), ?_⟩
  refine List.forall_mem_cons.mpr ⟨strOf (k := 135) (tx := "the last day would be passed") (hts _ (List.mem_of_getElem? (i := 609) (by decide +kernel))) (hgf _ (List.mem_of_getElem? (i := 990) (by decide +kernel))), ?_⟩
  refine List.forall_mem_cons.mpr ⟨strOf (k := 137) (tx := "not both copies are in the house") (hts _ (List.mem_of_getElem? (i := 505) (by decide +kernel))) (hgf _ (List.mem_of_getElem? (i := 426) (by decide +kernel))), ?_⟩
  refine List.forall_mem_cons.mpr ⟨strOf (k := 142) (tx := "both copies have the same reading there") (hts _ (List.mem_of_getElem? (i := 506) (by decide +kernel))) (hgf _ (List.mem_of_getElem? (i := 472) (by decide +kernel))), ?_⟩
  refine List.forall_mem_cons.mpr ⟨strOf (k := 144) (tx := "as many letters were written as can be") (hts _ (List.mem_of_getElem? (i := 507) (by decide +kernel))) (hgf _ (List.mem_of_getElem? (i := 526) (by decide +kernel))), ?_⟩
  refine List.forall_mem_cons.mpr ⟨strOf (k := 157) (tx := "the copy is not in the house") (hts _ (List.mem_of_getElem? (i := 484) (by decide +kernel))) (hgf _ (List.mem_of_getElem? (i := 385) (by decide +kernel))), ?_⟩
  refine List.forall_mem_cons.mpr ⟨strOf (k := 170) (tx := "a copy is not lent for so many days") (hts _ (List.mem_of_getElem? (i := 537) (by decide +kernel))) (hgf _ (List.mem_of_getElem? (i := 580) (by decide +kernel))), ?_⟩
  refine List.forall_mem_cons.mpr ⟨strOf (k := 172) (tx := "a pledge is not so high") (hts _ (List.mem_of_getElem? (i := 538) (by decide +kernel))) (hgf _ (List.mem_of_getElem? (i := 632) (by decide +kernel))), ?_⟩
  refine List.forall_mem_cons.mpr ⟨strOf (k := 177) (tx := "the copy belongs to the house, or is lent") (hts _ (List.mem_of_getElem? (i := 539) (by decide +kernel))) (hgf _ (List.mem_of_getElem? (i := 673) (by decide +kernel))), ?_⟩
  refine List.forall_mem_cons.mpr ⟨strOf (k := 182) (tx := "the house does not have so many coins") (hts _ (List.mem_of_getElem? (i := 540) (by decide +kernel))) (hgf _ (List.mem_of_getElem? (i := 733) (by decide +kernel))), ?_⟩
  refine List.forall_mem_cons.mpr ⟨strOf (k := 184) (tx := "as many loans were made as can be") (hts _ (List.mem_of_getElem? (i := 541) (by decide +kernel))) (hgf _ (List.mem_of_getElem? (i := 790) (by decide +kernel))), ?_⟩
  refine List.forall_mem_cons.mpr ⟨strOf (k := 291) (tx := "there is no such loan") (hts _ (List.mem_of_getElem? (i := 592) (by decide +kernel))) (hgf _ (List.mem_of_getElem? (i := 844) (by decide +kernel))), ?_⟩
  refine List.forall_mem_cons.mpr ⟨strOf (k := 205) (tx := "the loan was given back") (hts _ (List.mem_of_getElem? (i := 593) (by decide +kernel))) (hgf _ (List.mem_of_getElem? (i := 887) (by decide +kernel))), ?_⟩
  refine List.forall_mem_cons.mpr ⟨strOf (k := 299) (tx := "there is no such error") (hts _ (List.mem_of_getElem? (i := 710) (by decide +kernel))) (hgf _ (List.mem_of_getElem? (i := 1043) (by decide +kernel))), ?_⟩
  refine List.forall_mem_cons.mpr ⟨strOf (k := 293) (tx := "there is no such letter") (hts _ (List.mem_of_getElem? (i := 744) (by decide +kernel))) (hgf _ (List.mem_of_getElem? (i := 1091) (by decide +kernel))), ?_⟩
  exact fun _ h => nomatch h
theorem law_cls {args : Array Value} {s : State} (hts : ∀ w ∈ lw_tbl, w.before args s = true) : ∃ D : va_G, ∀ (k : Nat) (q : vw_C), vwCl[k]? = some q → u_Kn s q.1 q.2.1 q.2.2 (D.1 k) (D.2 k) := by
  obtain ⟨c0, s0, k0⟩ := u_known (C := RJx4a65c) (T := TJx4a65c) (N := 3) (n := 3) hts inJx4a65c (hts _ (List.mem_of_getElem? (i := 57) (by decide +kernel)))
  obtain ⟨c1, s1, k1⟩ := u_known (C := RX0) (T := TX0) (N := 7) (n := 7) hts inX0 (hts _ (List.mem_of_getElem? (i := 181) (by decide +kernel)))
  obtain ⟨c2, s2, k2⟩ := u_known (C := RX1) (T := TX1) (N := 2) (n := 2) hts inX1 (hts _ (List.mem_of_getElem? (i := 83) (by decide +kernel)))
  obtain ⟨c3, s3, k3⟩ := u_known (C := RX2) (T := TX2) (N := 4) (n := 4) hts inX2 (hts _ (List.mem_of_getElem? (i := 101) (by decide +kernel)))
  obtain ⟨c4, s4, k4⟩ := u_known (C := RX3) (T := TX3) (N := 3) (n := 3) hts inX3 (hts _ (List.mem_of_getElem? (i := 508) (by decide +kernel)))
  obtain ⟨c5, s5, k5⟩ := u_known (C := RX4) (T := TX4) (N := 6) (n := 6) hts inX4 (hts _ (List.mem_of_getElem? (i := 543) (by decide +kernel)))
  obtain ⟨c6, s6, k6⟩ := u_known (C := RX5) (T := TX5) (N := 7) (n := 7) hts inX5 (hts _ (List.mem_of_getElem? (i := 49) (by decide +kernel)))
  refine ⟨(fun k => if k = 0 then c0 else if k = 1 then c1 else if k = 2 then c2 else if k = 3 then c3 else if k = 4 then c4 else if k = 5 then c5 else c6, fun k => if k = 0 then s0 else if k = 1 then s1 else if k = 2 then s2 else if k = 3 then s3 else if k = 4 then s4 else if k = 5 then s5 else s6), fun k q hq => ?_⟩
  match k, hq with
  | 0, hq => cases hq; exact k0
  | 1, hq => cases hq; exact k1
  | 2, hq => cases hq; exact k2
  | 3, hq => cases hq; exact k3
  | 4, hq => cases hq; exact k4
  | 5, hq => cases hq; exact k5
  | 6, hq => cases hq; exact k6
  | k + 7, hq => simp [vwCl] at hq
theorem law_ev {args : Array Value} {s : State} (hts : ∀ w ∈ lw_tbl, w.before args s = true) (hgf : ∀ c ∈ flatC (Jvm.Cond.and given_1 narrow_1), c.before args s = true) : ∃ G : GG, Ev G s.heap.size s s.heap := by
  have hA : ∀ a : Nat, a < s.heap.size → ¬ Bd s.heap.size a := fun a h1 h2 => absurd h1 (Nat.not_lt.mpr h2)
  obtain ⟨D, hD⟩ := law_cls hts
  obtain ⟨ai, ki, pi, i1, i2, i3⟩ := Cond.arrayClass_spec (args := args) (first := s) (o := none) (s := s) (idx := []) (type := .int) (hts _ (List.mem_of_getElem? (i := 99) (by decide +kernel)))
  obtain ⟨az, kz, pz, z1, z2, z3⟩ := Cond.arrayClass_spec (args := args) (first := s) (o := none) (s := s) (idx := []) (type := .boolean) (hts _ (List.mem_of_getElem? (i := 122) (by decide +kernel)))
  obtain ⟨aj, kj, pj, j1, j2, j3⟩ := Cond.arrayClass_spec (args := args) (first := s) (o := none) (s := s) (idx := []) (type := .long) (hts _ (List.mem_of_getElem? (i := 332) (by decide +kernel)))
  obtain ⟨po, ao, ko, o1, o2, o3, o4, o5⟩ := Cond.arrayOver_spec (args := args) (first := s) (o := none) (s := s) (idx := []) (n := "java/lang/Object") (hts _ (List.mem_of_getElem? (i := 170) (by decide +kernel)))
  obtain ⟨mi, hmi⟩ := va_Mi.of (args := args) (s := s) (C := "[Ljava/lang/Object;") (hgf _ (List.mem_of_getElem? (i := 37) (by decide +kernel)))
  obtain ⟨de, hde, hT⟩ := va_Tof (args := args) (s := s) (tm := .static "java/util/ArrayList" "DEFAULTCAPACITY_EMPTY_ELEMENTDATA" "[Ljava/lang/Object;") (ty := .object "java/lang/Object") (N := 0) (f := fun _ => .null) (A := Bd s.heap.size) (by decide) (hgf _ (List.mem_of_getElem? (i := 5) (by decide +kernel))) (va_eqt (z := 0) (hgf _ (List.mem_of_getElem? (i := 7) (by decide +kernel)))) (fun j hj => absurd hj (Nat.not_lt_zero j)) hA
  have hZ : va_Z RJx4a65c "DEFAULTCAPACITY_EMPTY_ELEMENTDATA" "[Ljava/lang/Object;" (.ref de) (Bd s.heap.size) s s.heap := va_Zof (args := args) (hts _ (List.mem_of_getElem? (i := 69) (by decide +kernel))) (hts _ (List.mem_of_getElem? (i := 20) (by decide +kernel))) hde hA
  refine ⟨(D, ai, az, ao, aj, de, mi), ⟨hD, fun k q hq => ?_⟩, vx_Zqof (args := args) (hts _ (List.mem_of_getElem? (i := 292) (by decide +kernel))) (hts _ (List.mem_of_getElem? (i := 28) (by decide +kernel))) (hgf _ (List.mem_of_getElem? (i := 8) (by decide +kernel))) hA, vx_Zqof (args := args) (hts _ (List.mem_of_getElem? (i := 294) (by decide +kernel))) (hts _ (List.mem_of_getElem? (i := 28) (by decide +kernel))) (hgf _ (List.mem_of_getElem? (i := 9) (by decide +kernel))) hA, law_str hts hgf, ?_, ?_, hmi, va_Dc.of (hts _ (List.mem_of_getElem? (i := 784) (by decide +kernel))), va_AO.of (hts _ (List.mem_of_getElem? (i := 170) (by decide +kernel))), hZ, hT⟩
  · match k, hq with
    | 0, hq => cases hq; exact ⟨fun n z => ⟨fun k h => (by cases h), ki, i2, pi, i3⟩, i1⟩
    | 1, hq => cases hq; exact ⟨fun n z => ⟨fun k h => (by cases h), kz, z2, pz, z3⟩, z1⟩
    | 2, hq => cases hq; exact ⟨fun n z => ⟨fun k h => (by cases h), ko, o3, po, o4⟩, ko, po, o3, o4, o1, o5⟩
    | 3, hq => cases hq; exact ⟨fun n z => ⟨fun k h => (by cases h), kj, j2, pj, j3⟩, j1⟩
    | k + 4, hq => simp [tysG] at hq
  · refine List.forall_mem_cons.mpr ⟨va_Nw.of rfl (hts _ (List.mem_of_getElem? (i := 774) (by decide +kernel))), ?_⟩
    refine List.forall_mem_cons.mpr ⟨va_Nw.of rfl (hts _ (List.mem_of_getElem? (i := 773) (by decide +kernel))), ?_⟩
    refine List.forall_mem_cons.mpr ⟨va_Nw.of rfl (hts _ (List.mem_of_getElem? (i := 778) (by decide +kernel))), ?_⟩
    refine List.forall_mem_cons.mpr ⟨va_Nw.of rfl (hts _ (List.mem_of_getElem? (i := 779) (by decide +kernel))), ?_⟩
    refine List.forall_mem_cons.mpr ⟨va_Nw.of rfl (hts _ (List.mem_of_getElem? (i := 336) (by decide +kernel))), ?_⟩
    refine List.forall_mem_cons.mpr ⟨va_Nw.of rfl (hts _ (List.mem_of_getElem? (i := 360) (by decide +kernel))), ?_⟩
    refine List.forall_mem_cons.mpr ⟨va_Nw.of rfl (hts _ (List.mem_of_getElem? (i := 267) (by decide +kernel))), ?_⟩
    exact fun _ h => nomatch h
  · refine List.forall_mem_cons.mpr ⟨va_Nw.of rfl (hts _ (List.mem_of_getElem? (i := 269) (by decide +kernel))), ?_⟩
    refine List.forall_mem_cons.mpr ⟨va_Nw.of rfl (hts _ (List.mem_of_getElem? (i := 271) (by decide +kernel))), ?_⟩
    refine List.forall_mem_cons.mpr ⟨va_Nw.of rfl (hts _ (List.mem_of_getElem? (i := 273) (by decide +kernel))), ?_⟩
    exact fun _ h => nomatch h
theorem sbn_forget {s s' : State} {L : List Loc} {k n : Nat} (h : s.sameButNew s' L k n) (hL : ∀ q ∈ L, s.heap.size ≤ q.base) : s.sameButNew s' [] k n := by
  obtain ⟨h1, h2, h3, h4, h5, h6⟩ := h
  refine ⟨h1, h2, h3, h4, h5, fun a c ha => ?_⟩
  obtain ⟨c', e1, e2, e3, e4⟩ := h6 a c ha
  refine ⟨c', e1, e2, e3, fun i _ => e4 i (fun hm => ?_)⟩
  have q1 : s.heap.size ≤ a := hL _ hm
  have q2 := (Array.getElem?_eq_some_iff.mp ha).1
  omega
