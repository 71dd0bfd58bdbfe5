theorem vk_Rx {args : Array Value} {s : State} {own tx : String} {k : Nat} (h1 : (Cond.stringRef own k tx).before args s = true) (h2 : (Cond.exactly (.string own k) "java/lang/String").before args s = true) : ∃ a : Nat, vk_R own k tx a s := by
  obtain ⟨a, c, cell, kk, e, -⟩ := Cond.exactly_spec h2
  exact ⟨a, vk_R.of h1 e⟩
theorem lw_arr {args : Array Value} {s : State} {ty : FieldType} (h : (Cond.arrayClass ty).before args s = true) : ∃ cA : ClassId, ArrOfT s cA ty ∧ s.vm.findClass ("[" ++ ty.toString) = some cA := by
  obtain ⟨cA, kA, comp, e1, e2, e3⟩ := Cond.arrayClass_spec h
  exact ⟨cA, fun n z => ⟨fun k h => (by cases h), kA, e2, comp, e3⟩, e1⟩
theorem lw_arrS {args : Array Value} {s : State} {C : String} (h : (Cond.arrayOver (.object C)).before args s = true) : ∃ cA : ClassId, ArrOfT s cA (.object C) ∧ va_RA s cA (.object C) := by
  obtain ⟨comp, cA, kA, e1, e2, e3, e4, e5⟩ := Cond.arrayOver_spec h
  exact ⟨cA, fun n z => ⟨fun k h => (by cases h), kA, e3, comp, e4⟩, kA, comp, e3, e4, e1, e5⟩
set_option maxHeartbeats 4000000 in
set_option maxRecDepth 100000 in
theorem lw_texts {args : Array Value} {s : State} (hts0 : ∀ w ∈ lw_tbl, w.before args s = true) (hs : ∀ w ∈ flatC (Jvm.Cond.and given_1 narrow_1), w.before args s = true) : ∀ q ∈ oTx, ∃ a : Nat, vk_R RX5 q.1 q.2 a s := by
  intro q hq
  simp only [oTx, List.mem_cons, List.not_mem_nil, or_false] at hq
  rcases hq with rfl | rfl | rfl | rfl | rfl | rfl | rfl | rfl | rfl | rfl | rfl | rfl | rfl | rfl | rfl | rfl | rfl | rfl | rfl
  · exact vk_Rx (own := RX5) (k := 55) (tx := "no such character") (by first | exact hts0 _ (by decide +kernel) | exact hs _ (by decide +kernel)) (by first | exact hts0 _ (by decide +kernel) | exact hs _ (by decide +kernel))
  · exact vk_Rx (own := RX5) (k := 66) (tx := "the text is full") (by first | exact hts0 _ (by decide +kernel) | exact hs _ (by decide +kernel)) (by first | exact hts0 _ (by decide +kernel) | exact hs _ (by decide +kernel))
  · exact vk_Rx (own := RX5) (k := 79) (tx := "the text is not a case") (by first | exact hts0 _ (by decide +kernel) | exact hs _ (by decide +kernel)) (by first | exact hts0 _ (by decide +kernel) | exact hs _ (by decide +kernel))
  · exact vk_Rx (own := RX5) (k := 132) (tx := "no such number") (by first | exact hts0 _ (by decide +kernel) | exact hs _ (by decide +kernel)) (by first | exact hts0 _ (by decide +kernel) | exact hs _ (by decide +kernel))
  · exact vk_Rx (own := RX5) (k := 227) (tx := "no such ruler") (by first | exact hts0 _ (by decide +kernel) | exact hs _ (by decide +kernel)) (by first | exact hts0 _ (by decide +kernel) | exact hs _ (by decide +kernel))
  · exact vk_Rx (own := RX5) (k := 167) (tx := "no such place") (by first | exact hts0 _ (by decide +kernel) | exact hs _ (by decide +kernel)) (by first | exact hts0 _ (by decide +kernel) | exact hs _ (by decide +kernel))
  · exact vk_Rx (own := RX5) (k := 177) (tx := "no such span") (by first | exact hts0 _ (by decide +kernel) | exact hs _ (by decide +kernel)) (by first | exact hts0 _ (by decide +kernel) | exact hs _ (by decide +kernel))
  · exact vk_Rx (own := RX5) (k := 189) (tx := "no such gap") (by first | exact hts0 _ (by decide +kernel) | exact hs _ (by decide +kernel)) (by first | exact hts0 _ (by decide +kernel) | exact hs _ (by decide +kernel))
  · exact vk_Rx (own := RX5) (k := 221) (tx := "no such ruler or place") (by first | exact hts0 _ (by decide +kernel) | exact hs _ (by decide +kernel)) (by first | exact hts0 _ (by decide +kernel) | exact hs _ (by decide +kernel))
  · exact vk_Rx (own := RX5) (k := 223) (tx := "out of range") (by first | exact hts0 _ (by decide +kernel) | exact hs _ (by decide +kernel)) (by first | exact hts0 _ (by decide +kernel) | exact hs _ (by decide +kernel))
  · exact vk_Rx (own := RX5) (k := 225) (tx := "not in this state") (by first | exact hts0 _ (by decide +kernel) | exact hs _ (by decide +kernel)) (by first | exact hts0 _ (by decide +kernel) | exact hs _ (by decide +kernel))
  · exact vk_Rx (own := RX5) (k := 205) (tx := "no state is remembered") (by first | exact hts0 _ (by decide +kernel) | exact hs _ (by decide +kernel)) (by first | exact hts0 _ (by decide +kernel) | exact hs _ (by decide +kernel))
  · exact vk_Rx (own := RX5) (k := 281) (tx := "no such length") (by first | exact hts0 _ (by decide +kernel) | exact hs _ (by decide +kernel)) (by first | exact hts0 _ (by decide +kernel) | exact hs _ (by decide +kernel))
  · exact vk_Rx (own := RX5) (k := 232) (tx := "no such way") (by first | exact hts0 _ (by decide +kernel) | exact hs _ (by decide +kernel)) (by first | exact hts0 _ (by decide +kernel) | exact hs _ (by decide +kernel))
  · exact vk_Rx (own := RX5) (k := 299) (tx := "no such number of commands") (by first | exact hts0 _ (by decide +kernel) | exact hs _ (by decide +kernel)) (by first | exact hts0 _ (by decide +kernel) | exact hs _ (by decide +kernel))
  · exact vk_Rx (own := RX5) (k := 303) (tx := "no such script") (by first | exact hts0 _ (by decide +kernel) | exact hs _ (by decide +kernel)) (by first | exact hts0 _ (by decide +kernel) | exact hs _ (by decide +kernel))
  · exact vk_Rx (own := RX5) (k := 315) (tx := "no such number of turns") (by first | exact hts0 _ (by decide +kernel) | exact hs _ (by decide +kernel)) (by first | exact hts0 _ (by decide +kernel) | exact hs _ (by decide +kernel))
  · exact vk_Rx (own := RX5) (k := 343) (tx := "no such save slot") (by first | exact hts0 _ (by decide +kernel) | exact hs _ (by decide +kernel)) (by first | exact hts0 _ (by decide +kernel) | exact hs _ (by decide +kernel))
  · exact vk_Rx (own := RX5) (k := 341) (tx := "nothing has been saved") (by first | exact hts0 _ (by decide +kernel) | exact hs _ (by decide +kernel)) (by first | exact hts0 _ (by decide +kernel) | exact hs _ (by decide +kernel))
set_option maxHeartbeats 4000000 in
set_option maxRecDepth 100000 in
theorem lw_nest {args : Array Value} {s : State} (hts0 : ∀ w ∈ lw_tbl, w.before args s = true) (hs : ∀ w ∈ flatC (Jvm.Cond.and given_1 narrow_1), w.before args s = true) : oNest s :=
  ⟨va_Nw.of (w := .methodLinkNest RX3 43 yX5_hasBit RX5) (A := args) rfl (by first | exact hts0 _ (by decide +kernel) | exact hs _ (by decide +kernel)), va_Nw.of (w := .methodLinkNest RX4 48 yX5_hasBit RX5) (A := args) rfl (by first | exact hts0 _ (by decide +kernel) | exact hs _ (by decide +kernel)), va_Nw.of (w := .methodLinkNest RX4 68 yX5_pairsApart RX5) (A := args) rfl (by first | exact hts0 _ (by decide +kernel) | exact hs _ (by decide +kernel)), va_Nw.of (w := .methodLinkNest RX4 75 yX5_spreadOf RX5) (A := args) rfl (by first | exact hts0 _ (by decide +kernel) | exact hs _ (by decide +kernel)), va_Nw.of (w := .methodLinkNest RX4 116 yX5_reversed RX5) (A := args) rfl (by first | exact hts0 _ (by decide +kernel) | exact hs _ (by decide +kernel)), va_Nw.of (w := .methodLinkNest RX4 123 yX5_lowest RX5) (A := args) rfl (by first | exact hts0 _ (by decide +kernel) | exact hs _ (by decide +kernel)), va_Nw.of (w := .methodLinkNest RX5 34 yX0_init RX5) (A := args) rfl (by first | exact hts0 _ (by decide +kernel) | exact hs _ (by decide +kernel)), va_Nw.of (w := .methodLinkNest RX5 41 yX3_init RX5) (A := args) rfl (by first | exact hts0 _ (by decide +kernel) | exact hs _ (by decide +kernel)), va_Nw.of (w := .methodLinkNest RX5 48 yX1_init RX5) (A := args) rfl (by first | exact hts0 _ (by decide +kernel) | exact hs _ (by decide +kernel))⟩
set_option maxHeartbeats 4000000 in
set_option maxRecDepth 100000 in
theorem lw_exc {args : Array Value} {s : State} (hts0 : ∀ w ∈ lw_tbl, w.before args s = true) (hs : ∀ w ∈ flatC (Jvm.Cond.and given_1 narrow_1), w.before args s = true) : oExc s.heap.size s := by
  refine ⟨vx_Zqof (args := args) (by first | exact hts0 _ (by decide +kernel) | exact hs _ (by decide +kernel)) (by first | exact hts0 _ (by decide +kernel) | exact hs _ (by decide +kernel)) (by first | exact hts0 _ (by decide +kernel) | exact hs _ (by decide +kernel)) (fun a h => Nat.not_le.mpr h), vx_Zqof (args := args) (by first | exact hts0 _ (by decide +kernel) | exact hs _ (by decide +kernel)) (by first | exact hts0 _ (by decide +kernel) | exact hs _ (by decide +kernel)) (by first | exact hts0 _ (by decide +kernel) | exact hs _ (by decide +kernel)) (fun a h => Nat.not_le.mpr h), fun q hq => lw_texts hts0 hs q ?_⟩
  simp only [oTexts, List.mem_cons, List.not_mem_nil, or_false] at hq
  rcases hq with rfl | rfl
  · exact List.mem_cons_self
  · exact List.mem_cons_of_mem _ List.mem_cons_self
set_option maxHeartbeats 4000000 in
set_option maxRecDepth 100000 in
theorem lw_oX {args : Array Value} {s : State} (hts0 : ∀ w ∈ lw_tbl, w.before args s = true) (hs : ∀ w ∈ flatC (Jvm.Cond.and given_1 narrow_1), w.before args s = true) : oX s := by
  refine ⟨lw_texts hts0 hs, fun y hy => ?_, fun C hC => ?_⟩
  · simp only [oXd, List.mem_cons, List.not_mem_nil, or_false] at hy
    rcases hy with rfl | rfl | rfl
    · exact va_Nw.of (A := args) rfl (by first | exact hts0 _ (by decide +kernel) | exact hs _ (by decide +kernel))
    · exact va_Nw.of (A := args) rfl (by first | exact hts0 _ (by decide +kernel) | exact hs _ (by decide +kernel))
    · exact va_Nw.of (A := args) rfl (by first | exact hts0 _ (by decide +kernel) | exact hs _ (by decide +kernel))
  · simp only [oXc, List.mem_cons, List.not_mem_nil, or_false] at hC
    rcases hC with rfl | rfl | rfl
    · exact va_Nw.of (A := args) rfl (by first | exact hts0 _ (by decide +kernel) | exact hs _ (by decide +kernel))
    · exact va_Nw.of (A := args) rfl (by first | exact hts0 _ (by decide +kernel) | exact hs _ (by decide +kernel))
    · exact va_Nw.of (A := args) rfl (by first | exact hts0 _ (by decide +kernel) | exact hs _ (by decide +kernel))
set_option maxHeartbeats 4000000 in
set_option maxRecDepth 100000 in
theorem lw_oNc {args : Array Value} {s : State} (hs : ∀ w ∈ flatC (Jvm.Cond.and given_1 narrow_1), w.before args s = true) : oNc s := by
  intro a ha b hb hab
  simp only [oXc, List.mem_cons, List.not_mem_nil, or_false] at ha hb
  rcases ha with rfl | rfl | rfl <;> rcases hb with rfl | rfl | rfl <;> first | exact absurd rfl hab | exact va_Nc.of (args := args) (hs _ (by decide +kernel))
set_option maxHeartbeats 4000000 in
set_option maxRecDepth 100000 in
theorem lw_K {args : Array Value} {s : State} (hts0 : ∀ w ∈ lw_tbl, w.before args s = true) (hs : ∀ w ∈ flatC (Jvm.Cond.and given_1 narrow_1), w.before args s = true) : va_AO RX4 s ∧ ∃ (D : va_G) (cT : Nat → ClassId), oK s.heap.size D cT s := by
  have hts : ∀ w ∈ wsL_law, w.before args s = true := fun w h => hts0 w (wsL_law_in w h)
  have hAO : (Cond.arrayOver (.object RX4)).before args s = true := by first | exact hts0 _ (by decide +kernel) | exact hs _ (by decide +kernel)
  refine ⟨va_AO.of (A := args) hAO, ?_⟩
  obtain ⟨c0, i0, k0⟩ := u_known (C := RX0) (T := TX0) (N := 8) (n := 8) hts inlX0 (hts _ (o_in0 (List.mem_of_getElem? (i := 26) (by decide +kernel))))
  obtain ⟨c1, i1, k1⟩ := u_known (C := RX1) (T := TX1) (N := 4) (n := 4) hts inlX1 (hts _ (o_in0 (List.mem_of_getElem? (i := 34) (by decide +kernel))))
  obtain ⟨c2, i2, k2⟩ := u_known (C := RX2) (T := TX2) (N := 3) (n := 3) hts inlX2 (hts _ (o_in0 (List.mem_of_getElem? (i := 22) (by decide +kernel))))
  obtain ⟨c3, i3, k3⟩ := u_known (C := RX3) (T := TX3) (N := 5) (n := 5) hts inlX3 (hts _ (o_in0 (List.mem_of_getElem? (i := 30) (by decide +kernel))))
  obtain ⟨c4, i4, k4⟩ := u_known (C := RX4) (T := TX4) (N := 5) (n := 5) hts inlX4 (hts _ (o_in0 (List.mem_of_getElem? (i := 15) (by decide +kernel))))
  obtain ⟨c5, i5, k5⟩ := u_known (C := RX5) (T := TX5) (N := 10) (n := 10) hts inlX5 (hts _ (o_in0 (List.mem_of_getElem? (i := 1) (by decide +kernel))))
  obtain ⟨c6, i6, k6⟩ := u_known (C := RX6) (T := TX6) (N := 14) (n := 14) hts inlX6 (hts _ (o_in0 (List.mem_of_getElem? (i := 4) (by decide +kernel))))
  obtain ⟨a0, t0, f0⟩ := lw_arr (ty := .int) (hts _ (o_in0 (List.mem_of_getElem? (i := 41) (by decide +kernel))))
  obtain ⟨a1, t1, f1⟩ := lw_arr (ty := .long) (hts _ (o_in0 (List.mem_of_getElem? (i := 6) (by decide +kernel))))
  obtain ⟨a2, t2, f2⟩ := lw_arr (ty := .char) (hts _ (o_in0 (List.mem_of_getElem? (i := 61) (by decide +kernel))))
  obtain ⟨a3, t3, f3⟩ := lw_arr (ty := .boolean) (hts _ (o_in0 (List.mem_of_getElem? (i := 82) (by decide +kernel))))
  obtain ⟨a4, t4, f4⟩ := lw_arrS hAO
  refine ⟨(fun k => [c0, c1, c2, c3, c4, c5, c6].getD k c0, fun k => [i0, i1, i2, i3, i4, i5, i6].getD k i0), fun k => [a0, a1, a2, a3, a4].getD k a0, ⟨fun k q hq => ?_, fun k q hq => ?_⟩, lw_nest hts0 hs, lw_exc hts0 hs⟩
  · match k, hq with
    | 0, hq => cases hq; exact k0
    | 1, hq => cases hq; exact k1
    | 2, hq => cases hq; exact k2
    | 3, hq => cases hq; exact k3
    | 4, hq => cases hq; exact k4
    | 5, hq => cases hq; exact k5
    | 6, hq => cases hq; exact k6
    | k + 7, hq => simp [vwCl] at hq
  · match k, hq with
    | 0, hq => cases hq; exact ⟨t0, f0⟩
    | 1, hq => cases hq; exact ⟨t1, f1⟩
    | 2, hq => cases hq; exact ⟨t2, f2⟩
    | 3, hq => cases hq; exact ⟨t3, f3⟩
    | 4, hq => cases hq; exact ⟨t4, f4⟩
    | k + 5, hq => simp [oTy] at hq
