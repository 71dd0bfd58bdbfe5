/-! ===== the law: rows ===== -/
def oBn (v : Int) : Int := if v = 0 then 0 else 1
theorem oBn_01 (v : Int) : oBn v = 0 ∨ oBn v = 1 := by unfold oBn; split; exact Or.inl rfl; exact Or.inr rfl
theorem lN_ex (V : Int64) : ∃ n : Nat, V = lN n ∧ n < 2 ^ 64 := ⟨V.toBitVec.toNat, wb_inj (by rw [wb_tb]; exact BitVec.eq_of_toNat_eq (by simp)), V.toBitVec.isLt⟩
theorem oL_ex (V : Int64) : ∃ z : Int, V = oL z ∧ (-9223372036854775808 ≤ z ∧ z < 9223372036854775808) := ⟨V.toInt, (oL_self V).symm, oL_rng V⟩
def oRelW (cT : Nat → ClassId) (ad : Nat → Nat) (σ : Nat → va_E) : Prop := oRelC cT ad σ ∧ ∃ F : Nat → Int64, σ 75 = oAL cT 1 F
theorem oRelC.c0 {cT : Nat → ClassId} {ad : Nat → Nat} {σ : Nat → va_E} (h : oRelC cT ad σ) : ∃ fs : List Value, σ 0 = .inr (5, fs) := by
  obtain ⟨d, d9, hP, hM, hL⟩ := h
  exact ⟨_, hP.eO⟩
theorem oRelC.c65 {cT : Nat → ClassId} {ad : Nat → Nat} {σ : Nat → va_E} (h : oRelC cT ad σ) : ∃ fs : List Value, σ 65 = .inr (6, fs) := by
  obtain ⟨d, d9, hP, hM, hL⟩ := h
  obtain ⟨rf, spo, ou6, e⟩ := hM.z65
  exact ⟨_, e⟩
theorem oN1_b (a E : String) : 0 ≤ oN1 a E ∧ oN1 a E ≤ 2 := by unfold oN1; split <;> decide
theorem oN1_p (a E : String) : ¬ oN1 a E = 0 := by unfold oN1; split <;> decide
theorem oKX.use {l : Launch} {D : va_G} {cT : Nat → ClassId} {ad : Nat → Nat} {b0 : Nat} {σ : Nat → va_E} {y5 : MethodName} {c5 : ByteArray} {m5 : Nat} {As5 : List Value} {y6 : MethodName} {c6 : ByteArray} {m6 : Nat} {As6 : List Value} {e1 e2 : String} (hK : oKX l D cT ad b0 σ y5 c5 m5 As5 y6 c6 m6 As6 e1 e2) (hR : oRelW cT ad σ) {yL : MethodName} {cL : ByteArray} {mL : Nat} {hh : List (Nat × Nat × Nat × Nat)} {AsL : List Value}
    (hH : ∀ {post : Int32 → (Nat → va_E) → Prop} {px : String → (Nat → va_E) → Prop} {FR LO kc : Nat}, oXi l D cT 76 ad b0 y5 c5 m5 (some .int) FR LO kc As5 σ post px → (∀ (r : Int32) (u : Nat → va_E), post r u → u 75 = σ 75) → (∀ (E : String) (u : Nat → va_E), px E u → E = e1 ∨ E = e2) → oHi l D cT 76 ad b0 yL cL mL hh (FR + 1) (8 + (m5 + 11) + LO) kc AsL σ (oHp cT (oN1 e1) post px)) (h5 : m5 ≤ 20) :
    ∃ (post : Int32 → (Nat → va_E) → Prop) (fr lo kc : Nat), oHi l D cT 76 ad b0 yL cL mL hh fr lo kc AsL σ post ∧ (fr ≤ 9 ∧ lo ≤ 200 ∧ kc ≤ 2) ∧ ∀ (rr : Int32) (u : Nat → va_E), post rr u → ∃ (k5 v : Int) (F : Nat → Int64), rr = oI k5 ∧ (0 ≤ k5 ∧ k5 ≤ 2) ∧ (-2147483648 ≤ v ∧ v < 2147483648) ∧ u 75 = oAL cT 1 F ∧ (k5 = 0 → F 0 = oL v) ∧ (∃ fs : List Value, u 65 = .inr (6, fs)) ∧
      oQ6 l D cT ad b0 u y6 c6 m6 As6 (fun r6 rf u2 => rf = k5 ∧ (k5 = 0 → r6 = oI v) ∧ ((∀ q : Nat, q < 65 → u2 q = u q) → oRelC cT ad u2)) := by
  obtain ⟨Ok, Ex, ⟨post, px, FR, LO, kc, hM, hb, hpo, hpx⟩, hE, hk1, hk2⟩ := hK
  obtain ⟨F0, e75⟩ := hR.2
  obtain ⟨fs6, e65⟩ := hR.1.c65
  refine ⟨_, _, _, _, hH hM (fun r u h => (hpo r u h).1 75 (by decide)) (fun E u h => hE E u (hpx E u h).2), ⟨by omega, by omega, by omega⟩, fun rr u h => ?_⟩
  rcases h with ⟨h0, v, u0, F, hv, hp, h75, hF, hq⟩ | ⟨E, hp, h0⟩
  · obtain ⟨hf, hok⟩ := hpo _ _ hp
    have hfr : ∀ q : Nat, 65 ≤ q → q ≠ 75 → u q = σ q := fun q h1 h2 => (hq q h2).trans (hf q h1)
    refine ⟨0, v, F, h0, by decide, hv, h75, fun _ => hF, ⟨fs6, (hfr 65 (by decide) (by decide)).trans e65⟩, ?_⟩
    obtain ⟨p6, FR6, LO6, hM6, hb6, h6⟩ := hk1 _ _ u hok hfr
    refine ⟨p6, FR6, LO6, hM6, hb6, fun r6 u2 h => ?_⟩
    obtain ⟨a1, rf, z, ms, a2, a3, a4, a5, a6⟩ := h6 r6 u2 h
    exact ⟨a1, rf, z, ms, a2, a3, a4, fun _ => a5, fun h9 => a6 u2 (fun q hq9 => (h9 q hq9).trans (hq q (by omega))) (fun q _ _ => rfl)⟩
  · obtain ⟨hf, hex⟩ := hpx _ _ hp
    have hfr : ∀ q : Nat, 65 ≤ q → q ≠ 75 → u q = σ q := fun q h1 _ => hf q h1
    refine ⟨oN1 e1 E, 0, F0, h0, oN1_b _ _, by decide, (hf 75 (by decide)).trans e75, fun h => absurd h (oN1_p _ _), ⟨fs6, (hfr 65 (by decide) (by decide)).trans e65⟩, ?_⟩
    obtain ⟨p6, FR6, LO6, hM6, hb6, h6⟩ := hk2 _ _ u hex hfr
    refine ⟨p6, FR6, LO6, hM6, hb6, fun r6 u2 h => ?_⟩
    obtain ⟨a1, rf, z, ms, a2, a3, a4, a5⟩ := h6 r6 u2 h
    exact ⟨a1, rf, z, ms, a2, a3, a4, fun h => absurd h (oN1_p _ _), fun h9 => a5 u2 h9 (fun q _ _ => rfl)⟩
section OLAW
variable {p : Program} {l : Launch} {e : Env} {R : Room} {s : State} {m : MethodId} {args : Array Value} {below : List Frame} {meth : Method} {c : Code} {H : Heap} {locs : List Loc} {cells slots : Nat} {Q : State → Prop}
variable {cc : ByteArray} {pc : Nat} {ls : Array Slot} {rest : List Value} {D : va_G} {cT : Nat → ClassId} {N b0 : Nat} {ad : Nat → Nat} {σ : Nat → va_E}
theorem oUL_warm {As : List Value} (hK : oK b0 D cT s) (hT : oX s) (hNc : oNc s) (hH : oH b0 D N ad s.heap σ H locs) : ∀ U : State, U.heap = H → s.WarmedH U.vm → va_Pc As (oUL b0 D cT N ad σ) As.toArray U := fun U hU hW => ⟨rfl, ⟨⟨by rw [hU]; exact Nat.le_trans hH.2.2 hH.2.1.1, hK.call hH.2.1 hU hW, by rw [hU]; exact hH.1⟩, hT.warm hW⟩, hNc.moved hW.alike⟩
theorem m_lawH {y : MethodName} {bytes : ByteArray} {maxL nL fr lo n index kc : Nat} {hh : List (Nat × Nat × Nat × Nat)} {As st : List Value} {lv : List (Nat × Value)} {post : Int32 → (Nat → va_E) → Prop} (hx : p.tables.exec = Jvm.exec) (hb : c.code = cc) (hml : c.maxLocals = nL) (hown : s.vm.findClass RL = some m.cls) (hts : ∀ w ∈ wsL_law, w.before args s = true) (hK : oK b0 D cT s) (hT : oX s) (hNc : oNc s) (hH : oH b0 D N ad s.heap σ H locs) (hl : lv_has ls nL lv) (cw : oCSW RL index y bytes maxL hh n) (hM : oHi l D cT N ad b0 y bytes maxL hh fr lo kc As σ post) (hR : fr + 1 ≤ R.frames ∧ 8 + (maxL + 11) + lo ≤ R.locals) (hcr : cells + kc ≤ R.cells ∧ slots + 6 * kc ≤ R.slots) (hn : As.length = n) (hst : st = As.reverse ++ rest) (hrm : (rest.map fun v => v.category).sum ≤ 8) (hdg : decode cc pc = .ok (.invokestatic index, 3))
    (kk : ∀ (r : Int32) (σ1 : Nat → va_E) (H1 : Heap) (locs1 : List Loc), post r σ1 → oH b0 D N ad s.heap σ1 H1 locs1 → W p l e R s m args below meth c H1 locs1 (cells + kc) (slots + 6 * kc) Q (F0 m (pc + 3) ls (.int r :: rest))) : W p l e R s m args below meth c H locs cells slots Q (F0 m pc ls (st)) := by
  obtain ⟨⟨g1, g2, g4, g5⟩, hd⟩ := cw
  have hG : GoodIn wsL_law (va_wsS RL index y (.codeWith y bytes maxL (some .int) hh :: wsL_law)) := by
    intro w hw
    rcases List.mem_append.mp hw with hw | hw
    · simp only [List.mem_cons, List.not_mem_nil, or_false] at hw
      rcases hw with rfl | rfl | rfl
      · exact ⟨g1, good_of_word (wsL_law_good _ g1)⟩
      · exact ⟨g2, good_of_word (wsL_law_good _ g2)⟩
      · exact ⟨g4, good_of_word (wsL_law_good _ g4)⟩
    · exact o_goodW g5 w hw
  refine va_calli (vx_runSW (As := As) (rest := rest) (hh := hh) ⟨hx, hb, hml, hown, hts⟩ hM (vx_cwSW n hts hG rfl rfl rfl hd hR) ⟨oUL.blind, oUL_warm hK hT hNc hH⟩ rfl hn hl.1 hst (lv_room hrm) hdg hcr) hH.2.1 (fun q _ h => h) (fun q h => h) (fun r u t H1 locs1 ht hvm hw hB hz1 hk1 hS => kk r u H1 locs1 hw ⟨by unfold oV at hB; rw [ht] at hB; exact hB, hS, hH.2.2⟩)
theorem m_sld (hx : p.tables.exec = Jvm.exec) (hb : c.code = cc) {b L : Nat} {xs : Nat → Int32} (hX : va_X b L xs s s.heap) (hbl : b < s.heap.size) (hL : L ≤ 2048) (hH : oH s.heap.size D N ad s.heap σ H locs) {z : Int} (j : Nat) (hj : z = (j : Int)) (hlt : j < L) (v : Int) (hv : (xs j).toInt = v) (hdg : decode cc pc = .ok (.iaload, 1))
    (kk : W p l e R s m args below meth c H locs cells slots Q (F0 m (pc + 1) ls (.int (oI v) :: rest))) : W p l e R s m args below meth c H locs cells slots Q (F0 m pc ls (.int (oI z) :: .ref b :: rest)) := by
  subst hj
  refine va_sld hx hb hX hbl (Nat.not_le.mpr hbl) hH.2.1 (oI_in hlt (by omega)) hdg ?_
  rw [oI_clamp (by omega)]
  refine m_i2I v ?_ kk
  rw [← hv]
  exact (oI_self _).symm
theorem m_bool {v : Int} (hx : p.tables.exec = Jvm.exec) (hb : c.code = cc) (hv : -2147483648 ≤ v ∧ v < 2147483648) (d0 : decode cc pc = .ok (.ifCond .eq 7, 3)) (d3 : decode cc (pc + 3) = .ok (.iconst 1, 1)) (d4 : decode cc (pc + 4) = .ok (.goto 4, 3)) (d7 : decode cc (pc + 7) = .ok (.iconst 0, 1))
    (kk : W p l e R s m args below meth c H locs cells slots Q (F0 m (pc + 8) ls (.int (oI (oBn v)) :: rest))) : W p l e R s m args below meth c H locs cells slots Q (F0 m pc ls (.int (oI v) :: rest)) := by
  refine m_if_eq (pc + 7) hx hb d0 (by omega) hv (fun h => ?_) (fun h => ?_)
  · refine m_iconst 0 hx hb d7 rfl ?_
    rw [oBn, if_pos h] at kk
    exact kk
  · refine m_iconst 1 hx hb d3 rfl ?_
    refine lv_goto (tgt := pc + 8) hx hb d4 (by omega) ?_
    rw [oBn, if_neg h] at kk
    exact kk
end OLAW
abbrev lwB (b : Nat) (ad : Nat → Nat) (i : Nat) : List (Nat × Value) := [(0, .ref b), (1, .ref (ad 0)), (2, .ref (ad 65)), (3, .ref (ad 75)), (4, .int (oI ((i : Nat) : Int)))]
def lwC (p : Program) (l : Launch) (s : State) (m : MethodId) (c : Code) (b L : Nat) (xs : Nat → Int32) (D : va_G) (cT : Nat → ClassId) (ad : Nat → Nat) : Prop := p.tables.exec = Jvm.exec ∧ c.code = cL_law ∧ c.maxLocals = 7 ∧ s.vm.findClass RL = some m.cls ∧ (∀ w ∈ wsL_law, w.before #[Value.ref b] s = true) ∧ va_X b L xs s s.heap ∧ b < s.heap.size ∧ L ≤ 2048 ∧ oK s.heap.size D cT s ∧ oX s ∧ oNc s ∧ oAd s.heap.size 76 ad ∧ l.stackTraces = false
theorem cs_L_95 : oCSW RL 95 yL_append cL_append 4 [(0, 9, 12, 13), (0, 9, 15, 15)] 3 := ⟨⟨(o_in0 (List.mem_of_getElem? (i := 90) (by decide +kernel))), (o_in0 (List.mem_of_getElem? (i := 91) (by decide +kernel))), (o_in0 (List.mem_of_getElem? (i := 92) (by decide +kernel))), (o_in0 (List.mem_of_getElem? (i := 93) (by decide +kernel)))⟩, by decide +kernel⟩
theorem cs_L_112 : oCSW RL 112 yL_load cL_load 3 [(0, 8, 11, 15)] 2 := ⟨⟨(o_in0 (List.mem_of_getElem? (i := 244) (by decide +kernel))), (o_in0 (List.mem_of_getElem? (i := 245) (by decide +kernel))), (o_in0 (List.mem_of_getElem? (i := 92) (by decide +kernel))), (o_in0 (List.mem_of_getElem? (i := 246) (by decide +kernel)))⟩, by decide +kernel⟩
theorem cs_L_116 : oCSW RL 116 yL_about cL_about 4 [(0, 9, 12, 13)] 3 := ⟨⟨(o_in0 (List.mem_of_getElem? (i := 354) (by decide +kernel))), (o_in0 (List.mem_of_getElem? (i := 355) (by decide +kernel))), (o_in0 (List.mem_of_getElem? (i := 92) (by decide +kernel))), (o_in0 (List.mem_of_getElem? (i := 356) (by decide +kernel)))⟩, by decide +kernel⟩
theorem cs_L_119 : oCSW RL 119 yL_rulerOf cL_rulerOf 5 [(0, 10, 13, 28), (0, 10, 17, 13)] 4 := ⟨⟨(o_in0 (List.mem_of_getElem? (i := 509) (by decide +kernel))), (o_in0 (List.mem_of_getElem? (i := 510) (by decide +kernel))), (o_in0 (List.mem_of_getElem? (i := 92) (by decide +kernel))), (o_in0 (List.mem_of_getElem? (i := 511) (by decide +kernel)))⟩, by decide +kernel⟩
theorem cs_L_123 : oCSW RL 123 yL_isMarked cL_isMarked 5 [(0, 10, 13, 28)] 4 := ⟨⟨(o_in0 (List.mem_of_getElem? (i := 543) (by decide +kernel))), (o_in0 (List.mem_of_getElem? (i := 544) (by decide +kernel))), (o_in0 (List.mem_of_getElem? (i := 92) (by decide +kernel))), (o_in0 (List.mem_of_getElem? (i := 545) (by decide +kernel)))⟩, by decide +kernel⟩
theorem cs_L_126 : oCSW RL 126 yL_span cL_span 6 [(0, 12, 15, 28), (0, 12, 19, 13)] 5 := ⟨⟨(o_in0 (List.mem_of_getElem? (i := 559) (by decide +kernel))), (o_in0 (List.mem_of_getElem? (i := 560) (by decide +kernel))), (o_in0 (List.mem_of_getElem? (i := 92) (by decide +kernel))), (o_in0 (List.mem_of_getElem? (i := 561) (by decide +kernel)))⟩, by decide +kernel⟩
theorem cs_L_130 : oCSW RL 130 yL_gap cL_gap 5 [(0, 10, 13, 28), (0, 10, 17, 13)] 4 := ⟨⟨(o_in0 (List.mem_of_getElem? (i := 590) (by decide +kernel))), (o_in0 (List.mem_of_getElem? (i := 591) (by decide +kernel))), (o_in0 (List.mem_of_getElem? (i := 92) (by decide +kernel))), (o_in0 (List.mem_of_getElem? (i := 592) (by decide +kernel)))⟩, by decide +kernel⟩
theorem cs_L_133 : oCSW RL 133 yL_ruler cL_ruler 4 [(0, 9, 12, 13), (0, 9, 15, 15)] 3 := ⟨⟨(o_in0 (List.mem_of_getElem? (i := 613) (by decide +kernel))), (o_in0 (List.mem_of_getElem? (i := 614) (by decide +kernel))), (o_in0 (List.mem_of_getElem? (i := 92) (by decide +kernel))), (o_in0 (List.mem_of_getElem? (i := 615) (by decide +kernel)))⟩, by decide +kernel⟩
theorem cs_L_136 : oCSW RL 136 yL_mark cL_mark 6 [(0, 12, 15, 28), (0, 12, 19, 15)] 5 := ⟨⟨(o_in0 (List.mem_of_getElem? (i := 652) (by decide +kernel))), (o_in0 (List.mem_of_getElem? (i := 653) (by decide +kernel))), (o_in0 (List.mem_of_getElem? (i := 92) (by decide +kernel))), (o_in0 (List.mem_of_getElem? (i := 654) (by decide +kernel)))⟩, by decide +kernel⟩
theorem cs_L_140 : oCSW RL 140 yL_cut cL_cut 5 [(0, 10, 13, 28), (0, 10, 17, 13)] 4 := ⟨⟨(o_in0 (List.mem_of_getElem? (i := 663) (by decide +kernel))), (o_in0 (List.mem_of_getElem? (i := 664) (by decide +kernel))), (o_in0 (List.mem_of_getElem? (i := 92) (by decide +kernel))), (o_in0 (List.mem_of_getElem? (i := 665) (by decide +kernel)))⟩, by decide +kernel⟩
theorem cs_L_143 : oCSW RL 143 yL_turn cL_turn 4 [(0, 9, 12, 28)] 3 := ⟨⟨(o_in0 (List.mem_of_getElem? (i := 674) (by decide +kernel))), (o_in0 (List.mem_of_getElem? (i := 675) (by decide +kernel))), (o_in0 (List.mem_of_getElem? (i := 92) (by decide +kernel))), (o_in0 (List.mem_of_getElem? (i := 676) (by decide +kernel)))⟩, by decide +kernel⟩
theorem cs_L_146 : oCSW RL 146 yL_set cL_set 5 [(0, 10, 13, 13)] 4 := ⟨⟨(o_in0 (List.mem_of_getElem? (i := 685) (by decide +kernel))), (o_in0 (List.mem_of_getElem? (i := 686) (by decide +kernel))), (o_in0 (List.mem_of_getElem? (i := 92) (by decide +kernel))), (o_in0 (List.mem_of_getElem? (i := 687) (by decide +kernel)))⟩, by decide +kernel⟩
theorem cs_L_149 : oCSW RL 149 yL_undo cL_undo 3 [(0, 8, 11, 15)] 2 := ⟨⟨(o_in0 (List.mem_of_getElem? (i := 702) (by decide +kernel))), (o_in0 (List.mem_of_getElem? (i := 703) (by decide +kernel))), (o_in0 (List.mem_of_getElem? (i := 92) (by decide +kernel))), (o_in0 (List.mem_of_getElem? (i := 704) (by decide +kernel)))⟩, by decide +kernel⟩
theorem cs_L_152 : oCSW RL 152 yL_fewest cL_fewest 5 [(0, 10, 13, 13)] 4 := ⟨⟨(o_in0 (List.mem_of_getElem? (i := 721) (by decide +kernel))), (o_in0 (List.mem_of_getElem? (i := 722) (by decide +kernel))), (o_in0 (List.mem_of_getElem? (i := 92) (by decide +kernel))), (o_in0 (List.mem_of_getElem? (i := 723) (by decide +kernel)))⟩, by decide +kernel⟩
theorem cs_L_155 : oCSW RL 155 yL_laying cL_laying 6 [(0, 12, 15, 13)] 5 := ⟨⟨(o_in0 (List.mem_of_getElem? (i := 759) (by decide +kernel))), (o_in0 (List.mem_of_getElem? (i := 760) (by decide +kernel))), (o_in0 (List.mem_of_getElem? (i := 92) (by decide +kernel))), (o_in0 (List.mem_of_getElem? (i := 761) (by decide +kernel)))⟩, by decide +kernel⟩
theorem cs_L_158 : oCSW RL 158 yL_why cL_why 4 [(0, 9, 12, 13)] 3 := ⟨⟨(o_in0 (List.mem_of_getElem? (i := 804) (by decide +kernel))), (o_in0 (List.mem_of_getElem? (i := 805) (by decide +kernel))), (o_in0 (List.mem_of_getElem? (i := 92) (by decide +kernel))), (o_in0 (List.mem_of_getElem? (i := 806) (by decide +kernel)))⟩, by decide +kernel⟩
theorem cs_L_161 : oCSW RL 161 yL_bestMark cL_bestMark 5 [(0, 10, 13, 28), (0, 10, 17, 13)] 4 := ⟨⟨(o_in0 (List.mem_of_getElem? (i := 815) (by decide +kernel))), (o_in0 (List.mem_of_getElem? (i := 816) (by decide +kernel))), (o_in0 (List.mem_of_getElem? (i := 92) (by decide +kernel))), (o_in0 (List.mem_of_getElem? (i := 817) (by decide +kernel)))⟩, by decide +kernel⟩
theorem cs_L_164 : oCSW RL 164 yL_needless cL_needless 4 [(0, 9, 12, 28)] 3 := ⟨⟨(o_in0 (List.mem_of_getElem? (i := 831) (by decide +kernel))), (o_in0 (List.mem_of_getElem? (i := 832) (by decide +kernel))), (o_in0 (List.mem_of_getElem? (i := 92) (by decide +kernel))), (o_in0 (List.mem_of_getElem? (i := 833) (by decide +kernel)))⟩, by decide +kernel⟩
theorem cs_L_167 : oCSW RL 167 yL_twin cL_twin 6 [(0, 12, 15, 28)] 5 := ⟨⟨(o_in0 (List.mem_of_getElem? (i := 844) (by decide +kernel))), (o_in0 (List.mem_of_getElem? (i := 845) (by decide +kernel))), (o_in0 (List.mem_of_getElem? (i := 92) (by decide +kernel))), (o_in0 (List.mem_of_getElem? (i := 846) (by decide +kernel)))⟩, by decide +kernel⟩
theorem cs_L_176 : oCSW RL 176 yL_runScript cL_runScript 6 [(0, 11, 14, 13)] 4 := ⟨⟨(o_in0 (List.mem_of_getElem? (i := 872) (by decide +kernel))), (o_in0 (List.mem_of_getElem? (i := 873) (by decide +kernel))), (o_in0 (List.mem_of_getElem? (i := 92) (by decide +kernel))), (o_in0 (List.mem_of_getElem? (i := 874) (by decide +kernel)))⟩, by decide +kernel⟩
theorem cs_L_180 : oCSW RL 180 yL_simulate cL_simulate 6 [(0, 11, 14, 13)] 4 := ⟨⟨(o_in0 (List.mem_of_getElem? (i := 911) (by decide +kernel))), (o_in0 (List.mem_of_getElem? (i := 912) (by decide +kernel))), (o_in0 (List.mem_of_getElem? (i := 92) (by decide +kernel))), (o_in0 (List.mem_of_getElem? (i := 913) (by decide +kernel)))⟩, by decide +kernel⟩
theorem cs_L_184 : oCSW RL 184 yL_save cL_save 4 [(0, 9, 12, 28)] 3 := ⟨⟨(o_in0 (List.mem_of_getElem? (i := 933) (by decide +kernel))), (o_in0 (List.mem_of_getElem? (i := 934) (by decide +kernel))), (o_in0 (List.mem_of_getElem? (i := 92) (by decide +kernel))), (o_in0 (List.mem_of_getElem? (i := 935) (by decide +kernel)))⟩, by decide +kernel⟩
theorem cs_L_187 : oCSW RL 187 yL_restore cL_restore 4 [(0, 9, 12, 28), (0, 9, 15, 15)] 3 := ⟨⟨(o_in0 (List.mem_of_getElem? (i := 947) (by decide +kernel))), (o_in0 (List.mem_of_getElem? (i := 948) (by decide +kernel))), (o_in0 (List.mem_of_getElem? (i := 92) (by decide +kernel))), (o_in0 (List.mem_of_getElem? (i := 949) (by decide +kernel)))⟩, by decide +kernel⟩
