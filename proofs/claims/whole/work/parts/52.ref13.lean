theorem fb_sm_flat {f : Nat → Nat} {n : Nat} (h : ∀ k : Nat, n ≤ k → f k = 0) : ∀ m : Nat, fb_sm f (n + m) = fb_sm f n
  | 0 => rfl
  | m + 1 => by rw [show n + (m + 1) = n + m + 1 by omega, fb_sm_succ, h (n + m) (by omega), fb_sm_flat h m, Nat.add_zero]
theorem oAllM_4 {n : Nat} {w : Nat → Nat} (hn : n ≤ 4) : oAllM n w n = oAllM n w 4 := by
  have h := fb_sm_flat (f := fun r => pcnt (oRow n w ((r : Nat) : Int))) (n := n) (fun k hk => by rw [oRow_out (by omega)]; rfl) (4 - n)
  rw [show n + (4 - n) = 4 by omega] at h
  exact h.symm
theorem oAllS_4 {n : Nat} {w : Nat → Nat} (hn : n ≤ 4) : oAllS n w n = oAllS n w 4 := by
  have h := fb_sm_flat (f := fun r => oSp (pcnt (oRow n w ((r : Nat) : Int)))) (n := n) (fun k hk => by rw [oRow_out (by omega)]; rfl) (4 - n)
  rw [show n + (4 - n) = 4 by omega] at h
  exact h.symm
theorem oPa_0 (d : Nat) : oPa 0 d = 0 := by unfold oPa; rw [Nat.zero_and]; rfl
theorem oAllP_4 {n d : Nat} {w : Nat → Nat} (hn : n ≤ 4) : oAllP n w d n = oAllP n w d 4 := by
  have h := fb_sm_flat (f := fun r => oPa (oRow n w ((r : Nat) : Int)) d) (n := n) (fun k hk => by rw [oRow_out (by omega), oPa_0]) (4 - n)
  rw [show n + (4 - n) = 4 by omega] at h
  exact h.symm
theorem oAllS_r {n : Nat} {w : Nat → Nat} {r : Nat} (h : r < n) : oAllS n w (r + 1) = oAllS n w r + oSp (pcnt (w r)) := by
  show fb_sm _ (r + 1) = _
  rw [fb_sm_succ, oRow_in (by omega)]
  rfl
theorem oUn_p {s : Nat → Nat} {sp : Nat} (h : ∀ k : Nat, 1 ≤ k → k ≤ 40 → (0 < s k ↔ sp.testBit k = true)) (hb : ∀ k : Nat, sp.testBit k = true → 1 ≤ k ∧ k ≤ 40) : oUn s 40 = pcnt sp := by
  unfold oUn pcnt
  have h1 := fb_ct_past (f := fun k => sp.testBit k) (a := 41) (fun k hk => Bool.eq_false_iff.mpr (fun q => by have := hb k q; omega)) 23
  have h2 := fb_ct_split (fun k => sp.testBit k) 1 40
  have h3 : fb_ct (fun k => sp.testBit k) 1 = 0 := fb_ct_zero.mpr (fun k hk => Bool.eq_false_iff.mpr (fun q => by have := hb k q; omega))
  rw [show 41 + 23 = 64 from rfl] at h1
  rw [h1, show 41 = 1 + 40 from rfl, h2, h3, Nat.zero_add]
  refine fb_ct_cong (fun k hk => ?_)
  rw [Nat.add_comm 1 k]
  have := h (k + 1) (by omega) (by omega)
  by_cases c : 0 < s (k + 1)
  · rw [decide_eq_true c, this.mp c]
  · rw [decide_eq_false c, Bool.eq_false_iff.mpr (fun q => c (this.mpr q))]
theorem oSpr_bits {w : Nat} (hw : w < 2 ^ 41) : ∀ k : Nat, (oSpr w 41).testBit k = true → 1 ≤ k ∧ k ≤ 40 := by
  intro k h
  have h1 := oSpr_tb 41 h
  refine ⟨?_, by omega⟩
  rcases Nat.eq_zero_or_pos k with e | e
  · rw [e, oSpr_0] at h; cases h
  · exact e
theorem oSpr_pa {w k : Nat} (hw : w < 2 ^ 41) (h1 : 1 ≤ k) (h2 : k ≤ 40) : 0 < oPa w k ↔ (oSpr w 41).testBit k = true := by
  rw [oPa_pos hw]
  exact ⟨fun h => oSpr_tb2 h1 h 41 (by omega), fun h => (oSpr_tb 41 h).2⟩
def oMo (w i : Nat) : Nat := if (oCom w i).1 = 0 then 1 else (oCom w i).1
theorem oCom_z {w : Nat} : ∀ k : Nat, (oCom w k).1 = 0 → (oCom w k).2 = 0 ∧ ∀ j : Nat, 1 ≤ j → j ≤ k → oPa w j = 0
  | 0, _ => ⟨rfl, fun j h1 h2 => by omega⟩
  | k + 1, h => by
    by_cases c : (oCom w k).2 < oPa w (k + 1)
    · rw [oCom_y c] at h
      exact absurd h (by show ¬ k + 1 = 0; omega)
    · rw [oCom_n c] at h ⊢
      obtain ⟨i1, i2⟩ := oCom_z k h
      refine ⟨i1, fun j h1 h2 => ?_⟩
      by_cases e : j = k + 1
      · rw [e]; omega
      · exact i2 j h1 (by omega)
theorem oCom_le (w : Nat) : ∀ k : Nat, (oCom w k).1 ≤ k
  | 0 => Nat.le_refl 0
  | k + 1 => by
    by_cases c : (oCom w k).2 < oPa w (k + 1)
    · rw [oCom_y c]; exact Nat.le_refl _
    · rw [oCom_n c]; exact Nat.le_succ_of_le (oCom_le w k)
theorem oMo_b (w k : Nat) : 1 ≤ oMo w k ∧ oMo w k ≤ k + 1 := by
  unfold oMo
  have := oCom_le w k
  split <;> omega
theorem oMo_y {w i : Nat} (hI : i = 0 ∨ oPa w (oMo w i) = (oCom w i).2) (h : oPa w (oMo w i) < oPa w (i + 1)) : oMo w (i + 1) = i + 1 ∧ oPa w (oMo w (i + 1)) = (oCom w (i + 1)).2 := by
  rcases hI with e | e
  · subst e
    exact absurd h (Nat.lt_irrefl _)
  · have c : (oCom w i).2 < oPa w (i + 1) := by rw [← e]; exact h
    have e2 : oMo w (i + 1) = i + 1 := by unfold oMo; rw [oCom_y c]; exact if_neg (Nat.succ_ne_zero i)
    exact ⟨e2, by rw [e2, oCom_y c]⟩
theorem oMo_n {w i : Nat} (hI : i = 0 ∨ oPa w (oMo w i) = (oCom w i).2) (h : ¬ oPa w (oMo w i) < oPa w (i + 1)) : oMo w (i + 1) = oMo w i ∧ oPa w (oMo w (i + 1)) = (oCom w (i + 1)).2 := by
  rcases hI with e | e
  · subst e
    by_cases c : (oCom w 0).2 < oPa w (0 + 1)
    · have e2 : oMo w (0 + 1) = 1 := by unfold oMo; rw [oCom_y c]; rfl
      exact ⟨e2, by rw [e2, oCom_y c]⟩
    · have e2 : oMo w (0 + 1) = 1 := by unfold oMo; rw [oCom_n c]; rfl
      refine ⟨e2, ?_⟩
      rw [e2, oCom_n c]
      have c2 : ¬ (oCom w 0).2 < oPa w 1 := c
      have : (oCom w 0).2 = 0 := rfl
      omega
  · have c : ¬ (oCom w i).2 < oPa w (i + 1) := by rw [← e]; exact h
    have e2 : oMo w (i + 1) = oMo w i := by unfold oMo; rw [oCom_n c]
    exact ⟨e2, by rw [e2, oCom_n c]; exact e⟩
theorem oPa_end {w s : Nat} (hw : w < 2 ^ 41) (h0 : w.testBit 0 = true) (hs : w.testBit s = true) : 0 < oPa w s := by
  refine (oPa_pos hw).mpr (fun q => ?_)
  have h : (w &&& w / 2 ^ s).testBit 0 = true := by
    rw [Nat.testBit_and, Nat.testBit_div_two_pow, h0, Bool.true_and]
    first
      | exact hs
      | (rw [Nat.zero_add]; exact hs)
      | (rw [Nat.add_zero]; exact hs)
  rw [q, Nat.zero_testBit] at h
  cases h
theorem oMo_end {w s : Nat} (hw : w < 2 ^ 41) (h0 : w.testBit 0 = true) (hs : w.testBit s = true) (h1 : 1 ≤ s) (h2 : s ≤ 40) : oMo w 40 = (oCom w 40).1 := by
  unfold oMo
  refine if_neg (fun q => ?_)
  have := (oCom_z 40 q).2 s h1 h2
  have := oPa_end hw h0 hs
  omega
set_option maxHeartbeats 4000000 in
set_option maxRecDepth 100000 in
theorem c6_about {l : Launch} {D : va_G} {cT : Nat → ClassId} {N b0 : Nat} {ad : Nat → Nat} (hA : oAd b0 N ad) {σ : Nat → va_E} (x : Int) (si ac6 spo ou6 : Nat) (rf : Int) (n a g : Nat) (f : Nat → Int) (sz w : Nat → Nat) (s : Nat → Nat) (F R : Nat → Int) (hN : 76 ≤ N) (hwf : oWf n sz w) (hag : oAg a g) (hp : oRS f n a g sz w) (hbx : -2147483648 ≤ x ∧ x < 2147483648) (eM6 : σ (65) = .inr (6, [.int (oI (rf)), .ref (ad (66)), .int (oI (((si : Nat) : Int))), .ref (ad (67)), .ref (ad (68)), .ref (ad (69)), .int (oI (((ac6 : Nat) : Int))), .ref (ad (70)), .ref (ad (71)), .ref (ad (72)), .ref (ad (73)), .ref (ad (74)), .int (oI (((spo : Nat) : Int))), .int (oI (((ou6 : Nat) : Int)))])) (e67 : σ (67) = oAI cT 171 f) (e72 : σ (72) = oAN cT 41 s) (e73 : σ (73) = oAI cT 201 F) (e74 : σ (74) = oAI cT 201 R) :
    oCi l D cT N ad b0 yX6_about cX6_about 4 (some .int) 5 113 [.ref (ad (65)), .int (oI (x))] σ (fun rr uu => ∃ v9 : Int, ∃ r9 : Int, ∃ s2 : Nat → Nat, ∃ F2 : Nat → Int, ∃ R2 : Nat → Int, rr = oI (v9) ∧ (((0 ≤ x ∧ x ≤ 8) ∧ r9 = 0 ∧ v9 = ((oAbo x n a g w : Nat) : Int)) ∨ (¬ (0 ≤ x ∧ x ≤ 8) ∧ r9 = 1)) ∧ uu (65) = .inr (6, [.int (oI (r9)), .ref (ad (66)), .int (oI (((si : Nat) : Int))), .ref (ad (67)), .ref (ad (68)), .ref (ad (69)), .int (oI (((ac6 : Nat) : Int))), .ref (ad (70)), .ref (ad (71)), .ref (ad (72)), .ref (ad (73)), .ref (ad (74)), .int (oI (((spo : Nat) : Int))), .int (oI (((ou6 : Nat) : Int)))]) ∧ uu (72) = oAN cT 41 s2 ∧ uu (73) = oAI cT 201 F2 ∧ uu (74) = oAI cT 201 R2 ∧ (∀ q : Nat, q ≠ 65 → q ≠ 72 → q ≠ 73 → q ≠ 74 → uu q = σ q)) := by
  refine m_start (cc := cX6_about) (by decide) (Nat.le_of_ble_eq_true rfl) rfl ?_
  intro Pp Ee Ss Mm Bb Me Cc Ar ls hx hb hml hown hlk hrt hts hK hH hl
  have hown : Ss.vm.findClass RX6 = some Mm.cls := hown
  have hn := hwf.1
  have hl : lv_has ls 4 [(0, .ref (ad (65))), (1, .int (oI (x)))] := hl
  have hf : ∀ q : Nat, q ≠ 65 → q ≠ 72 → q ≠ 73 → q ≠ 74 → σ q = σ q := fun q _ _ _ _ => rfl
  refine lv_aload_n hx hb dX6_about_0 rfl (lv_at hl 0 rfl) ?_
  refine lv_iload_n hx hb dX6_about_1 rfl (lv_at hl 1 rfl) ?_
  refine m_i2l hx hb dX6_about_2 (by omega) ?_
  refine m_lconst 0 hx hb dX6_about_3 rfl ?_
  refine lv_ldc2 (v := 8) hx hb hown (hts _ kl_X6_170) dX6_about_4 ?_
  refine m_J2L 8 (by decide +kernel) ?_
  refine m_pSb hx hb hml hown hts hK hH hl (rest := [.ref (ad (65))]) cw_X6_46 rfl (c6_in hA x 0 8 (by first | assumption | omega) (by first | assumption | omega) (by first | assumption | omega) ) ⟨Nat.le_of_ble_eq_true rfl, Nat.le_of_ble_eq_true rfl⟩ ⟨Nat.le_of_ble_eq_true rfl, Nat.le_of_ble_eq_true rfl⟩ rfl rfl (Nat.le_of_ble_eq_true rfl) dX6_about_7 (fun hx8 H locs hH => ?_) (fun hx8 H locs hH => ?_)
  · refine m_if_eq 17 hx hb dX6_about_10 (by decide) (by omega) (fun h_1 => absurd h_1 (by omega)) (fun h_1 => ?_)
    refine m_iconst 0 hx hb dX6_about_13 rfl ?_
    refine lv_goto (tgt := 18) hx hb dX6_about_14 (by decide) ?_
    refine m_callVi hx hb hml hown hts hK hH hl (rest := []) cw_X6_111 (c6_ref0 hA si ac6 spo ou6 rf (by first | assumption | omega) eM6) ⟨Nat.le_of_ble_eq_true rfl, Nat.le_of_ble_eq_true rfl⟩ ⟨Nat.le_of_ble_eq_true rfl, Nat.le_of_ble_eq_true rfl⟩ rfl (k := 65) (by omega) eM6 rfl rfl (Nat.le_of_ble_eq_true rfl) dX6_about_18 (fun r_5 σ_2 H locs hp_3 hH => ?_)
    obtain ⟨rfl, eM6, hq_4⟩ := hp_3
    have e67 : σ_2 (67) = oAI cT 171 f := (hq_4 _ (by decide)).trans e67
    have e72 : σ_2 (72) = oAN cT 41 s := (hq_4 _ (by decide)).trans e72
    have e73 : σ_2 (73) = oAI cT 201 F := (hq_4 _ (by decide)).trans e73
    have e74 : σ_2 (74) = oAI cT 201 R := (hq_4 _ (by decide)).trans e74
    have hf : ∀ q : Nat, q ≠ 65 → q ≠ 72 → q ≠ 73 → q ≠ 74 → σ_2 q = σ q := fun q n0 n1 n2 n3 => (hq_4 q n0).trans (hf q n0 n1 n2 n3)
    refine m_if_eq 26 hx hb dX6_about_21 (by decide) (by omega) (fun h_6 => ?_) (fun h_6 => absurd h_6 (by omega))
    refine m_iconst 0 hx hb dX6_about_26 rfl ?_
    refine lv_istore_n (lv' := [(2, .int (oI (0))), (0, .ref (ad (65))), (1, .int (oI (x)))]) hx hb dX6_about_27 rfl hl (by decide) rfl (fun ls hl => ?_)
    refine lv_aload_n hx hb dX6_about_28 rfl (lv_at hl 1 rfl) ?_
    refine lv_aload_n hx hb dX6_about_29 rfl (lv_at hl 1 rfl) ?_
    refine gf_X6_now hx hb hts hown hK hH (k := 65) (by omega) eM6 dX6_about_30 ?_
    refine m_callVv hx hb hml hown hts hK hH hl (rest := []) cw_X6_80 (c6_findSpans hA si ac6 spo ou6 0 67 n a g f sz w s (by first | assumption | omega) (by first | assumption | omega) (by first | assumption | omega) (by first | assumption | omega) eM6 e67 e72) ⟨Nat.le_of_ble_eq_true rfl, Nat.le_of_ble_eq_true rfl⟩ ⟨Nat.le_of_ble_eq_true rfl, Nat.le_of_ble_eq_true rfl⟩ rfl (k := 65) (by omega) eM6 rfl rfl (Nat.le_of_ble_eq_true rfl) dX6_about_33 (fun σ_7 H locs hp_8 hH => ?_)
    obtain ⟨s5, hs5, hs50, e72, hq_9⟩ := hp_8
    have eM6 : σ_7 (65) = .inr (6, [.int (oI (0)), .ref (ad (66)), .int (oI (((si : Nat) : Int))), .ref (ad (67)), .ref (ad (68)), .ref (ad (69)), .int (oI (((ac6 : Nat) : Int))), .ref (ad (70)), .ref (ad (71)), .ref (ad (72)), .ref (ad (73)), .ref (ad (74)), .int (oI (((spo : Nat) : Int))), .int (oI (((ou6 : Nat) : Int)))]) := (hq_9 _ (by decide)).trans eM6
    have e67 : σ_7 (67) = oAI cT 171 f := (hq_9 _ (by decide)).trans e67
    have e73 : σ_7 (73) = oAI cT 201 F := (hq_9 _ (by decide)).trans e73
    have e74 : σ_7 (74) = oAI cT 201 R := (hq_9 _ (by decide)).trans e74
    have hf : ∀ q : Nat, q ≠ 65 → q ≠ 72 → q ≠ 73 → q ≠ 74 → σ_7 q = σ q := fun q n0 n1 n2 n3 => (hq_9 q n1).trans (hf q n0 n1 n2 n3)
    have hsq := oSq_of hwf hs5 hs50
    refine lv_iload_n hx hb dX6_about_36 rfl (lv_at hl 2 rfl) ?_
    rcases (show (x : Int) = 0 ∨ (x : Int) = 1 ∨ (x : Int) = 2 ∨ (x : Int) = 3 ∨ (x : Int) = 4 ∨ (x : Int) = 5 ∨ (x : Int) = 6 ∨ ((x : Int) < 0 ∨ 6 < (x : Int)) by omega) with hsw | hsw | hsw | hsw | hsw | hsw | hsw | hsw
    · refine m_tabIn 80 hx hb dX6_about_37 (by omega) (by omega) (by rw [hsw]; rfl) (by decide) ?_
      refine lv_aload_n hx hb dX6_about_80 rfl (lv_at hl 1 rfl) ?_
      refine gf_X6_now hx hb hts hown hK hH (k := 65) (by omega) eM6 dX6_about_81 ?_
      refine m_iconst 0 hx hb dX6_about_84 rfl ?_
      refine m_iald hx hb hK hH (k := 67) (by omega) e67 (0) (by omega) (by omega) (by decide) dX6_about_85 ?_
      refine m_topI (((n : Nat) : Int)) (hp.1) ?_
      exact m_iret hx hb hlk hrt hH (m_ni _) dX6_about_86 ⟨((n : Nat) : Int), 0, s5, F, R, rfl, (Or.inl ⟨by omega, rfl, by rw [hsw]; rfl⟩), eM6, e72, e73, e74, hf⟩
    · refine m_tabIn 87 hx hb dX6_about_37 (by omega) (by omega) (by rw [hsw]; rfl) (by decide) ?_
      refine lv_aload_n hx hb dX6_about_87 rfl (lv_at hl 1 rfl) ?_
      refine gf_X6_now hx hb hts hown hK hH (k := 65) (by omega) eM6 dX6_about_88 ?_
      refine m_pSi hx hb hml hown hts hK hH hl (rest := []) cw_X6_172 rfl (c6_allMarks hA 67 n a g f sz w (by first | assumption | omega) (by first | assumption | omega) (by first | assumption | omega) e67) ⟨Nat.le_of_ble_eq_true rfl, Nat.le_of_ble_eq_true rfl⟩ ⟨Nat.le_of_ble_eq_true rfl, Nat.le_of_ble_eq_true rfl⟩ rfl rfl (Nat.le_of_ble_eq_true rfl) dX6_about_91 (fun H locs hH => ?_)
      exact m_iret hx hb hlk hrt hH (m_ni _) dX6_about_94 ⟨((oAllM n w n : Nat) : Int), 0, s5, F, R, rfl, (Or.inl ⟨by omega, rfl, by rw [hsw, oAllM_4 hn]; rfl⟩), eM6, e72, e73, e74, hf⟩
    · refine m_tabIn 95 hx hb dX6_about_37 (by omega) (by omega) (by rw [hsw]; rfl) (by decide) ?_
      refine m_iconst 0 hx hb dX6_about_95 rfl ?_
      refine lv_istore_n (lv' := [(3, .int (oI (0))), (2, .int (oI (0))), (0, .ref (ad (65))), (1, .int (oI (x)))]) hx hb dX6_about_96 rfl hl (by decide) rfl (fun ls hl => ?_)
      have L97 : ∀ (fu : Nat) (r : Nat) (ac : Nat), (5 - r < fu) → (r ≤ n) → (ac = oAllS n w r) → (ac ≤ 2016 * r) → ∀ (H : Heap) (locs : List Loc), oH b0 D N ad Ss.heap σ_7 H locs → ∀ ls : Array Slot, lv_has ls 4 [(0, .ref (ad (65))), (2, .int (oI (((ac : Nat) : Int)))), (3, .int (oI (((r : Nat) : Int))))] → W Pp l Ee { frames := 5, cells := 0, slots := 0, locals := 113 } Ss Mm Ar Bb Me Cc H locs 0 0 (MQ Bb (va_Qi (fun rr uu => ∃ v9 : Int, ∃ r9 : Int, ∃ s2 : Nat → Nat, ∃ F2 : Nat → Int, ∃ R2 : Nat → Int, rr = oI (v9) ∧ (((0 ≤ x ∧ x ≤ 8) ∧ r9 = 0 ∧ v9 = ((oAbo x n a g w : Nat) : Int)) ∨ (¬ (0 ≤ x ∧ x ≤ 8) ∧ r9 = 1)) ∧ uu (65) = .inr (6, [.int (oI (r9)), .ref (ad (66)), .int (oI (((si : Nat) : Int))), .ref (ad (67)), .ref (ad (68)), .ref (ad (69)), .int (oI (((ac6 : Nat) : Int))), .ref (ad (70)), .ref (ad (71)), .ref (ad (72)), .ref (ad (73)), .ref (ad (74)), .int (oI (((spo : Nat) : Int))), .int (oI (((ou6 : Nat) : Int)))]) ∧ uu (72) = oAN cT 41 s2 ∧ uu (73) = oAI cT 201 F2 ∧ uu (74) = oAI cT 201 R2 ∧ (∀ q : Nat, q ≠ 65 → q ≠ 72 → q ≠ 73 → q ≠ 74 → uu q = σ q)) (oV D N ad) (fun q => b0 ≤ q)) Ar Ss 0 0 (fun q => b0 ≤ q)) (F0 Mm 97 ls []) := by
        intro fu97
        induction fu97 with
        | zero =>
          intro r ac hm97
          exact absurd hm97 (Nat.not_lt_zero _)
        | succ fu97 ih97 =>
          intro r ac hm97 hr hc hab H locs hH ls hl
          refine lv_iload_n hx hb dX6_about_97 rfl (lv_at hl 2 rfl) ?_
          refine lv_aload_n hx hb dX6_about_98 rfl (lv_at hl 0 rfl) ?_
          refine gf_X6_now hx hb hts hown hK hH (k := 65) (by omega) eM6 dX6_about_99 ?_
          refine m_iconst 0 hx hb dX6_about_102 rfl ?_
          refine m_iald hx hb hK hH (k := 67) (by omega) e67 (0) (by omega) (by omega) (by decide) dX6_about_103 ?_
          refine m_topI (((n : Nat) : Int)) (hp.1) ?_
          refine m_icmp_ge 124 hx hb dX6_about_104 (by decide) (by omega) (by omega) (fun h_11 => ?_) (fun h_11 => ?_)
          · refine lv_iload_n hx hb dX6_about_124 rfl (lv_at hl 1 rfl) ?_
            exact m_iret hx hb hlk hrt hH (m_ni _) dX6_about_125 ⟨((ac : Nat) : Int), 0, s5, F, R, rfl, (Or.inl ⟨by omega, rfl, by rw [hsw, hc, show r = n by omega, oAllS_4 hn]; rfl⟩), eM6, e72, e73, e74, hf⟩
          · refine lv_iload_n hx hb dX6_about_107 rfl (lv_at hl 1 rfl) ?_
            refine lv_aload_n hx hb dX6_about_108 rfl (lv_at hl 0 rfl) ?_
            refine gf_X6_now hx hb hts hown hK hH (k := 65) (by omega) eM6 dX6_about_109 ?_
            refine lv_iload_n hx hb dX6_about_112 rfl (lv_at hl 2 rfl) ?_
            refine m_pSi hx hb hml hown hts hK hH hl (rest := [.int (oI (((ac : Nat) : Int)))]) cw_X6_175 rfl (c6_spansOf hA 67 n a g f sz w r (by first | assumption | omega) (by first | assumption | omega) (by first | assumption | omega) (by first | assumption | omega) e67) ⟨Nat.le_of_ble_eq_true rfl, Nat.le_of_ble_eq_true rfl⟩ ⟨Nat.le_of_ble_eq_true rfl, Nat.le_of_ble_eq_true rfl⟩ rfl rfl (Nat.le_of_ble_eq_true rfl) dX6_about_113 (fun H locs hH => ?_)
            have hpl := oSp_le (pcnt_le (w r))
            refine m_iadd (((ac : Nat) : Int) + ((oSp (pcnt (w r)) : Nat) : Int)) hx hb dX6_about_116 (by omega) ?_
            refine lv_istore_n (lv' := [(2, .int (oI (((ac : Nat) : Int) + ((oSp (pcnt (w r)) : Nat) : Int)))), (0, .ref (ad (65))), (3, .int (oI (((r : Nat) : Int))))]) hx hb dX6_about_117 rfl hl (by decide) rfl (fun ls hl => ?_)
            refine m_iinc (((r : Nat) : Int) + 1) [(3, .int (oI (((r : Nat) : Int) + 1))), (2, .int (oI (((ac : Nat) : Int) + ((oSp (pcnt (w r)) : Nat) : Int)))), (0, .ref (ad (65)))] hx hb dX6_about_118 hl (j := 2) rfl (by omega) (by decide) rfl (fun ls hl => ?_)
            refine lv_goto (tgt := 97) hx hb dX6_about_121 (by decide) ?_
            exact ih97 (r + 1) (ac + (oSp (pcnt (w r)))) (by omega) (by first | assumption | omega) (by rw [oAllS_r (by omega), hc]) (by first | assumption | omega) _ _ hH ls (lv_sub hl [2, 1, 0] rfl)
      exact L97 _ 0 0 (Nat.lt_succ_self _) (by first | assumption | omega) (rfl) (by first | assumption | omega) _ _ hH ls (lv_sub hl [2, 1, 0] rfl)
    · refine m_tabIn 126 hx hb dX6_about_37 (by omega) (by omega) (by rw [hsw]; rfl) (by decide) ?_
      refine lv_aload_n hx hb dX6_about_126 rfl (lv_at hl 1 rfl) ?_
      refine m_pVi hx hb hml hown hts hK hH hl (rest := []) cw_X6_178 (c6_unlike hA si ac6 spo ou6 0 s5 (by first | assumption | omega) (fun k hk => by have := hsq.2.2 k (by omega); omega) eM6 e72) ⟨Nat.le_of_ble_eq_true rfl, Nat.le_of_ble_eq_true rfl⟩ ⟨Nat.le_of_ble_eq_true rfl, Nat.le_of_ble_eq_true rfl⟩ rfl (k := 65) (by omega) eM6 rfl rfl (Nat.le_of_ble_eq_true rfl) dX6_about_127 (fun H locs hH => ?_)
      exact m_iret hx hb hlk hrt hH (m_ni _) dX6_about_130 ⟨((oUn s5 40 : Nat) : Int), 0, s5, F, R, rfl, (Or.inl ⟨by omega, rfl, by rw [hsw, oUn_p hsq.1 oOrW_bits]; rfl⟩), eM6, e72, e73, e74, hf⟩
    · refine m_tabIn 131 hx hb dX6_about_37 (by omega) (by omega) (by rw [hsw]; rfl) (by decide) ?_
      refine lv_aload_n hx hb dX6_about_131 rfl (lv_at hl 1 rfl) ?_
      refine m_pVi hx hb hml hown hts hK hH hl (rest := []) cw_X6_182 (c6_divisor hA si ac6 spo ou6 0 s5 (oOrW n w (-1) 4) (by first | assumption | omega) (by first | assumption | omega) eM6 e72) ⟨Nat.le_of_ble_eq_true rfl, Nat.le_of_ble_eq_true rfl⟩ ⟨Nat.le_of_ble_eq_true rfl, Nat.le_of_ble_eq_true rfl⟩ rfl (k := 65) (by omega) eM6 rfl rfl (Nat.le_of_ble_eq_true rfl) dX6_about_132 (fun H locs hH => ?_)
      exact m_iret hx hb hlk hrt hH (m_ni _) dX6_about_135 ⟨((oGc (oOrW n w (-1) 4) 40 : Nat) : Int), 0, s5, F, R, rfl, (Or.inl ⟨by omega, rfl, by rw [hsw]; rfl⟩), eM6, e72, e73, e74, hf⟩
    · refine m_tabIn 136 hx hb dX6_about_37 (by omega) (by omega) (by rw [hsw]; rfl) (by decide) ?_
      refine lv_aload_n hx hb dX6_about_136 rfl (lv_at hl 1 rfl) ?_
      refine lv_aload_n hx hb dX6_about_137 rfl (lv_at hl 1 rfl) ?_
      refine gf_X6_now hx hb hts hown hK hH (k := 65) (by omega) eM6 dX6_about_138 ?_
      refine m_callVi hx hb hml hown hts hK hH hl (rest := []) cw_X6_91 (c6_laid hA si ac6 spo ou6 0 67 n a g f sz w s5 F R (by first | assumption | omega) (by first | assumption | omega) (by first | assumption | omega) (by first | assumption | omega) (by first | assumption | omega) eM6 e67 e72 e73 e74) ⟨Nat.le_of_ble_eq_true rfl, Nat.le_of_ble_eq_true rfl⟩ ⟨Nat.le_of_ble_eq_true rfl, Nat.le_of_ble_eq_true rfl⟩ rfl (k := 65) (by omega) eM6 rfl rfl (Nat.le_of_ble_eq_true rfl) dX6_about_141 (fun r_15 σ_12 H locs hp_13 hH => ?_)
      obtain ⟨s6, F6, R6, rfl, f_16, f_17, e72, e73, e74, hq_14⟩ := hp_13
      have eM6 : σ_12 (65) = .inr (6, [.int (oI (0)), .ref (ad (66)), .int (oI (((si : Nat) : Int))), .ref (ad (67)), .ref (ad (68)), .ref (ad (69)), .int (oI (((ac6 : Nat) : Int))), .ref (ad (70)), .ref (ad (71)), .ref (ad (72)), .ref (ad (73)), .ref (ad (74)), .int (oI (((spo : Nat) : Int))), .int (oI (((ou6 : Nat) : Int)))]) := (hq_14 _ (by decide) (by decide) (by decide)).trans eM6
      have e67 : σ_12 (67) = oAI cT 171 f := (hq_14 _ (by decide) (by decide) (by decide)).trans e67
      have hf : ∀ q : Nat, q ≠ 65 → q ≠ 72 → q ≠ 73 → q ≠ 74 → σ_12 q = σ q := fun q n0 n1 n2 n3 => (hq_14 q n1 n2 n3).trans (hf q n0 n1 n2 n3)
      exact m_iret hx hb hlk hrt hH (m_ni _) dX6_about_144 ⟨((oCnt (oOrW n w (-1) 4) a g : Nat) : Int), 0, s6, F6, R6, rfl, (Or.inl ⟨by omega, rfl, by rw [hsw]; rfl⟩), eM6, e72, e73, e74, hf⟩
    · refine m_tabIn 145 hx hb dX6_about_37 (by omega) (by omega) (by rw [hsw]; rfl) (by decide) ?_
      refine lv_aload_n hx hb dX6_about_145 rfl (lv_at hl 1 rfl) ?_
      refine lv_aload_n hx hb dX6_about_146 rfl (lv_at hl 1 rfl) ?_
      refine gf_X6_now hx hb hts hown hK hH (k := 65) (by omega) eM6 dX6_about_147 ?_
      refine m_callVi hx hb hml hown hts hK hH hl (rest := []) cw_X6_185 (c6_gaps hA si ac6 spo ou6 0 67 n a g f sz w s5 F R (by first | assumption | omega) (by first | assumption | omega) (by first | assumption | omega) (by first | assumption | omega) (by first | assumption | omega) eM6 e67 e72 e73 e74) ⟨Nat.le_of_ble_eq_true rfl, Nat.le_of_ble_eq_true rfl⟩ ⟨Nat.le_of_ble_eq_true rfl, Nat.le_of_ble_eq_true rfl⟩ rfl (k := 65) (by omega) eM6 rfl rfl (Nat.le_of_ble_eq_true rfl) dX6_about_150 (fun r_21 σ_18 H locs hp_19 hH => ?_)
      obtain ⟨s6, F6, R6, rfl, f_22, f_23, e72, e73, e74, hq_20⟩ := hp_19
      have eM6 : σ_18 (65) = .inr (6, [.int (oI (0)), .ref (ad (66)), .int (oI (((si : Nat) : Int))), .ref (ad (67)), .ref (ad (68)), .ref (ad (69)), .int (oI (((ac6 : Nat) : Int))), .ref (ad (70)), .ref (ad (71)), .ref (ad (72)), .ref (ad (73)), .ref (ad (74)), .int (oI (((spo : Nat) : Int))), .int (oI (((ou6 : Nat) : Int)))]) := (hq_20 _ (by decide) (by decide) (by decide)).trans eM6
      have e67 : σ_18 (67) = oAI cT 171 f := (hq_20 _ (by decide) (by decide) (by decide)).trans e67
      have hf : ∀ q : Nat, q ≠ 65 → q ≠ 72 → q ≠ 73 → q ≠ 74 → σ_18 q = σ q := fun q n0 n1 n2 n3 => (hq_20 q n1 n2 n3).trans (hf q n0 n1 n2 n3)
      exact m_iret hx hb hlk hrt hH (m_ni _) dX6_about_153 ⟨((oGaps (oOrW n w (-1) 4) a g : Nat) : Int), 0, s6, F6, R6, rfl, (Or.inl ⟨by omega, rfl, by rw [hsw]; rfl⟩), eM6, e72, e73, e74, hf⟩
    · refine m_tabOut 154 hx hb dX6_about_37 (by omega) hsw (by decide) ?_
      refine lv_aload_n hx hb dX6_about_154 rfl (lv_at hl 1 rfl) ?_
      refine gf_X6_now hx hb hts hown hK hH (k := 65) (by omega) eM6 dX6_about_155 ?_
      refine m_iconst 1 hx hb dX6_about_158 rfl ?_
      refine lv_iload_n hx hb dX6_about_159 rfl (lv_at hl 2 rfl) ?_
      refine m_iadd (x + 1) hx hb dX6_about_160 (by omega) ?_
      refine m_bipush 7 hx hb dX6_about_161 (by decide) ?_
      refine m_isub (x - 6) hx hb dX6_about_163 (by omega) ?_
      refine m_iald hx hb hK hH (k := 67) (by omega) e67 ((x - 6).toNat) (by omega) (by omega) (by decide) dX6_about_164 ?_
      refine m_topI (((if x = 7 then a else g : Nat) : Int)) (by
      rcases (show x = 7 ∨ x = 8 by omega) with e | e
      · rw [show (x - 6).toNat = 1 by omega, if_pos e]; exact hp.2.1
      · rw [show (x - 6).toNat = 2 by omega, if_neg (by omega)]; exact hp.2.2.1) ?_
      exact m_iret hx hb hlk hrt hH (m_ni _) dX6_about_165 ⟨((if x = 7 then a else g : Nat) : Int), 0, s5, F, R, rfl, (Or.inl ⟨by omega, rfl, by rcases (show x = 7 ∨ x = 8 by omega) with e | e <;> rw [e] <;> rfl⟩), eM6, e72, e73, e74, hf⟩
  · refine m_if_eq 17 hx hb dX6_about_10 (by decide) (by omega) (fun h_24 => ?_) (fun h_24 => absurd h_24 (by omega))
    refine m_iconst 1 hx hb dX6_about_17 rfl ?_
    refine m_callVi hx hb hml hown hts hK hH hl (rest := []) cw_X6_111 (c6_ref1 hA 1 si ac6 spo ou6 rf (by first | assumption | omega) (by first | assumption | omega) eM6) ⟨Nat.le_of_ble_eq_true rfl, Nat.le_of_ble_eq_true rfl⟩ ⟨Nat.le_of_ble_eq_true rfl, Nat.le_of_ble_eq_true rfl⟩ rfl (k := 65) (by omega) eM6 rfl rfl (Nat.le_of_ble_eq_true rfl) dX6_about_18 (fun r_28 σ_25 H locs hp_26 hH => ?_)
    obtain ⟨rfl, eM6, hq_27⟩ := hp_26
    have e67 : σ_25 (67) = oAI cT 171 f := (hq_27 _ (by decide)).trans e67
    have e72 : σ_25 (72) = oAN cT 41 s := (hq_27 _ (by decide)).trans e72
    have e73 : σ_25 (73) = oAI cT 201 F := (hq_27 _ (by decide)).trans e73
    have e74 : σ_25 (74) = oAI cT 201 R := (hq_27 _ (by decide)).trans e74
    have hf : ∀ q : Nat, q ≠ 65 → q ≠ 72 → q ≠ 73 → q ≠ 74 → σ_25 q = σ q := fun q n0 n1 n2 n3 => (hq_27 q n0).trans (hf q n0 n1 n2 n3)
    refine m_if_eq 26 hx hb dX6_about_21 (by decide) (by omega) (fun h_29 => absurd h_29 (by omega)) (fun h_29 => ?_)
    refine m_iconst 0 hx hb dX6_about_24 rfl ?_
    exact m_iret hx hb hlk hrt hH (m_ni _) dX6_about_25 ⟨0, 1, s, F, R, rfl, (Or.inr ⟨by omega, rfl⟩), eM6, e72, e73, e74, hf⟩
set_option maxHeartbeats 4000000 in
set_option maxRecDepth 100000 in
theorem c6_isMarked {l : Launch} {D : va_G} {cT : Nat → ClassId} {N b0 : Nat} {ad : Nat → Nat} (hA : oAd b0 N ad) {σ : Nat → va_E} (r p : Int) (si ac6 spo ou6 : Nat) (rf : Int) (n a g : Nat) (f : Nat → Int) (sz w : Nat → Nat) (hN : 76 ≤ N) (hwf : oWf n sz w) (hag : oAg a g) (hp : oRS f n a g sz w) (hbr : -2147483648 ≤ r ∧ r < 2147483648) (hbp : -2147483648 ≤ p ∧ p < 2147483648) (eM6 : σ (65) = .inr (6, [.int (oI (rf)), .ref (ad (66)), .int (oI (((si : Nat) : Int))), .ref (ad (67)), .ref (ad (68)), .ref (ad (69)), .int (oI (((ac6 : Nat) : Int))), .ref (ad (70)), .ref (ad (71)), .ref (ad (72)), .ref (ad (73)), .ref (ad (74)), .int (oI (((spo : Nat) : Int))), .int (oI (((ou6 : Nat) : Int)))])) (e67 : σ (67) = oAI cT 171 f) :
    oCi l D cT N ad b0 yX6_isMarked cX6_isMarked 3 (some .int) 3 68 [.ref (ad (65)), .int (oI (r)), .int (oI (p))] σ (fun rr uu => ∃ v9 : Int, ∃ r9 : Int, rr = oI (v9) ∧ ((((0 ≤ r ∧ r < (n : Int)) ∧ 0 ≤ p ∧ p ≤ (oSize n sz r : Int)) ∧ r9 = 0 ∧ v9 = ((bz (oRow n w r) p.toNat : Nat) : Int)) ∨ (¬ ((0 ≤ r ∧ r < (n : Int)) ∧ 0 ≤ p ∧ p ≤ (oSize n sz r : Int)) ∧ r9 = 1)) ∧ uu (65) = .inr (6, [.int (oI (r9)), .ref (ad (66)), .int (oI (((si : Nat) : Int))), .ref (ad (67)), .ref (ad (68)), .ref (ad (69)), .int (oI (((ac6 : Nat) : Int))), .ref (ad (70)), .ref (ad (71)), .ref (ad (72)), .ref (ad (73)), .ref (ad (74)), .int (oI (((spo : Nat) : Int))), .int (oI (((ou6 : Nat) : Int)))]) ∧ (∀ q : Nat, q ≠ 65 → uu q = σ q)) := by
  refine m_start (cc := cX6_isMarked) (by decide) (Nat.le_of_ble_eq_true rfl) rfl ?_
  intro Pp Ee Ss Mm Bb Me Cc Ar ls hx hb hml hown hlk hrt hts hK hH hl
  have hown : Ss.vm.findClass RX6 = some Mm.cls := hown
  have hn := hwf.1
  have hl : lv_has ls 3 [(0, .ref (ad (65))), (1, .int (oI (r))), (2, .int (oI (p)))] := hl
  have hf : ∀ q : Nat, q ≠ 65 → σ q = σ q := fun q _ => rfl
  refine lv_aload_n hx hb dX6_isMarked_0 rfl (lv_at hl 0 rfl) ?_
  refine lv_aload_n hx hb dX6_isMarked_1 rfl (lv_at hl 0 rfl) ?_
  refine gf_X6_now hx hb hts hown hK hH (k := 65) (by omega) eM6 dX6_isMarked_2 ?_
  refine lv_iload_n hx hb dX6_isMarked_5 rfl (lv_at hl 1 rfl) ?_
  refine lv_iload_n hx hb dX6_isMarked_6 rfl (lv_at hl 2 rfl) ?_
  refine m_pSb hx hb hml hown hts hK hH hl (rest := [.ref (ad (65))]) cw_X6_99 rfl (c6_isPlace hA 67 n a g f sz w r p (by first | assumption | omega) (by first | assumption | omega) (by first | assumption | omega) (by first | assumption | omega) (by first | assumption | omega) e67) ⟨Nat.le_of_ble_eq_true rfl, Nat.le_of_ble_eq_true rfl⟩ ⟨Nat.le_of_ble_eq_true rfl, Nat.le_of_ble_eq_true rfl⟩ rfl rfl (Nat.le_of_ble_eq_true rfl) dX6_isMarked_7 (fun hP H locs hH => ?_) (fun hP H locs hH => ?_)
  · have eS : oSize n sz r = sz r.toNat := oSize_in hP.1
    have eR : oRow n w r = w r.toNat := oRow_in hP.1
    have hs9 := hwf.2 r.toNat (by omega)
    refine m_if_eq 17 hx hb dX6_isMarked_10 (by decide) (by omega) (fun h_1 => absurd h_1 (by omega)) (fun h_1 => ?_)
    refine m_iconst 0 hx hb dX6_isMarked_13 rfl ?_
    refine lv_goto (tgt := 18) hx hb dX6_isMarked_14 (by decide) ?_
    refine m_callVi hx hb hml hown hts hK hH hl (rest := []) cw_X6_111 (c6_ref0 hA si ac6 spo ou6 rf (by first | assumption | omega) eM6) ⟨Nat.le_of_ble_eq_true rfl, Nat.le_of_ble_eq_true rfl⟩ ⟨Nat.le_of_ble_eq_true rfl, Nat.le_of_ble_eq_true rfl⟩ rfl (k := 65) (by omega) eM6 rfl rfl (Nat.le_of_ble_eq_true rfl) dX6_isMarked_18 (fun r_5 σ_2 H locs hp_3 hH => ?_)
    obtain ⟨rfl, eM6, hq_4⟩ := hp_3
    have e67 : σ_2 (67) = oAI cT 171 f := (hq_4 _ (by decide)).trans e67
    have hf : ∀ q : Nat, q ≠ 65 → σ_2 q = σ q := fun q n0 => (hq_4 q n0).trans (hf q n0)
    refine m_if_eq 26 hx hb dX6_isMarked_21 (by decide) (by omega) (fun h_6 => ?_) (fun h_6 => absurd h_6 (by omega))
    refine lv_aload_n hx hb dX6_isMarked_26 rfl (lv_at hl 0 rfl) ?_
    refine gf_X6_now hx hb hts hown hK hH (k := 65) (by omega) eM6 dX6_isMarked_27 ?_
    refine lv_iload_n hx hb dX6_isMarked_30 rfl (lv_at hl 1 rfl) ?_
    refine m_topI (((r.toNat : Nat) : Int)) (by omega) ?_
    refine lv_iload_n hx hb dX6_isMarked_31 rfl (lv_at hl 2 rfl) ?_
    refine m_topI (((p.toNat : Nat) : Int)) (by omega) ?_
    refine m_pSi hx hb hml hown hts hK hH hl (rest := [.ref (ad (67))]) cw_X6_64 rfl (c6_at hA r.toNat p.toNat (by first | assumption | omega) (by first | assumption | omega) ) ⟨Nat.le_of_ble_eq_true rfl, Nat.le_of_ble_eq_true rfl⟩ ⟨Nat.le_of_ble_eq_true rfl, Nat.le_of_ble_eq_true rfl⟩ rfl rfl (Nat.le_of_ble_eq_true rfl) dX6_isMarked_32 (fun H locs hH => ?_)
    refine m_iald hx hb hK hH (k := 67) (by omega) e67 (42 * r.toNat + 4 + p.toNat) (by omega) (by omega) (by decide) dX6_isMarked_35 ?_
    refine m_topI (((bz (w r.toNat) p.toNat : Nat) : Int)) ((hp.2.2.2 r.toNat (by omega)).2 p.toNat (by omega)) ?_
    exact m_iret hx hb hlk hrt hH (m_ni _) dX6_isMarked_36 ⟨((bz (w r.toNat) p.toNat : Nat) : Int), 0, rfl, (Or.inl ⟨hP, rfl, by rw [eR]⟩), eM6, hf⟩
  · refine m_if_eq 17 hx hb dX6_isMarked_10 (by decide) (by omega) (fun h_7 => ?_) (fun h_7 => absurd h_7 (by omega))
    refine m_iconst 1 hx hb dX6_isMarked_17 rfl ?_
    refine m_callVi hx hb hml hown hts hK hH hl (rest := []) cw_X6_111 (c6_ref1 hA 1 si ac6 spo ou6 rf (by first | assumption | omega) (by first | assumption | omega) eM6) ⟨Nat.le_of_ble_eq_true rfl, Nat.le_of_ble_eq_true rfl⟩ ⟨Nat.le_of_ble_eq_true rfl, Nat.le_of_ble_eq_true rfl⟩ rfl (k := 65) (by omega) eM6 rfl rfl (Nat.le_of_ble_eq_true rfl) dX6_isMarked_18 (fun r_11 σ_8 H locs hp_9 hH => ?_)
    obtain ⟨rfl, eM6, hq_10⟩ := hp_9
    have e67 : σ_8 (67) = oAI cT 171 f := (hq_10 _ (by decide)).trans e67
    have hf : ∀ q : Nat, q ≠ 65 → σ_8 q = σ q := fun q n0 => (hq_10 q n0).trans (hf q n0)
    refine m_if_eq 26 hx hb dX6_isMarked_21 (by decide) (by omega) (fun h_12 => absurd h_12 (by omega)) (fun h_12 => ?_)
    refine m_iconst 0 hx hb dX6_isMarked_24 rfl ?_
    exact m_iret hx hb hlk hrt hH (m_ni _) dX6_isMarked_25 ⟨0, 1, rfl, (Or.inr ⟨hP, rfl⟩), eM6, hf⟩
set_option maxHeartbeats 4000000 in
set_option maxRecDepth 100000 in
theorem c6_fewest {l : Launch} {D : va_G} {cT : Nat → ClassId} {N b0 : Nat} {ad : Nat → Nat} (hA : oAd b0 N ad) {σ : Nat → va_E} (t x : Int) (si ac6 spo ou6 : Nat) (rf : Int) (n a g : Nat) (f : Nat → Int) (sz w : Nat → Nat) (s : Nat → Nat) (F R : Nat → Int) (hN : 76 ≤ N) (hwf : oWf n sz w) (hag : oAg a g) (hp : oRS f n a g sz w) (hbt : -2147483648 ≤ t ∧ t < 2147483648) (hbx : -2147483648 ≤ x ∧ x < 2147483648) (eM6 : σ (65) = .inr (6, [.int (oI (rf)), .ref (ad (66)), .int (oI (((si : Nat) : Int))), .ref (ad (67)), .ref (ad (68)), .ref (ad (69)), .int (oI (((ac6 : Nat) : Int))), .ref (ad (70)), .ref (ad (71)), .ref (ad (72)), .ref (ad (73)), .ref (ad (74)), .int (oI (((spo : Nat) : Int))), .int (oI (((ou6 : Nat) : Int)))])) (e67 : σ (67) = oAI cT 171 f) (e72 : σ (72) = oAN cT 41 s) (e73 : σ (73) = oAI cT 201 F) (e74 : σ (74) = oAI cT 201 R) :
    oCi l D cT N ad b0 yX6_fewest cX6_fewest 3 (some .int) 3 67 [.ref (ad (65)), .int (oI (t)), .int (oI (x))] σ (fun rr uu => ∃ v9 : Int, ∃ r9 : Int, ∃ s2 : Nat → Nat, ∃ F2 : Nat → Int, ∃ R2 : Nat → Int, rr = oI (v9) ∧ ((((0 ≤ t ∧ t ≤ 200) ∧ (x = 0 ∨ x = 1)) ∧ r9 = 0 ∧ v9 = oDist (oOrW n w (-1) 4) 0 t.toNat) ∨ (¬ ((0 ≤ t ∧ t ≤ 200) ∧ (x = 0 ∨ x = 1)) ∧ r9 = 1)) ∧ uu (65) = .inr (6, [.int (oI (r9)), .ref (ad (66)), .int (oI (((si : Nat) : Int))), .ref (ad (67)), .ref (ad (68)), .ref (ad (69)), .int (oI (((ac6 : Nat) : Int))), .ref (ad (70)), .ref (ad (71)), .ref (ad (72)), .ref (ad (73)), .ref (ad (74)), .int (oI (((spo : Nat) : Int))), .int (oI (((ou6 : Nat) : Int)))]) ∧ uu (72) = oAN cT 41 s2 ∧ uu (73) = oAI cT 201 F2 ∧ uu (74) = oAI cT 201 R2 ∧ (∀ q : Nat, q ≠ 65 → q ≠ 72 → q ≠ 73 → q ≠ 74 → uu q = σ q)) := by
  refine m_start (cc := cX6_fewest) (by decide) (Nat.le_of_ble_eq_true rfl) rfl ?_
  intro Pp Ee Ss Mm Bb Me Cc Ar ls hx hb hml hown hlk hrt hts hK hH hl
  have hown : Ss.vm.findClass RX6 = some Mm.cls := hown
  have hl : lv_has ls 3 [(0, .ref (ad (65))), (1, .int (oI (t))), (2, .int (oI (x)))] := hl
  have hf : ∀ q : Nat, q ≠ 65 → q ≠ 72 → q ≠ 73 → q ≠ 74 → σ q = σ q := fun q _ _ _ _ => rfl
  refine lv_aload_n hx hb dX6_fewest_0 rfl (lv_at hl 0 rfl) ?_
  refine lv_iload_n hx hb dX6_fewest_1 rfl (lv_at hl 1 rfl) ?_
  refine m_i2l hx hb dX6_fewest_2 (by omega) ?_
  refine m_lconst 0 hx hb dX6_fewest_3 rfl ?_
  refine lv_ldc2 (v := 200) hx hb hown (hts _ kl_X6_78) dX6_fewest_4 ?_
  refine m_J2L 200 (by decide +kernel) ?_
  refine m_pSb hx hb hml hown hts hK hH hl (rest := [.ref (ad (65))]) cw_X6_46 rfl (c6_in hA t 0 200 (by first | assumption | omega) (by first | assumption | omega) (by first | assumption | omega) ) ⟨Nat.le_of_ble_eq_true rfl, Nat.le_of_ble_eq_true rfl⟩ ⟨Nat.le_of_ble_eq_true rfl, Nat.le_of_ble_eq_true rfl⟩ rfl rfl (Nat.le_of_ble_eq_true rfl) dX6_fewest_7 (fun h_1 H locs hH => ?_) (fun h_1 H locs hH => ?_)
  · refine m_if_eq 27 hx hb dX6_fewest_10 (by decide) (by omega) (fun h_2 => absurd h_2 (by omega)) (fun h_2 => ?_)
    refine lv_iload_n hx hb dX6_fewest_13 rfl (lv_at hl 2 rfl) ?_
    refine m_i2l hx hb dX6_fewest_14 (by omega) ?_
    refine m_lconst 0 hx hb dX6_fewest_15 rfl ?_
    refine m_lconst 1 hx hb dX6_fewest_16 rfl ?_
    refine m_pSb hx hb hml hown hts hK hH hl (rest := [.ref (ad (65))]) cw_X6_46 rfl (c6_in hA x 0 1 (by first | assumption | omega) (by first | assumption | omega) (by first | assumption | omega) ) ⟨Nat.le_of_ble_eq_true rfl, Nat.le_of_ble_eq_true rfl⟩ ⟨Nat.le_of_ble_eq_true rfl, Nat.le_of_ble_eq_true rfl⟩ rfl rfl (Nat.le_of_ble_eq_true rfl) dX6_fewest_17 (fun h_3 H locs hH => ?_) (fun h_3 H locs hH => ?_)
    · refine m_if_eq 27 hx hb dX6_fewest_20 (by decide) (by omega) (fun h_4 => absurd h_4 (by omega)) (fun h_4 => ?_)
      refine m_iconst 0 hx hb dX6_fewest_23 rfl ?_
      refine lv_goto (tgt := 28) hx hb dX6_fewest_24 (by decide) ?_
      refine m_callVi hx hb hml hown hts hK hH hl (rest := []) cw_X6_111 (c6_ref0 hA si ac6 spo ou6 rf (by first | assumption | omega) eM6) ⟨Nat.le_of_ble_eq_true rfl, Nat.le_of_ble_eq_true rfl⟩ ⟨Nat.le_of_ble_eq_true rfl, Nat.le_of_ble_eq_true rfl⟩ rfl (k := 65) (by omega) eM6 rfl rfl (Nat.le_of_ble_eq_true rfl) dX6_fewest_28 (fun r_8 σ_5 H locs hp_6 hH => ?_)
      obtain ⟨rfl, eM6, hq_7⟩ := hp_6
      have e67 : σ_5 (67) = oAI cT 171 f := (hq_7 _ (by decide)).trans e67
      have e72 : σ_5 (72) = oAN cT 41 s := (hq_7 _ (by decide)).trans e72
      have e73 : σ_5 (73) = oAI cT 201 F := (hq_7 _ (by decide)).trans e73
      have e74 : σ_5 (74) = oAI cT 201 R := (hq_7 _ (by decide)).trans e74
      have hf : ∀ q : Nat, q ≠ 65 → q ≠ 72 → q ≠ 73 → q ≠ 74 → σ_5 q = σ q := fun q n0 n1 n2 n3 => (hq_7 q n0).trans (hf q n0 n1 n2 n3)
      refine m_if_eq 36 hx hb dX6_fewest_31 (by decide) (by omega) (fun h_9 => ?_) (fun h_9 => absurd h_9 (by omega))
      refine lv_aload_n hx hb dX6_fewest_36 rfl (lv_at hl 0 rfl) ?_
      refine lv_aload_n hx hb dX6_fewest_37 rfl (lv_at hl 0 rfl) ?_
      refine gf_X6_now hx hb hts hown hK hH (k := 65) (by omega) eM6 dX6_fewest_38 ?_
      refine m_callVv hx hb hml hown hts hK hH hl (rest := []) cw_X6_80 (c6_findSpans hA si ac6 spo ou6 0 67 n a g f sz w s (by first | assumption | omega) (by first | assumption | omega) (by first | assumption | omega) (by first | assumption | omega) eM6 e67 e72) ⟨Nat.le_of_ble_eq_true rfl, Nat.le_of_ble_eq_true rfl⟩ ⟨Nat.le_of_ble_eq_true rfl, Nat.le_of_ble_eq_true rfl⟩ rfl (k := 65) (by omega) eM6 rfl rfl (Nat.le_of_ble_eq_true rfl) dX6_fewest_41 (fun σ_10 H locs hp_11 hH => ?_)
      obtain ⟨s5, hs5, hs50, e72, hq_12⟩ := hp_11
      have eM6 : σ_10 (65) = .inr (6, [.int (oI (0)), .ref (ad (66)), .int (oI (((si : Nat) : Int))), .ref (ad (67)), .ref (ad (68)), .ref (ad (69)), .int (oI (((ac6 : Nat) : Int))), .ref (ad (70)), .ref (ad (71)), .ref (ad (72)), .ref (ad (73)), .ref (ad (74)), .int (oI (((spo : Nat) : Int))), .int (oI (((ou6 : Nat) : Int)))]) := (hq_12 _ (by decide)).trans eM6
      have e67 : σ_10 (67) = oAI cT 171 f := (hq_12 _ (by decide)).trans e67
      have e73 : σ_10 (73) = oAI cT 201 F := (hq_12 _ (by decide)).trans e73
      have e74 : σ_10 (74) = oAI cT 201 R := (hq_12 _ (by decide)).trans e74
      have hf : ∀ q : Nat, q ≠ 65 → q ≠ 72 → q ≠ 73 → q ≠ 74 → σ_10 q = σ q := fun q n0 n1 n2 n3 => (hq_12 q n1).trans (hf q n0 n1 n2 n3)
      have hsq := oSq_of hwf hs5 hs50
      refine lv_aload_n hx hb dX6_fewest_44 rfl (lv_at hl 0 rfl) ?_
      refine m_iconst 0 hx hb dX6_fewest_45 rfl ?_
      refine m_callVv hx hb hml hown hts hK hH hl (rest := []) cw_X6_83 (c6_findFar hA si ac6 spo ou6 0 0 (oOrW n w (-1) 4) s5 F R (by first | assumption | omega) (by first | assumption | omega) (by first | assumption | omega) eM6 e72 e73 e74) ⟨Nat.le_of_ble_eq_true rfl, Nat.le_of_ble_eq_true rfl⟩ ⟨Nat.le_of_ble_eq_true rfl, Nat.le_of_ble_eq_true rfl⟩ rfl (k := 65) (by omega) eM6 rfl rfl (Nat.le_of_ble_eq_true rfl) dX6_fewest_46 (fun σ_14 H locs hp_15 hH => ?_)
      obtain ⟨F5, R5, hF5, e73, e74, hq_16⟩ := hp_15
      have eM6 : σ_14 (65) = .inr (6, [.int (oI (0)), .ref (ad (66)), .int (oI (((si : Nat) : Int))), .ref (ad (67)), .ref (ad (68)), .ref (ad (69)), .int (oI (((ac6 : Nat) : Int))), .ref (ad (70)), .ref (ad (71)), .ref (ad (72)), .ref (ad (73)), .ref (ad (74)), .int (oI (((spo : Nat) : Int))), .int (oI (((ou6 : Nat) : Int)))]) := (hq_16 _ (by decide) (by decide)).trans eM6
      have e67 : σ_14 (67) = oAI cT 171 f := (hq_16 _ (by decide) (by decide)).trans e67
      have e72 : σ_14 (72) = oAN cT 41 s5 := (hq_16 _ (by decide) (by decide)).trans e72
      have hf : ∀ q : Nat, q ≠ 65 → q ≠ 72 → q ≠ 73 → q ≠ 74 → σ_14 q = σ q := fun q n0 n1 n2 n3 => (hq_16 q n2 n3).trans (hf q n0 n1 n2 n3)
      refine lv_aload_n hx hb dX6_fewest_49 rfl (lv_at hl 0 rfl) ?_
      refine gf_X6_far hx hb hts hown hK hH (k := 65) (by omega) eM6 dX6_fewest_50 ?_
      refine lv_iload_n hx hb dX6_fewest_53 rfl (lv_at hl 1 rfl) ?_
      refine m_iald hx hb hK hH (k := 73) (by omega) e73 (t.toNat) (by omega) (by omega) (by decide) dX6_fewest_54 ?_
      exact m_iret hx hb hlk hrt hH (m_ni _) dX6_fewest_55 ⟨(F5 t.toNat), 0, s5, F5, R5, rfl, (Or.inl ⟨by omega, rfl, hF5 _ (by omega)⟩), eM6, e72, e73, e74, hf⟩
    · refine m_if_eq 27 hx hb dX6_fewest_20 (by decide) (by omega) (fun h_18 => ?_) (fun h_18 => absurd h_18 (by omega))
      refine m_iconst 1 hx hb dX6_fewest_27 rfl ?_
      refine m_callVi hx hb hml hown hts hK hH hl (rest := []) cw_X6_111 (c6_ref1 hA 1 si ac6 spo ou6 rf (by first | assumption | omega) (by first | assumption | omega) eM6) ⟨Nat.le_of_ble_eq_true rfl, Nat.le_of_ble_eq_true rfl⟩ ⟨Nat.le_of_ble_eq_true rfl, Nat.le_of_ble_eq_true rfl⟩ rfl (k := 65) (by omega) eM6 rfl rfl (Nat.le_of_ble_eq_true rfl) dX6_fewest_28 (fun r_22 σ_19 H locs hp_20 hH => ?_)
      obtain ⟨rfl, eM6, hq_21⟩ := hp_20
      have e67 : σ_19 (67) = oAI cT 171 f := (hq_21 _ (by decide)).trans e67
      have e72 : σ_19 (72) = oAN cT 41 s := (hq_21 _ (by decide)).trans e72
      have e73 : σ_19 (73) = oAI cT 201 F := (hq_21 _ (by decide)).trans e73
      have e74 : σ_19 (74) = oAI cT 201 R := (hq_21 _ (by decide)).trans e74
      have hf : ∀ q : Nat, q ≠ 65 → q ≠ 72 → q ≠ 73 → q ≠ 74 → σ_19 q = σ q := fun q n0 n1 n2 n3 => (hq_21 q n0).trans (hf q n0 n1 n2 n3)
      refine m_if_eq 36 hx hb dX6_fewest_31 (by decide) (by omega) (fun h_23 => absurd h_23 (by omega)) (fun h_23 => ?_)
      refine m_iconst 0 hx hb dX6_fewest_34 rfl ?_
      exact m_iret hx hb hlk hrt hH (m_ni _) dX6_fewest_35 ⟨0, 1, s, F, R, rfl, (Or.inr ⟨by omega, rfl⟩), eM6, e72, e73, e74, hf⟩
  · refine m_if_eq 27 hx hb dX6_fewest_10 (by decide) (by omega) (fun h_24 => ?_) (fun h_24 => absurd h_24 (by omega))
    refine m_iconst 1 hx hb dX6_fewest_27 rfl ?_
    refine m_callVi hx hb hml hown hts hK hH hl (rest := []) cw_X6_111 (c6_ref1 hA 1 si ac6 spo ou6 rf (by first | assumption | omega) (by first | assumption | omega) eM6) ⟨Nat.le_of_ble_eq_true rfl, Nat.le_of_ble_eq_true rfl⟩ ⟨Nat.le_of_ble_eq_true rfl, Nat.le_of_ble_eq_true rfl⟩ rfl (k := 65) (by omega) eM6 rfl rfl (Nat.le_of_ble_eq_true rfl) dX6_fewest_28 (fun r_28 σ_25 H locs hp_26 hH => ?_)
    obtain ⟨rfl, eM6, hq_27⟩ := hp_26
    have e67 : σ_25 (67) = oAI cT 171 f := (hq_27 _ (by decide)).trans e67
    have e72 : σ_25 (72) = oAN cT 41 s := (hq_27 _ (by decide)).trans e72
    have e73 : σ_25 (73) = oAI cT 201 F := (hq_27 _ (by decide)).trans e73
    have e74 : σ_25 (74) = oAI cT 201 R := (hq_27 _ (by decide)).trans e74
    have hf : ∀ q : Nat, q ≠ 65 → q ≠ 72 → q ≠ 73 → q ≠ 74 → σ_25 q = σ q := fun q n0 n1 n2 n3 => (hq_27 q n0).trans (hf q n0 n1 n2 n3)
    refine m_if_eq 36 hx hb dX6_fewest_31 (by decide) (by omega) (fun h_29 => absurd h_29 (by omega)) (fun h_29 => ?_)
    refine m_iconst 0 hx hb dX6_fewest_34 rfl ?_
    exact m_iret hx hb hlk hrt hH (m_ni _) dX6_fewest_35 ⟨0, 1, s, F, R, rfl, (Or.inr ⟨by omega, rfl⟩), eM6, e72, e73, e74, hf⟩
