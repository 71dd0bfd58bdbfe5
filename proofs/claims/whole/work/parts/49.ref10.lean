theorem oTn_step {f3 : Nat → Int} {wr s b p : Nat} (hps : p < s - p) (hA : ∀ q : Nat, q ≤ s → f3 (b + q) = if q < p ∨ s - q < p then ((bz wr (s - q) : Nat) : Int) else ((bz wr q : Nat) : Int)) : ∀ q : Nat, q ≤ s → va_up (va_up f3 (b + p) ((bz wr (s - p) : Nat) : Int)) (b + (s - p)) ((bz wr p : Nat) : Int) (b + q) = if q < p + 1 ∨ s - q < p + 1 then ((bz wr (s - q) : Nat) : Int) else ((bz wr q : Nat) : Int) := by
  intro q hq
  by_cases e1 : q = s - p
  · rw [e1, va_up_s, if_pos (by omega), show s - (s - p) = p by omega]
  · rw [va_up_n _ _ (by omega)]
    by_cases e2 : q = p
    · rw [e2, va_up_s, if_pos (by omega)]
    · rw [va_up_n _ _ (by omega), hA q hq]
      by_cases h : q < p ∨ s - q < p
      · rw [if_pos h, if_pos (by omega)]
      · rw [if_neg h, if_neg (by omega)]
theorem oRS_turn {f f3 : Nat → Int} {n a g r p : Nat} {sz w : Nat → Nat} (h : oRS f n a g sz w) (hr : r < n) (hs : sz r ≤ 40) (hw : w r < 2 ^ (sz r + 1)) (hp : sz r ≤ 2 * p) (hA : ∀ q : Nat, q ≤ sz r → f3 (42 * r + 4 + q) = if q < p ∨ sz r - q < p then ((bz (w r) (sz r - q) : Nat) : Int) else ((bz (w r) q : Nat) : Int)) (hB : ∀ k : Nat, (k < 42 * r + 4 ∨ 42 * r + 4 + sz r < k) → f3 k = f k) : oRS f3 n a g sz (va_up w r (oRev (w r) (sz r))) := by
  obtain ⟨h0, h1, h2, h3⟩ := h
  refine ⟨by rw [hB 0 (by omega)]; exact h0, by rw [hB 1 (by omega)]; exact h1, by rw [hB 2 (by omega)]; exact h2, fun r' hr' => ⟨by rw [hB _ (by omega)]; exact (h3 r' hr').1, fun q hq => ?_⟩⟩
  by_cases e : r' = r
  · subst e
    rw [va_up_s]
    by_cases hqs : q ≤ sz r'
    · rw [hA q hqs]
      by_cases c : q < p ∨ sz r' - q < p
      · rw [if_pos c]
        exact congrArg (fun z : Nat => (z : Int)) (by unfold bz; rw [oRev_tb, decide_eq_true hqs, Bool.true_and])
      · rw [if_neg c]
        exact congrArg (fun z : Nat => (z : Int)) (by unfold bz; rw [oRev_tb, decide_eq_true hqs, Bool.true_and, show sz r' - q = q by omega])
    · rw [hB _ (by omega), (h3 r' hr').2 q hq]
      exact congrArg (fun z : Nat => (z : Int)) (by unfold bz; rw [oRev_tb, decide_eq_false hqs, Bool.false_and, Nat.testBit_lt_two_pow (Nat.lt_of_lt_of_le hw (Nat.pow_le_pow_right (by decide) (by omega)))])
  · rw [hB _ (by omega), va_up_n _ _ e]
    exact (h3 r' hr').2 q hq
theorem oTurn_at {V s p : Nat} (hs : s ≤ 40) (hV1 : V < 2 ^ (s + 1)) (h1 : 1 ≤ p) (hps : p ≤ s) (hz : ∀ q : Nat, 1 ≤ q → q < p → V.testBit q = false) (hb : V.testBit p = true) : oTurnR V s = ((p : Nat) : Int) := by
  have hV : V < 2 ^ 41 := Nat.lt_of_lt_of_le hV1 (Nat.pow_le_pow_right (by decide) (by omega))
  unfold oTurnR
  by_cases e : p = s
  · rw [if_pos (Nat.eq_of_testBit_eq (fun i => ?_)), e]
    rw [oInner_tb hV hs, Nat.zero_testBit]
    by_cases h0 : i = 0
    · rw [decide_eq_true h0]; simp
    · by_cases h2 : s = i
      · rw [decide_eq_true h2]; simp
      · by_cases h3 : i < p
        · rw [hz i (by omega) h3, Bool.false_and]
        · rw [Nat.testBit_lt_two_pow (Nat.lt_of_lt_of_le hV1 (Nat.pow_le_pow_right (by decide) (show s + 1 ≤ i by omega))), Bool.false_and]
  · have hi : (oInner V s).testBit p = true := by
      rw [oInner_tb hV hs, hb, decide_eq_false (by omega : ¬ p = 0), decide_eq_false (by omega : ¬ s = p)]; rfl
    rw [if_neg (fun q => by rw [q, Nat.zero_testBit] at hi; cases hi)]
    refine oLowest_at (by omega) hi (fun q hq => ?_)
    rw [oInner_tb hV hs]
    by_cases h0 : q = 0
    · rw [decide_eq_true h0]; simp
    · rw [hz q (by omega) hq, Bool.false_and]
theorem oFg_bad {T : Nat → Int} {z lo hi m p v u : Nat} {d pr : Int} (hm : ((u : Nat) : Int) = ((10 ^ m : Nat) : Int)) (hd : oDg T z p = d) (hpr : d * ((u : Nat) : Int) = pr) : oBad T z lo hi m p v ↔ (d < 0 ∨ 9 < d ∨ (hi : Int) < (v : Int) + pr ∨ (v : Int) + pr + (u : Int) - 1 < (lo : Int)) := by
  unfold oBad
  rw [hd, ← hm, hpr]
theorem oFg_v {d pr : Int} {u : Nat} (h0 : 0 ≤ d) (h : d * ((u : Nat) : Int) = pr) : pr.toNat = d.toNat * u := by
  obtain ⟨k, rfl⟩ := Int.eq_ofNat_of_zero_le h0
  rw [← h, ← Int.natCast_mul, Int.toNat_natCast, Int.toNat_natCast]
theorem oFg_go {T : Nat → Int} {z lo hi n9 p0 m p v u : Nat} {d pr : Int} (hE : oNm T z lo hi n9 p0 0 = oNm T z lo hi (m + 1) p v) (hm : ((u : Nat) : Int) = ((10 ^ m : Nat) : Int)) (hd : oDg T z p = d) (hpr : d * ((u : Nat) : Int) = pr) (h0 : 0 ≤ d) (h9 : d ≤ 9) (h1 : (v : Int) + pr ≤ (hi : Int)) (h2 : (lo : Int) ≤ (v : Int) + pr + (u : Int) - 1) : oNm T z lo hi n9 p0 0 = oNm T z lo hi m (p + 1) (v + pr.toNat) := by
  rw [hE, oNm_good (fun q => by have := (oFg_bad hm hd hpr).mp q; omega), oFg_v h0 hpr, hd]
  rw [show u = 10 ^ m by omega]
theorem oFg_no {T : Nat → Int} {z lo hi n9 p0 m p v u : Nat} {d pr : Int} (hE : oNm T z lo hi n9 p0 0 = oNm T z lo hi (m + 1) p v) (hm : ((u : Nat) : Int) = ((10 ^ m : Nat) : Int)) (hd : oDg T z p = d) (hpr : d * ((u : Nat) : Int) = pr) (h : d < 0 ∨ 9 < d ∨ (hi : Int) < (v : Int) + pr ∨ (v : Int) + pr + (u : Int) - 1 < (lo : Int)) : oNm T z lo hi n9 p0 0 = (((p : Nat) : Int), p, v) := by
  rw [hE, oNm_bad ((oFg_bad hm hd hpr).mpr h)]
set_option maxHeartbeats 4000000 in
set_option maxRecDepth 100000 in
theorem c6_laid {l : Launch} {D : va_G} {cT : Nat → ClassId} {N b0 : Nat} {ad : Nat → Nat} (hA : oAd b0 N ad) {σ : Nat → va_E} (si ac6 spo ou6 : Nat) (rf : Int) (j n a g : Nat) (f : Nat → Int) (sz w : Nat → Nat) (s : Nat → Nat) (F R : Nat → Int) (hN : 76 ≤ N) (hj : j = 67 ∨ j = 68) (hwf : oWf n sz w) (hag : oAg a g) (hp : oRS f n a g sz w) (eM6 : σ (65) = .inr (6, [.int (oI (rf)), .ref (ad (66)), .int (oI (((si : Nat) : Int))), .ref (ad (67)), .ref (ad (68)), .ref (ad (69)), .int (oI (((ac6 : Nat) : Int))), .ref (ad (70)), .ref (ad (71)), .ref (ad (72)), .ref (ad (73)), .ref (ad (74)), .int (oI (((spo : Nat) : Int))), .int (oI (((ou6 : Nat) : Int)))])) (ef : σ (j) = oAI cT 171 f) (e72 : σ (72) = oAN cT 41 s) (e73 : σ (73) = oAI cT 201 F) (e74 : σ (74) = oAI cT 201 R) :
    oCi l D cT N ad b0 yX6_laid cX6_laid 4 (some .int) 3 67 [.ref (ad (65)), .ref (ad (j))] σ (fun rr uu => ∃ s2 : Nat → Nat, ∃ F2 : Nat → Int, ∃ R2 : Nat → Int, rr = oI (((oCnt (oOrW n w (-1) 4) a g : Nat) : Int)) ∧ (oSq s2 (oOrW n w (-1) 4)) ∧ (∀ t : Nat, t ≤ 200 → F2 t = oDist (oOrW n w (-1) 4) 0 t) ∧ uu (72) = oAN cT 41 s2 ∧ uu (73) = oAI cT 201 F2 ∧ uu (74) = oAI cT 201 R2 ∧ (∀ q : Nat, q ≠ 72 → q ≠ 73 → q ≠ 74 → uu q = σ q)) := by
  refine m_start (cc := cX6_laid) (by decide) (Nat.le_of_ble_eq_true rfl) rfl ?_
  intro Pp Ee Ss Mm Bb Me Cc Ar ls hx hb hml hown hlk hrt hts hK hH hl
  have hown : Ss.vm.findClass RX6 = some Mm.cls := hown
  have hag2 := hag.2
  have hl : lv_has ls 4 [(0, .ref (ad (65))), (1, .ref (ad (j)))] := hl
  have hf : ∀ q : Nat, q ≠ 72 → q ≠ 73 → q ≠ 74 → σ q = σ q := fun q _ _ _ => rfl
  refine lv_aload_n hx hb dX6_laid_0 rfl (lv_at hl 0 rfl) ?_
  refine lv_aload_n hx hb dX6_laid_1 rfl (lv_at hl 1 rfl) ?_
  refine m_callVv hx hb hml hown hts hK hH hl (rest := []) cw_X6_80 (c6_findSpans hA si ac6 spo ou6 rf j n a g f sz w s (by first | assumption | omega) (by first | assumption | omega) (by first | assumption | omega) (by first | assumption | omega) eM6 ef e72) ⟨Nat.le_of_ble_eq_true rfl, Nat.le_of_ble_eq_true rfl⟩ ⟨Nat.le_of_ble_eq_true rfl, Nat.le_of_ble_eq_true rfl⟩ rfl (k := 65) (by omega) eM6 rfl rfl (Nat.le_of_ble_eq_true rfl) dX6_laid_2 (fun σ_1 H locs hp_2 hH => ?_)
  obtain ⟨s5, hs5, hs50, e72, hq_3⟩ := hp_2
  have eM6 : σ_1 (65) = .inr (6, [.int (oI (rf)), .ref (ad (66)), .int (oI (((si : Nat) : Int))), .ref (ad (67)), .ref (ad (68)), .ref (ad (69)), .int (oI (((ac6 : Nat) : Int))), .ref (ad (70)), .ref (ad (71)), .ref (ad (72)), .ref (ad (73)), .ref (ad (74)), .int (oI (((spo : Nat) : Int))), .int (oI (((ou6 : Nat) : Int)))]) := (hq_3 _ (by decide)).trans eM6
  have ef : σ_1 (j) = oAI cT 171 f := (hq_3 _ (by omega)).trans ef
  have e73 : σ_1 (73) = oAI cT 201 F := (hq_3 _ (by decide)).trans e73
  have e74 : σ_1 (74) = oAI cT 201 R := (hq_3 _ (by decide)).trans e74
  have hf : ∀ q : Nat, q ≠ 72 → q ≠ 73 → q ≠ 74 → σ_1 q = σ q := fun q n0 n1 n2 => (hq_3 q n0).trans (hf q n0 n1 n2)
  have hsq := oSq_of hwf hs5 hs50
  refine lv_aload_n hx hb dX6_laid_5 rfl (lv_at hl 0 rfl) ?_
  refine m_iconst 0 hx hb dX6_laid_6 rfl ?_
  refine m_callVv hx hb hml hown hts hK hH hl (rest := []) cw_X6_83 (c6_findFar hA si ac6 spo ou6 rf 0 (oOrW n w (-1) 4) s5 F R (by first | assumption | omega) (by first | assumption | omega) (by first | assumption | omega) eM6 e72 e73 e74) ⟨Nat.le_of_ble_eq_true rfl, Nat.le_of_ble_eq_true rfl⟩ ⟨Nat.le_of_ble_eq_true rfl, Nat.le_of_ble_eq_true rfl⟩ rfl (k := 65) (by omega) eM6 rfl rfl (Nat.le_of_ble_eq_true rfl) dX6_laid_7 (fun σ_5 H locs hp_6 hH => ?_)
  obtain ⟨F5, R5, hF5, e73, e74, hq_7⟩ := hp_6
  have eM6 : σ_5 (65) = .inr (6, [.int (oI (rf)), .ref (ad (66)), .int (oI (((si : Nat) : Int))), .ref (ad (67)), .ref (ad (68)), .ref (ad (69)), .int (oI (((ac6 : Nat) : Int))), .ref (ad (70)), .ref (ad (71)), .ref (ad (72)), .ref (ad (73)), .ref (ad (74)), .int (oI (((spo : Nat) : Int))), .int (oI (((ou6 : Nat) : Int)))]) := (hq_7 _ (by decide) (by decide)).trans eM6
  have ef : σ_5 (j) = oAI cT 171 f := (hq_7 _ (by omega) (by omega)).trans ef
  have e72 : σ_5 (72) = oAN cT 41 s5 := (hq_7 _ (by decide) (by decide)).trans e72
  have hf : ∀ q : Nat, q ≠ 72 → q ≠ 73 → q ≠ 74 → σ_5 q = σ q := fun q n0 n1 n2 => (hq_7 q n1 n2).trans (hf q n0 n1 n2)
  refine m_iconst 0 hx hb dX6_laid_10 rfl ?_
  refine lv_istore_n (lv' := [(2, .int (oI (0))), (0, .ref (ad (65))), (1, .ref (ad (j)))]) hx hb dX6_laid_11 rfl hl (by decide) rfl (fun ls hl => ?_)
  refine m_iconst 1 hx hb dX6_laid_12 rfl ?_
  refine lv_istore_n (lv' := [(3, .int (oI (1))), (2, .int (oI (0))), (0, .ref (ad (65))), (1, .ref (ad (j)))]) hx hb dX6_laid_13 rfl hl (by decide) rfl (fun ls hl => ?_)
  have L14 : ∀ (fu : Nat) (i : Nat) (ac : Nat), (g + 1 - i < fu) → (i ≤ g) → (ac = oCnt (oOrW n w (-1) 4) a i) → (ac ≤ i) → ∀ (H : Heap) (locs : List Loc), oH b0 D N ad Ss.heap σ_5 H locs → ∀ ls : Array Slot, lv_has ls 4 [(0, .ref (ad (65))), (1, .ref (ad (j))), (2, .int (oI (((ac : Nat) : Int)))), (3, .int (oI (((i : Nat) : Int) + 1)))] → W Pp l Ee { frames := 3, cells := 0, slots := 0, locals := 67 } Ss Mm Ar Bb Me Cc H locs 0 0 (MQ Bb (va_Qi (fun rr uu => ∃ s2 : Nat → Nat, ∃ F2 : Nat → Int, ∃ R2 : Nat → Int, rr = oI (((oCnt (oOrW n w (-1) 4) a g : Nat) : Int)) ∧ (oSq s2 (oOrW n w (-1) 4)) ∧ (∀ t : Nat, t ≤ 200 → F2 t = oDist (oOrW n w (-1) 4) 0 t) ∧ uu (72) = oAN cT 41 s2 ∧ uu (73) = oAI cT 201 F2 ∧ uu (74) = oAI cT 201 R2 ∧ (∀ q : Nat, q ≠ 72 → q ≠ 73 → q ≠ 74 → uu q = σ q)) (oV D N ad) (fun q => b0 ≤ q)) Ar Ss 0 0 (fun q => b0 ≤ q)) (F0 Mm 14 ls []) := by
    intro fu14
    induction fu14 with
    | zero =>
      intro i ac hm14
      exact absurd hm14 (Nat.not_lt_zero _)
    | succ fu14 ih14 =>
      intro i ac hm14 hi hc hab H locs hH ls hl
      have hag2 := hag.2
      have hag1 := hag.1
      refine lv_iload_n hx hb dX6_laid_14 rfl (lv_at hl 3 rfl) ?_
      refine lv_aload_n hx hb dX6_laid_15 rfl (lv_at hl 1 rfl) ?_
      refine m_iconst 2 hx hb dX6_laid_16 rfl ?_
      refine m_iald hx hb hK hH (k := j) (by omega) ef (2) (by omega) (by omega) (by decide) dX6_laid_17 ?_
      refine m_topI (((g : Nat) : Int)) (hp.2.2.1) ?_
      refine m_icmp_gt 50 hx hb dX6_laid_18 (by decide) (by omega) (by omega) (fun h_9 => ?_) (fun h_9 => ?_)
      · refine lv_iload_n hx hb dX6_laid_50 rfl (lv_at hl 2 rfl) ?_
        exact m_iret hx hb hlk hrt hH (m_ni _) dX6_laid_51 ⟨s5, F5, R5, congrArg oI (by rw [hc, show i = g by omega]), hsq, hF5, e72, e73, e74, hf⟩
      · refine lv_iload_n hx hb dX6_laid_21 rfl (lv_at hl 2 rfl) ?_
        refine lv_aload_n hx hb dX6_laid_22 rfl (lv_at hl 0 rfl) ?_
        refine gf_X6_far hx hb hts hown hK hH (k := 65) (by omega) eM6 dX6_laid_23 ?_
        refine lv_iload_n hx hb dX6_laid_26 rfl (lv_at hl 3 rfl) ?_
        obtain ⟨dz, hdz⟩ : ∃ z : Int, oDist (oOrW n w (-1) 4) 0 (i + 1) = z := ⟨_, rfl⟩
        have hdb : -1 ≤ dz ∧ dz ≤ 200 := by rw [← hdz]; exact oDist_b (by omega) _
        refine m_iald hx hb hK hH (k := 73) (by omega) e73 (i + 1) (by omega) (by omega) (by decide) dX6_laid_27 ?_
        refine m_topI (dz) ((hF5 (i + 1) (by omega)).trans hdz) ?_
        refine lv_aload_n hx hb dX6_laid_28 rfl (lv_at hl 1 rfl) ?_
        refine m_iconst 1 hx hb dX6_laid_29 rfl ?_
        refine m_iald hx hb hK hH (k := j) (by omega) ef (1) (by omega) (by omega) (by decide) dX6_laid_30 ?_
        refine m_topI (((a : Nat) : Int)) (hp.2.1) ?_
        refine m_pSb hx hb hml hown hts hK hH hl (rest := [.int (oI (((ac : Nat) : Int)))]) cw_X6_87 rfl (c6_isLaid hA dz ((a : Nat) : Int) (by first | assumption | omega) (by first | assumption | omega) ) ⟨Nat.le_of_ble_eq_true rfl, Nat.le_of_ble_eq_true rfl⟩ ⟨Nat.le_of_ble_eq_true rfl, Nat.le_of_ble_eq_true rfl⟩ rfl rfl (Nat.le_of_ble_eq_true rfl) dX6_laid_31 (fun hz H locs hH => ?_) (fun hz H locs hH => ?_)
        · refine m_if_eq 41 hx hb dX6_laid_34 (by decide) (by omega) (fun h_10 => absurd h_10 (by omega)) (fun h_10 => ?_)
          refine m_iconst 1 hx hb dX6_laid_37 rfl ?_
          refine lv_goto (tgt := 42) hx hb dX6_laid_38 (by decide) ?_
          refine m_iadd (((ac : Nat) : Int) + 1) hx hb dX6_laid_42 (by omega) ?_
          refine lv_istore_n (lv' := [(2, .int (oI (((ac : Nat) : Int) + 1))), (0, .ref (ad (65))), (1, .ref (ad (j))), (3, .int (oI (((i : Nat) : Int) + 1)))]) hx hb dX6_laid_43 rfl hl (by decide) rfl (fun ls hl => ?_)
          refine m_iinc (((i : Nat) : Int) + 2) [(3, .int (oI (((i : Nat) : Int) + 2))), (2, .int (oI (((ac : Nat) : Int) + 1))), (0, .ref (ad (65))), (1, .ref (ad (j)))] hx hb dX6_laid_44 hl (j := 3) rfl (by omega) (by decide) rfl (fun ls hl => ?_)
          refine lv_goto (tgt := 14) hx hb dX6_laid_47 (by decide) ?_
          exact ih14 (i + 1) (ac + 1) (by omega) (by first | assumption | omega) (by rw [oCnt_y (oLd_j.mpr (by rw [hdz]; exact hz)), hc]) (by first | assumption | omega) _ _ hH ls (lv_sub hl [2, 3, 1, 0] rfl)
        · refine m_if_eq 41 hx hb dX6_laid_34 (by decide) (by omega) (fun h_11 => ?_) (fun h_11 => absurd h_11 (by omega))
          refine m_iconst 0 hx hb dX6_laid_41 rfl ?_
          refine m_iadd (((ac : Nat) : Int)) hx hb dX6_laid_42 (by omega) ?_
          refine lv_istore_n (lv' := [(2, .int (oI (((ac : Nat) : Int)))), (0, .ref (ad (65))), (1, .ref (ad (j))), (3, .int (oI (((i : Nat) : Int) + 1)))]) hx hb dX6_laid_43 rfl hl (by decide) rfl (fun ls hl => ?_)
          refine m_iinc (((i : Nat) : Int) + 2) [(3, .int (oI (((i : Nat) : Int) + 2))), (2, .int (oI (((ac : Nat) : Int)))), (0, .ref (ad (65))), (1, .ref (ad (j)))] hx hb dX6_laid_44 hl (j := 3) rfl (by omega) (by decide) rfl (fun ls hl => ?_)
          refine lv_goto (tgt := 14) hx hb dX6_laid_47 (by decide) ?_
          exact ih14 (i + 1) ac (by omega) (by first | assumption | omega) (by rw [oCnt_n (fun q => hz (by have := oLd_j.mp q; rw [hdz] at this; exact this)), hc]) (by first | assumption | omega) _ _ hH ls (lv_sub hl [2, 3, 1, 0] rfl)
  exact L14 _ 0 0 (Nat.lt_succ_self _) (by first | assumption | omega) (rfl) (by first | assumption | omega) _ _ hH ls (lv_sub hl [2, 3, 1, 0] rfl)
set_option maxHeartbeats 4000000 in
set_option maxRecDepth 100000 in
theorem c6_gaps {l : Launch} {D : va_G} {cT : Nat → ClassId} {N b0 : Nat} {ad : Nat → Nat} (hA : oAd b0 N ad) {σ : Nat → va_E} (si ac6 spo ou6 : Nat) (rf : Int) (j n a g : Nat) (f : Nat → Int) (sz w : Nat → Nat) (s : Nat → Nat) (F R : Nat → Int) (hN : 76 ≤ N) (hj : j = 67 ∨ j = 68) (hwf : oWf n sz w) (hag : oAg a g) (hp : oRS f n a g sz w) (eM6 : σ (65) = .inr (6, [.int (oI (rf)), .ref (ad (66)), .int (oI (((si : Nat) : Int))), .ref (ad (67)), .ref (ad (68)), .ref (ad (69)), .int (oI (((ac6 : Nat) : Int))), .ref (ad (70)), .ref (ad (71)), .ref (ad (72)), .ref (ad (73)), .ref (ad (74)), .int (oI (((spo : Nat) : Int))), .int (oI (((ou6 : Nat) : Int)))])) (ef : σ (j) = oAI cT 171 f) (e72 : σ (72) = oAN cT 41 s) (e73 : σ (73) = oAI cT 201 F) (e74 : σ (74) = oAI cT 201 R) :
    oCi l D cT N ad b0 yX6_gaps cX6_gaps 4 (some .int) 4 90 [.ref (ad (65)), .ref (ad (j))] σ (fun rr uu => ∃ s2 : Nat → Nat, ∃ F2 : Nat → Int, ∃ R2 : Nat → Int, rr = oI (((oGaps (oOrW n w (-1) 4) a g : Nat) : Int)) ∧ (oSq s2 (oOrW n w (-1) 4)) ∧ (∀ t : Nat, t ≤ 200 → F2 t = oDist (oOrW n w (-1) 4) 0 t) ∧ uu (72) = oAN cT 41 s2 ∧ uu (73) = oAI cT 201 F2 ∧ uu (74) = oAI cT 201 R2 ∧ (∀ q : Nat, q ≠ 72 → q ≠ 73 → q ≠ 74 → uu q = σ q)) := by
  refine m_start (cc := cX6_gaps) (by decide) (Nat.le_of_ble_eq_true rfl) rfl ?_
  intro Pp Ee Ss Mm Bb Me Cc Ar ls hx hb hml hown hlk hrt hts hK hH hl
  have hown : Ss.vm.findClass RX6 = some Mm.cls := hown
  have hl : lv_has ls 4 [(0, .ref (ad (65))), (1, .ref (ad (j)))] := hl
  have hf : ∀ q : Nat, q ≠ 72 → q ≠ 73 → q ≠ 74 → σ q = σ q := fun q _ _ _ => rfl
  refine lv_aload_n hx hb dX6_gaps_0 rfl (lv_at hl 0 rfl) ?_
  refine lv_aload_n hx hb dX6_gaps_1 rfl (lv_at hl 1 rfl) ?_
  refine m_callVi hx hb hml hown hts hK hH hl (rest := []) cw_X6_91 (c6_laid hA si ac6 spo ou6 rf j n a g f sz w s F R (by first | assumption | omega) (by first | assumption | omega) (by first | assumption | omega) (by first | assumption | omega) (by first | assumption | omega) eM6 ef e72 e73 e74) ⟨Nat.le_of_ble_eq_true rfl, Nat.le_of_ble_eq_true rfl⟩ ⟨Nat.le_of_ble_eq_true rfl, Nat.le_of_ble_eq_true rfl⟩ rfl (k := 65) (by omega) eM6 rfl rfl (Nat.le_of_ble_eq_true rfl) dX6_gaps_2 (fun r_4 σ_1 H locs hp_2 hH => ?_)
  obtain ⟨s5, F5, R5, rfl, hsq, hF5, e72, e73, e74, hq_3⟩ := hp_2
  have eM6 : σ_1 (65) = .inr (6, [.int (oI (rf)), .ref (ad (66)), .int (oI (((si : Nat) : Int))), .ref (ad (67)), .ref (ad (68)), .ref (ad (69)), .int (oI (((ac6 : Nat) : Int))), .ref (ad (70)), .ref (ad (71)), .ref (ad (72)), .ref (ad (73)), .ref (ad (74)), .int (oI (((spo : Nat) : Int))), .int (oI (((ou6 : Nat) : Int)))]) := (hq_3 _ (by decide) (by decide) (by decide)).trans eM6
  have ef : σ_1 (j) = oAI cT 171 f := (hq_3 _ (by omega) (by omega) (by omega)).trans ef
  have hf : ∀ q : Nat, q ≠ 72 → q ≠ 73 → q ≠ 74 → σ_1 q = σ q := fun q n0 n1 n2 => (hq_3 q n0 n1 n2).trans (hf q n0 n1 n2)
  refine lv_pop hx hb dX6_gaps_5 rfl ?_
  refine m_iconst 0 hx hb dX6_gaps_6 rfl ?_
  refine lv_istore_n (lv' := [(2, .int (oI (0))), (0, .ref (ad (65))), (1, .ref (ad (j)))]) hx hb dX6_gaps_7 rfl hl (by decide) rfl (fun ls hl => ?_)
  refine m_iconst 1 hx hb dX6_gaps_8 rfl ?_
  refine lv_istore_n (lv' := [(3, .int (oI (1))), (2, .int (oI (0))), (0, .ref (ad (65))), (1, .ref (ad (j)))]) hx hb dX6_gaps_9 rfl hl (by decide) rfl (fun ls hl => ?_)
  have L10 : ∀ (fu : Nat) (i : Nat) (ac : Nat), (g + 1 - i < fu) → (i ≤ g) → (ac = oGaps (oOrW n w (-1) 4) a i) → (ac ≤ i) → ∀ (H : Heap) (locs : List Loc), oH b0 D N ad Ss.heap σ_1 H locs → ∀ ls : Array Slot, lv_has ls 4 [(0, .ref (ad (65))), (1, .ref (ad (j))), (2, .int (oI (((ac : Nat) : Int)))), (3, .int (oI (((i : Nat) : Int) + 1)))] → W Pp l Ee { frames := 4, cells := 0, slots := 0, locals := 90 } Ss Mm Ar Bb Me Cc H locs 0 0 (MQ Bb (va_Qi (fun rr uu => ∃ s2 : Nat → Nat, ∃ F2 : Nat → Int, ∃ R2 : Nat → Int, rr = oI (((oGaps (oOrW n w (-1) 4) a g : Nat) : Int)) ∧ (oSq s2 (oOrW n w (-1) 4)) ∧ (∀ t : Nat, t ≤ 200 → F2 t = oDist (oOrW n w (-1) 4) 0 t) ∧ uu (72) = oAN cT 41 s2 ∧ uu (73) = oAI cT 201 F2 ∧ uu (74) = oAI cT 201 R2 ∧ (∀ q : Nat, q ≠ 72 → q ≠ 73 → q ≠ 74 → uu q = σ q)) (oV D N ad) (fun q => b0 ≤ q)) Ar Ss 0 0 (fun q => b0 ≤ q)) (F0 Mm 10 ls []) := by
    intro fu10
    induction fu10 with
    | zero =>
      intro i ac hm10
      exact absurd hm10 (Nat.not_lt_zero _)
    | succ fu10 ih10 =>
      intro i ac hm10 hi hc hab H locs hH ls hl
      have hag2 := hag.2
      have hag1 := hag.1
      refine lv_iload_n hx hb dX6_gaps_10 rfl (lv_at hl 3 rfl) ?_
      refine lv_aload_n hx hb dX6_gaps_11 rfl (lv_at hl 1 rfl) ?_
      refine m_iconst 2 hx hb dX6_gaps_12 rfl ?_
      refine m_iald hx hb hK hH (k := j) (by omega) ef (2) (by omega) (by omega) (by decide) dX6_gaps_13 ?_
      refine m_topI (((g : Nat) : Int)) (hp.2.2.1) ?_
      refine m_icmp_gt 43 hx hb dX6_gaps_14 (by decide) (by omega) (by omega) (fun h_5 => ?_) (fun h_5 => ?_)
      · refine lv_iload_n hx hb dX6_gaps_43 rfl (lv_at hl 2 rfl) ?_
        exact m_iret hx hb hlk hrt hH (m_ni _) dX6_gaps_44 ⟨s5, F5, R5, congrArg oI (by rw [hc, show i = g by omega]), hsq, hF5, e72, e73, e74, hf⟩
      · refine lv_iload_n hx hb dX6_gaps_17 rfl (lv_at hl 2 rfl) ?_
        refine lv_aload_n hx hb dX6_gaps_18 rfl (lv_at hl 1 rfl) ?_
        refine lv_aload_n hx hb dX6_gaps_19 rfl (lv_at hl 0 rfl) ?_
        refine gf_X6_far hx hb hts hown hK hH (k := 65) (by omega) eM6 dX6_gaps_20 ?_
        refine lv_iload_n hx hb dX6_gaps_23 rfl (lv_at hl 3 rfl) ?_
        refine m_pSb hx hb hml hown hts hK hH hl (rest := [.int (oI (((ac : Nat) : Int)))]) cw_X6_95 rfl (c6_begins hA j n a g f sz w F5 (oOrW n w (-1) 4) i (by first | assumption | omega) (by first | assumption | omega) (by first | assumption | omega) (by first | assumption | omega) (hF5) (by first | assumption | omega) ef e73) ⟨Nat.le_of_ble_eq_true rfl, Nat.le_of_ble_eq_true rfl⟩ ⟨Nat.le_of_ble_eq_true rfl, Nat.le_of_ble_eq_true rfl⟩ rfl rfl (Nat.le_of_ble_eq_true rfl) dX6_gaps_24 (fun hz H locs hH => ?_) (fun hz H locs hH => ?_)
        · refine m_if_eq 34 hx hb dX6_gaps_27 (by decide) (by omega) (fun h_6 => absurd h_6 (by omega)) (fun h_6 => ?_)
          refine m_iconst 1 hx hb dX6_gaps_30 rfl ?_
          refine lv_goto (tgt := 35) hx hb dX6_gaps_31 (by decide) ?_
          refine m_iadd (((ac : Nat) : Int) + 1) hx hb dX6_gaps_35 (by omega) ?_
          refine lv_istore_n (lv' := [(2, .int (oI (((ac : Nat) : Int) + 1))), (0, .ref (ad (65))), (1, .ref (ad (j))), (3, .int (oI (((i : Nat) : Int) + 1)))]) hx hb dX6_gaps_36 rfl hl (by decide) rfl (fun ls hl => ?_)
          refine m_iinc (((i : Nat) : Int) + 2) [(3, .int (oI (((i : Nat) : Int) + 2))), (2, .int (oI (((ac : Nat) : Int) + 1))), (0, .ref (ad (65))), (1, .ref (ad (j)))] hx hb dX6_gaps_37 hl (j := 3) rfl (by omega) (by decide) rfl (fun ls hl => ?_)
          refine lv_goto (tgt := 10) hx hb dX6_gaps_40 (by decide) ?_
          exact ih10 (i + 1) (ac + 1) (by omega) (by first | assumption | omega) (by rw [oGaps_y hz, hc]) (by first | assumption | omega) _ _ hH ls (lv_sub hl [2, 3, 1, 0] rfl)
        · refine m_if_eq 34 hx hb dX6_gaps_27 (by decide) (by omega) (fun h_7 => ?_) (fun h_7 => absurd h_7 (by omega))
          refine m_iconst 0 hx hb dX6_gaps_34 rfl ?_
          refine m_iadd (((ac : Nat) : Int)) hx hb dX6_gaps_35 (by omega) ?_
          refine lv_istore_n (lv' := [(2, .int (oI (((ac : Nat) : Int)))), (0, .ref (ad (65))), (1, .ref (ad (j))), (3, .int (oI (((i : Nat) : Int) + 1)))]) hx hb dX6_gaps_36 rfl hl (by decide) rfl (fun ls hl => ?_)
          refine m_iinc (((i : Nat) : Int) + 2) [(3, .int (oI (((i : Nat) : Int) + 2))), (2, .int (oI (((ac : Nat) : Int)))), (0, .ref (ad (65))), (1, .ref (ad (j)))] hx hb dX6_gaps_37 hl (j := 3) rfl (by omega) (by decide) rfl (fun ls hl => ?_)
          refine lv_goto (tgt := 10) hx hb dX6_gaps_40 (by decide) ?_
          exact ih10 (i + 1) ac (by omega) (by first | assumption | omega) (by rw [oGaps_n hz, hc]) (by first | assumption | omega) _ _ hH ls (lv_sub hl [2, 3, 1, 0] rfl)
  exact L10 _ 0 0 (Nat.lt_succ_self _) (by first | assumption | omega) (rfl) (by first | assumption | omega) _ _ hH ls (lv_sub hl [2, 3, 1, 0] rfl)
set_option maxHeartbeats 4000000 in
set_option maxRecDepth 100000 in
theorem c6_turnOn {l : Launch} {D : va_G} {cT : Nat → ClassId} {N b0 : Nat} {ad : Nat → Nat} (hA : oAd b0 N ad) {σ : Nat → va_E} (j n a g : Nat) (f : Nat → Int) (sz w : Nat → Nat) (r : Nat) (hj : j < N) (hwf : oWf n sz w) (hp : oRS f n a g sz w) (hr : r < n) (ef : σ (j) = oAI cT 171 f) :
    oCi l D cT N ad b0 yX6_turnOn cX6_turnOn 5 (some .int) 1 21 [.ref (ad (j)), .int (oI (((r : Nat) : Int)))] σ (fun rr uu => ∃ f2 : Nat → Int, rr = oI ((oTurnR (oRev (w r) (sz r)) (sz r))) ∧ (oRS f2 n a g sz (va_up w r (oRev (w r) (sz r)))) ∧ (1 ≤ oTurnR (oRev (w r) (sz r)) (sz r)) ∧ uu (j) = oAI cT 171 f2 ∧ (∀ q : Nat, q ≠ j → uu q = σ q)) := by
  refine m_start (cc := cX6_turnOn) (by decide) (Nat.le_of_ble_eq_true rfl) rfl ?_
  intro Pp Ee Ss Mm Bb Me Cc Ar ls hx hb hml hown hlk hrt hts hK hH hl
  have hown : Ss.vm.findClass RX6 = some Mm.cls := hown
  have hn := hwf.1
  have hsz : ∀ r : Nat, r < n → 2 ≤ sz r ∧ sz r ≤ 40 := fun r h => ⟨(hwf.2 r h).1, (hwf.2 r h).2.1⟩
  have hs9 := hsz r hr
  have hwr := (hwf.2 r hr).2.2.1
  have hl : lv_has ls 5 [(0, .ref (ad (j))), (1, .int (oI (((r : Nat) : Int))))] := hl
  have hf : ∀ q : Nat, q ≠ j → σ q = σ q := fun q _ => rfl
  refine lv_aload_n hx hb dX6_turnOn_0 rfl (lv_at hl 0 rfl) ?_
  refine lv_iload_n hx hb dX6_turnOn_1 rfl (lv_at hl 1 rfl) ?_
  refine m_pSi hx hb hml hown hts hK hH hl (rest := []) cw_X6_54 rfl (c6_length hA j n a g f sz w r (by first | assumption | omega) (by first | assumption | omega) (by first | assumption | omega) (by first | assumption | omega) ef) ⟨Nat.le_of_ble_eq_true rfl, Nat.le_of_ble_eq_true rfl⟩ ⟨Nat.le_of_ble_eq_true rfl, Nat.le_of_ble_eq_true rfl⟩ rfl rfl (Nat.le_of_ble_eq_true rfl) dX6_turnOn_2 (fun H locs hH => ?_)
  refine lv_istore_n (lv' := [(2, .int (oI (((sz r : Nat) : Int)))), (0, .ref (ad (j))), (1, .int (oI (((r : Nat) : Int))))]) hx hb dX6_turnOn_5 rfl hl (by decide) rfl (fun ls hl => ?_)
  refine m_iconst 0 hx hb dX6_turnOn_6 rfl ?_
  refine lv_istore_n (lv' := [(3, .int (oI (0))), (2, .int (oI (((sz r : Nat) : Int)))), (0, .ref (ad (j))), (1, .int (oI (((r : Nat) : Int))))]) hx hb dX6_turnOn_7 rfl hl (by decide) rfl (fun ls hl => ?_)
  have L8 : ∀ (fu : Nat) (p : Nat) (f3 : Nat → Int), (42 - p < fu) → (2 * p ≤ sz r + 1) → (∀ q : Nat, q ≤ sz r → f3 (42 * r + 4 + q) = if q < p ∨ sz r - q < p then ((bz (w r) (sz r - q) : Nat) : Int) else ((bz (w r) q : Nat) : Int)) → (∀ k : Nat, (k < 42 * r + 4 ∨ 42 * r + 4 + sz r < k) → f3 k = f k) → ∀ σL8 : Nat → va_E, σL8 (j) = oAI cT 171 f3 → (∀ q : Nat, q ≠ j → σL8 q = σ q) → ∀ (H : Heap) (locs : List Loc), oH b0 D N ad Ss.heap σL8 H locs → ∀ ls : Array Slot, lv_has ls 5 [(0, .ref (ad (j))), (1, .int (oI (((r : Nat) : Int)))), (2, .int (oI (((sz r : Nat) : Int)))), (3, .int (oI (((p : Nat) : Int))))] → W Pp l Ee { frames := 1, cells := 0, slots := 0, locals := 21 } Ss Mm Ar Bb Me Cc H locs 0 0 (MQ Bb (va_Qi (fun rr uu => ∃ f2 : Nat → Int, rr = oI ((oTurnR (oRev (w r) (sz r)) (sz r))) ∧ (oRS f2 n a g sz (va_up w r (oRev (w r) (sz r)))) ∧ (1 ≤ oTurnR (oRev (w r) (sz r)) (sz r)) ∧ uu (j) = oAI cT 171 f2 ∧ (∀ q : Nat, q ≠ j → uu q = σ q)) (oV D N ad) (fun q => b0 ≤ q)) Ar Ss 0 0 (fun q => b0 ≤ q)) (F0 Mm 8 ls []) := by
    intro fu8
    induction fu8 with
    | zero =>
      intro p f3 hm8
      exact absurd hm8 (Nat.not_lt_zero _)
    | succ fu8 ih8 =>
      intro p f3 hm8 hpp hAA hB σL8 ef hL8 H locs hH ls hl
      have hf : ∀ q : Nat, q ≠ j → σL8 q = σ q := fun q n0 => (hL8 q n0).trans (hf q n0)
      refine lv_iload_n hx hb dX6_turnOn_8 rfl (lv_at hl 3 rfl) ?_
      refine lv_iload_n hx hb dX6_turnOn_9 rfl (lv_at hl 2 rfl) ?_
      refine lv_iload_n hx hb dX6_turnOn_10 rfl (lv_at hl 3 rfl) ?_
      refine m_isub (-((p : Nat) : Int) + ((sz r : Nat) : Int)) hx hb dX6_turnOn_11 (by omega) ?_
      refine m_icmp_ge 57 hx hb dX6_turnOn_12 (by decide) (by omega) (by omega) (fun h_1 => ?_) (fun h_1 => ?_)
      · refine m_iconst 1 hx hb dX6_turnOn_57 rfl ?_
        refine lv_istore_n (lv' := [(3, .int (oI (1))), (0, .ref (ad (j))), (1, .int (oI (((r : Nat) : Int)))), (2, .int (oI (((sz r : Nat) : Int))))]) hx hb dX6_turnOn_58 rfl hl (by decide) rfl (fun ls hl => ?_)
        have hp2 := oRS_turn hp hr hs9.2 hwr (by omega) hAA hB
        have hwf2 := hwf.turn hr
        have hVs := (hwf2.2 r hr).2.2.2.2
        rw [va_up_s] at hVs
        have L59 : ∀ (fu : Nat) (p : Nat), (42 - p < fu) → (1 ≤ p ∧ p ≤ sz r) → (∀ q : Nat, 1 ≤ q → q < p → (oRev (w r) (sz r)).testBit q = false) → ∀ (H : Heap) (locs : List Loc), oH b0 D N ad Ss.heap σL8 H locs → ∀ ls : Array Slot, lv_has ls 5 [(0, .ref (ad (j))), (1, .int (oI (((r : Nat) : Int)))), (3, .int (oI (((p : Nat) : Int))))] → W Pp l Ee { frames := 1, cells := 0, slots := 0, locals := 21 } Ss Mm Ar Bb Me Cc H locs 0 0 (MQ Bb (va_Qi (fun rr uu => ∃ f2 : Nat → Int, rr = oI ((oTurnR (oRev (w r) (sz r)) (sz r))) ∧ (oRS f2 n a g sz (va_up w r (oRev (w r) (sz r)))) ∧ (1 ≤ oTurnR (oRev (w r) (sz r)) (sz r)) ∧ uu (j) = oAI cT 171 f2 ∧ (∀ q : Nat, q ≠ j → uu q = σ q)) (oV D N ad) (fun q => b0 ≤ q)) Ar Ss 0 0 (fun q => b0 ≤ q)) (F0 Mm 59 ls []) := by
          intro fu59
          induction fu59 with
          | zero =>
            intro p hm59
            exact absurd hm59 (Nat.not_lt_zero _)
          | succ fu59 ih59 =>
            intro p hm59 h1p hzz H locs hH ls hl
            refine lv_aload_n hx hb dX6_turnOn_59 rfl (lv_at hl 0 rfl) ?_
            refine lv_iload_n hx hb dX6_turnOn_60 rfl (lv_at hl 1 rfl) ?_
            refine lv_iload_n hx hb dX6_turnOn_61 rfl (lv_at hl 2 rfl) ?_
            refine m_pSi hx hb hml hown hts hK hH hl (rest := [.ref (ad (j))]) cw_X6_64 rfl (c6_at hA r p (by first | assumption | omega) (by first | assumption | omega) ) ⟨Nat.le_of_ble_eq_true rfl, Nat.le_of_ble_eq_true rfl⟩ ⟨Nat.le_of_ble_eq_true rfl, Nat.le_of_ble_eq_true rfl⟩ rfl rfl (Nat.le_of_ble_eq_true rfl) dX6_turnOn_62 (fun H locs hH => ?_)
            refine m_iald hx hb hK hH (k := j) (by omega) ef (42 * r + 4 + p) (by omega) (by omega) (by decide) dX6_turnOn_65 ?_
            refine m_topI (((bz (oRev (w r) (sz r)) p : Nat) : Int)) (by have h9 := (hp2.2.2.2 r hr).2 p (by omega); rw [va_up_s] at h9; exact h9) ?_
            have hb1 := bz_le (oRev (w r) (sz r)) p
            refine m_if_ne 75 hx hb dX6_turnOn_66 (by decide) (by omega) (fun h_2 => ?_) (fun h_2 => ?_)
            · have hbp : (oRev (w r) (sz r)).testBit p = true := bz_1.mp (by omega)
              have hTr := oTurn_at hs9.2 (by have := (hwf2.2 r hr).2.2.1; rw [va_up_s] at this; exact this) h1p.1 h1p.2 hzz hbp
              refine lv_iload_n hx hb dX6_turnOn_75 rfl (lv_at hl 2 rfl) ?_
              exact m_iret hx hb hlk hrt hH (m_ni _) dX6_turnOn_76 ⟨f3, congrArg oI (hTr.symm), hp2, (by rw [hTr]; omega), ef, hf⟩
            · have hps9 : p ≠ sz r := fun q => by have h8 := bz_1.mpr hVs; have h9 : bz (oRev (w r) (sz r)) p = 1 := (by rw [q]; exact h8); omega
              refine m_iinc (((p : Nat) : Int) + 1) [(3, .int (oI (((p : Nat) : Int) + 1))), (0, .ref (ad (j))), (1, .int (oI (((r : Nat) : Int))))] hx hb dX6_turnOn_69 hl (j := 2) rfl (by omega) (by decide) rfl (fun ls hl => ?_)
              refine lv_goto (tgt := 59) hx hb dX6_turnOn_72 (by decide) ?_
              exact ih59 (p + 1) (by omega) (by first | assumption | omega) (fun q h1 h2 => by
        by_cases e : q = p
        · rw [e]; exact bz_0.mp (by omega)
        · exact hzz q h1 (by omega)) _ _ hH ls (lv_sub hl [1, 2, 0] rfl)
        exact L59 _ 1 (Nat.lt_succ_self _) (by first | assumption | omega) (fun q h1 h2 => by omega) _ _ hH ls (lv_sub hl [1, 2, 0] rfl)
      · refine lv_aload_n hx hb dX6_turnOn_15 rfl (lv_at hl 0 rfl) ?_
        refine lv_iload_n hx hb dX6_turnOn_16 rfl (lv_at hl 1 rfl) ?_
        refine lv_iload_n hx hb dX6_turnOn_17 rfl (lv_at hl 3 rfl) ?_
        refine m_pSi hx hb hml hown hts hK hH hl (rest := [.ref (ad (j))]) cw_X6_64 rfl (c6_at hA r p (by first | assumption | omega) (by first | assumption | omega) ) ⟨Nat.le_of_ble_eq_true rfl, Nat.le_of_ble_eq_true rfl⟩ ⟨Nat.le_of_ble_eq_true rfl, Nat.le_of_ble_eq_true rfl⟩ rfl rfl (Nat.le_of_ble_eq_true rfl) dX6_turnOn_18 (fun H locs hH => ?_)
        refine m_iald hx hb hK hH (k := j) (by omega) ef (42 * r + 4 + p) (by omega) (by omega) (by decide) dX6_turnOn_21 ?_
        refine m_topI (((bz (w r) p : Nat) : Int)) (by rw [hAA p (by omega), if_neg (by omega)]) ?_
        have hb1 := bz_le (w r) p
        refine lv_istore (lv' := [(4, .int (oI (((bz (w r) p : Nat) : Int)))), (0, .ref (ad (j))), (1, .int (oI (((r : Nat) : Int)))), (2, .int (oI (((sz r : Nat) : Int)))), (3, .int (oI (((p : Nat) : Int))))]) hx hb dX6_turnOn_22 hl (by decide) rfl (fun ls hl => ?_)
        refine lv_aload_n hx hb dX6_turnOn_24 rfl (lv_at hl 1 rfl) ?_
        refine lv_iload_n hx hb dX6_turnOn_25 rfl (lv_at hl 2 rfl) ?_
        refine lv_iload_n hx hb dX6_turnOn_26 rfl (lv_at hl 4 rfl) ?_
        refine m_pSi hx hb hml hown hts hK hH hl (rest := [.ref (ad (j))]) cw_X6_64 rfl (c6_at hA r p (by first | assumption | omega) (by first | assumption | omega) ) ⟨Nat.le_of_ble_eq_true rfl, Nat.le_of_ble_eq_true rfl⟩ ⟨Nat.le_of_ble_eq_true rfl, Nat.le_of_ble_eq_true rfl⟩ rfl rfl (Nat.le_of_ble_eq_true rfl) dX6_turnOn_27 (fun H locs hH => ?_)
        refine lv_aload_n hx hb dX6_turnOn_30 rfl (lv_at hl 1 rfl) ?_
        refine lv_iload_n hx hb dX6_turnOn_31 rfl (lv_at hl 2 rfl) ?_
        refine lv_iload_n hx hb dX6_turnOn_32 rfl (lv_at hl 3 rfl) ?_
        refine lv_iload_n hx hb dX6_turnOn_33 rfl (lv_at hl 4 rfl) ?_
        refine m_isub (-((p : Nat) : Int) + ((sz r : Nat) : Int)) hx hb dX6_turnOn_34 (by omega) ?_
        refine m_topI (((sz r - p : Nat) : Int)) (by omega) ?_
        refine m_pSi hx hb hml hown hts hK hH hl (rest := [.ref (ad (j)), .int (oI (((p : Nat) : Int) + 42 * ((r : Nat) : Int) + 4)), .ref (ad (j))]) cw_X6_64 rfl (c6_at hA r (sz r - p) (by first | assumption | omega) (by first | assumption | omega) ) ⟨Nat.le_of_ble_eq_true rfl, Nat.le_of_ble_eq_true rfl⟩ ⟨Nat.le_of_ble_eq_true rfl, Nat.le_of_ble_eq_true rfl⟩ rfl rfl (Nat.le_of_ble_eq_true rfl) dX6_turnOn_35 (fun H locs hH => ?_)
        refine m_iald hx hb hK hH (k := j) (by omega) ef (42 * r + 4 + (sz r - p)) (by omega) (by omega) (by decide) dX6_turnOn_38 ?_
        refine m_topI (((bz (w r) (sz r - p) : Nat) : Int)) (by rw [hAA (sz r - p) (by omega), if_neg (by omega)]) ?_
        have hb2 := bz_le (w r) (sz r - p)
        refine m_iast hx hb hK hH hA (k := j) (by omega) ef (42 * r + 4 + p) (by omega) (by omega) (by decide) dX6_turnOn_39 (fun H locs σ_3 ef hq_4 hH => ?_)
        have hf : ∀ q : Nat, q ≠ j → σ_3 q = σ q := fun q n0 => (hq_4 q n0).trans (hf q n0)
        have hL8 : ∀ q : Nat, q ≠ j → σ_3 q = σ q := fun q n0 => (hq_4 q n0).trans (hL8 q n0)
        refine lv_aload_n hx hb dX6_turnOn_40 rfl (lv_at hl 1 rfl) ?_
        refine lv_iload_n hx hb dX6_turnOn_41 rfl (lv_at hl 2 rfl) ?_
        refine lv_iload_n hx hb dX6_turnOn_42 rfl (lv_at hl 3 rfl) ?_
        refine lv_iload_n hx hb dX6_turnOn_43 rfl (lv_at hl 4 rfl) ?_
        refine m_isub (-((p : Nat) : Int) + ((sz r : Nat) : Int)) hx hb dX6_turnOn_44 (by omega) ?_
        refine m_topI (((sz r - p : Nat) : Int)) (by omega) ?_
        refine m_pSi hx hb hml hown hts hK hH hl (rest := [.ref (ad (j))]) cw_X6_64 rfl (c6_at hA r (sz r - p) (by first | assumption | omega) (by first | assumption | omega) ) ⟨Nat.le_of_ble_eq_true rfl, Nat.le_of_ble_eq_true rfl⟩ ⟨Nat.le_of_ble_eq_true rfl, Nat.le_of_ble_eq_true rfl⟩ rfl rfl (Nat.le_of_ble_eq_true rfl) dX6_turnOn_45 (fun H locs hH => ?_)
        refine lv_iload hx hb dX6_turnOn_48 (lv_at hl 0 rfl) ?_
        refine m_iast hx hb hK hH hA (k := j) (by omega) ef (42 * r + 4 + (sz r - p)) (by omega) (by omega) (by decide) dX6_turnOn_50 (fun H locs σ_5 ef hq_6 hH => ?_)
        have hf : ∀ q : Nat, q ≠ j → σ_5 q = σ q := fun q n0 => (hq_6 q n0).trans (hf q n0)
        have hL8 : ∀ q : Nat, q ≠ j → σ_5 q = σ q := fun q n0 => (hq_6 q n0).trans (hL8 q n0)
        refine m_iinc (((p : Nat) : Int) + 1) [(3, .int (oI (((p : Nat) : Int) + 1))), (4, .int (oI (((bz (w r) p : Nat) : Int)))), (0, .ref (ad (j))), (1, .int (oI (((r : Nat) : Int)))), (2, .int (oI (((sz r : Nat) : Int))))] hx hb dX6_turnOn_51 hl (j := 4) rfl (by omega) (by decide) rfl (fun ls hl => ?_)
        refine lv_goto (tgt := 8) hx hb dX6_turnOn_54 (by decide) ?_
        exact ih8 (p + 1) (va_up (va_up f3 (42 * r + 4 + p) ((bz (w r) (sz r - p) : Nat) : Int)) (42 * r + 4 + (sz r - p)) ((bz (w r) p : Nat) : Int)) (by omega) (by first | assumption | omega) (oTn_step (by omega) hAA) (fun k h => by rw [va_up_n _ _ (by omega), va_up_n _ _ (by omega)]; exact hB k h) _ ef (hL8) _ _ hH ls (lv_sub hl [2, 3, 4, 0] rfl)
  exact L8 _ 0 f (Nat.lt_succ_self _) (by first | assumption | omega) (fun q hq => by rw [if_neg (by omega)]; exact (hp.2.2.2 r hr).2 q (by omega)) (fun _ _ => rfl) _ ef (fun q _ => rfl) _ _ hH ls (lv_sub hl [2, 3, 1, 0] rfl)
set_option maxHeartbeats 4000000 in
set_option maxRecDepth 100000 in
theorem c6_ref0 {l : Launch} {D : va_G} {cT : Nat → ClassId} {N b0 : Nat} {ad : Nat → Nat} (hA : oAd b0 N ad) {σ : Nat → va_E} (si ac6 spo ou6 : Nat) (rf : Int) (hN : 76 ≤ N) (eM6 : σ (65) = .inr (6, [.int (oI (rf)), .ref (ad (66)), .int (oI (((si : Nat) : Int))), .ref (ad (67)), .ref (ad (68)), .ref (ad (69)), .int (oI (((ac6 : Nat) : Int))), .ref (ad (70)), .ref (ad (71)), .ref (ad (72)), .ref (ad (73)), .ref (ad (74)), .int (oI (((spo : Nat) : Int))), .int (oI (((ou6 : Nat) : Int)))])) :
    oCi l D cT N ad b0 yX6_refused cX6_refused 2 (some .boolean) 0 0 [.ref (ad (65)), .int (oI (0))] σ (fun rr uu => rr = oI (0) ∧ uu (65) = .inr (6, [.int (oI (0)), .ref (ad (66)), .int (oI (((si : Nat) : Int))), .ref (ad (67)), .ref (ad (68)), .ref (ad (69)), .int (oI (((ac6 : Nat) : Int))), .ref (ad (70)), .ref (ad (71)), .ref (ad (72)), .ref (ad (73)), .ref (ad (74)), .int (oI (((spo : Nat) : Int))), .int (oI (((ou6 : Nat) : Int)))]) ∧ (∀ q : Nat, q ≠ 65 → uu q = σ q)) := by
  refine m_start (cc := cX6_refused) (by decide) (Nat.le_of_ble_eq_true rfl) rfl ?_
  intro Pp Ee Ss Mm Bb Me Cc Ar ls hx hb hml hown hlk hrt hts hK hH hl
  have hown : Ss.vm.findClass RX6 = some Mm.cls := hown
  have hl : lv_has ls 2 [(0, .ref (ad (65))), (1, .int (oI (0)))] := hl
  have hf : ∀ q : Nat, q ≠ 65 → σ q = σ q := fun q _ => rfl
  refine lv_aload_n hx hb dX6_refused_0 rfl (lv_at hl 0 rfl) ?_
  refine lv_iload_n hx hb dX6_refused_1 rfl (lv_at hl 1 rfl) ?_
  refine pf_X6_refusal hx hb hts hown hK hH hA (k := 65) (by omega) eM6 dX6_refused_2 (fun H locs σ_1 eM6 hq_2 hH => ?_)
  have hf : ∀ q : Nat, q ≠ 65 → σ_1 q = σ q := fun q n0 => (hq_2 q n0).trans (hf q n0)
  refine lv_iload_n hx hb dX6_refused_5 rfl (lv_at hl 1 rfl) ?_
  refine m_if_le 13 hx hb dX6_refused_6 (by decide) (by omega) (fun h_3 => ?_) (fun h_3 => absurd h_3 (by omega))
  refine m_iconst 0 hx hb dX6_refused_13 rfl ?_
  exact m_iret hx hb hlk hrt hH m_z0 dX6_refused_14 ⟨congrArg oI (by omega), eM6, hf⟩
set_option maxHeartbeats 4000000 in
set_option maxRecDepth 100000 in
theorem c6_ref1 {l : Launch} {D : va_G} {cT : Nat → ClassId} {N b0 : Nat} {ad : Nat → Nat} (hA : oAd b0 N ad) {σ : Nat → va_E} (x9 : Nat) (si ac6 spo ou6 : Nat) (rf : Int) (hN : 76 ≤ N) (hx12 : x9 = 1 ∨ x9 = 2) (eM6 : σ (65) = .inr (6, [.int (oI (rf)), .ref (ad (66)), .int (oI (((si : Nat) : Int))), .ref (ad (67)), .ref (ad (68)), .ref (ad (69)), .int (oI (((ac6 : Nat) : Int))), .ref (ad (70)), .ref (ad (71)), .ref (ad (72)), .ref (ad (73)), .ref (ad (74)), .int (oI (((spo : Nat) : Int))), .int (oI (((ou6 : Nat) : Int)))])) :
    oCi l D cT N ad b0 yX6_refused cX6_refused 2 (some .boolean) 0 0 [.ref (ad (65)), .int (oI (((x9 : Nat) : Int)))] σ (fun rr uu => rr = oI (1) ∧ uu (65) = .inr (6, [.int (oI (((x9 : Nat) : Int))), .ref (ad (66)), .int (oI (((si : Nat) : Int))), .ref (ad (67)), .ref (ad (68)), .ref (ad (69)), .int (oI (((ac6 : Nat) : Int))), .ref (ad (70)), .ref (ad (71)), .ref (ad (72)), .ref (ad (73)), .ref (ad (74)), .int (oI (((spo : Nat) : Int))), .int (oI (((ou6 : Nat) : Int)))]) ∧ (∀ q : Nat, q ≠ 65 → uu q = σ q)) := by
  refine m_start (cc := cX6_refused) (by decide) (Nat.le_of_ble_eq_true rfl) rfl ?_
  intro Pp Ee Ss Mm Bb Me Cc Ar ls hx hb hml hown hlk hrt hts hK hH hl
  have hown : Ss.vm.findClass RX6 = some Mm.cls := hown
  have hl : lv_has ls 2 [(0, .ref (ad (65))), (1, .int (oI (((x9 : Nat) : Int))))] := hl
  have hf : ∀ q : Nat, q ≠ 65 → σ q = σ q := fun q _ => rfl
  refine lv_aload_n hx hb dX6_refused_0 rfl (lv_at hl 0 rfl) ?_
  refine lv_iload_n hx hb dX6_refused_1 rfl (lv_at hl 1 rfl) ?_
  refine pf_X6_refusal hx hb hts hown hK hH hA (k := 65) (by omega) eM6 dX6_refused_2 (fun H locs σ_1 eM6 hq_2 hH => ?_)
  have hf : ∀ q : Nat, q ≠ 65 → σ_1 q = σ q := fun q n0 => (hq_2 q n0).trans (hf q n0)
  refine lv_iload_n hx hb dX6_refused_5 rfl (lv_at hl 1 rfl) ?_
  refine m_if_le 13 hx hb dX6_refused_6 (by decide) (by omega) (fun h_3 => absurd h_3 (by omega)) (fun h_3 => ?_)
  refine m_iconst 1 hx hb dX6_refused_9 rfl ?_
  refine lv_goto (tgt := 14) hx hb dX6_refused_10 (by decide) ?_
  exact m_iret hx hb hlk hrt hH m_z1 dX6_refused_14 ⟨congrArg oI (by omega), eM6, hf⟩
set_option maxHeartbeats 4000000 in
set_option maxRecDepth 100000 in
theorem c6_done1 {l : Launch} {D : va_G} {cT : Nat → ClassId} {N b0 : Nat} {ad : Nat → Nat} (hA : oAd b0 N ad) {σ : Nat → va_E} (si ac6 spo ou6 : Nat) (rf : Int) (hN : 76 ≤ N) (hou : ou6 ≤ 1000) (eM6 : σ (65) = .inr (6, [.int (oI (rf)), .ref (ad (66)), .int (oI (((si : Nat) : Int))), .ref (ad (67)), .ref (ad (68)), .ref (ad (69)), .int (oI (((ac6 : Nat) : Int))), .ref (ad (70)), .ref (ad (71)), .ref (ad (72)), .ref (ad (73)), .ref (ad (74)), .int (oI (((spo : Nat) : Int))), .int (oI (((ou6 : Nat) : Int)))])) :
    oCi l D cT N ad b0 yX6_done cX6_done 2 (some .boolean) 0 0 [.ref (ad (65)), .int (oI (1))] σ (fun rr uu => rr = oI (1) ∧ uu (65) = .inr (6, [.int (oI (rf)), .ref (ad (66)), .int (oI (((si : Nat) : Int))), .ref (ad (67)), .ref (ad (68)), .ref (ad (69)), .int (oI (((ac6 : Nat) : Int))), .ref (ad (70)), .ref (ad (71)), .ref (ad (72)), .ref (ad (73)), .ref (ad (74)), .int (oI (((spo : Nat) : Int))), .int (oI (((ou6 : Nat) : Int)))]) ∧ (∀ q : Nat, q ≠ 65 → uu q = σ q)) := by
  refine m_start (cc := cX6_done) (by decide) (Nat.le_of_ble_eq_true rfl) rfl ?_
  intro Pp Ee Ss Mm Bb Me Cc Ar ls hx hb hml hown hlk hrt hts hK hH hl
  have hown : Ss.vm.findClass RX6 = some Mm.cls := hown
  have hl : lv_has ls 2 [(0, .ref (ad (65))), (1, .int (oI (1)))] := hl
  have hf : ∀ q : Nat, q ≠ 65 → σ q = σ q := fun q _ => rfl
  refine lv_aload_n hx hb dX6_done_0 rfl (lv_at hl 0 rfl) ?_
  refine lv_dup hx hb dX6_done_1 rfl ?_
  refine gf_X6_out hx hb hts hown hK hH (k := 65) (by omega) eM6 dX6_done_2 ?_
  refine lv_iload_n hx hb dX6_done_5 rfl (lv_at hl 1 rfl) ?_
  refine m_if_eq 13 hx hb dX6_done_6 (by decide) (by omega) (fun h_1 => absurd h_1 (by omega)) (fun h_1 => ?_)
  refine m_iconst 0 hx hb dX6_done_9 rfl ?_
  refine lv_goto (tgt := 14) hx hb dX6_done_10 (by decide) ?_
  refine m_iadd (((ou6 : Nat) : Int)) hx hb dX6_done_14 (by omega) ?_
  refine pf_X6_out hx hb hts hown hK hH hA (k := 65) (by omega) eM6 dX6_done_15 (fun H locs σ_2 eM6 hq_3 hH => ?_)
  have hf : ∀ q : Nat, q ≠ 65 → σ_2 q = σ q := fun q n0 => (hq_3 q n0).trans (hf q n0)
  refine m_iconst 1 hx hb dX6_done_18 rfl ?_
  exact m_iret hx hb hlk hrt hH m_z1 dX6_done_19 ⟨congrArg oI (by omega), eM6, hf⟩
set_option maxHeartbeats 4000000 in
set_option maxRecDepth 100000 in
theorem c6_done0 {l : Launch} {D : va_G} {cT : Nat → ClassId} {N b0 : Nat} {ad : Nat → Nat} (hA : oAd b0 N ad) {σ : Nat → va_E} (si ac6 spo ou6 : Nat) (rf : Int) (hN : 76 ≤ N) (hou : ou6 ≤ 1000) (eM6 : σ (65) = .inr (6, [.int (oI (rf)), .ref (ad (66)), .int (oI (((si : Nat) : Int))), .ref (ad (67)), .ref (ad (68)), .ref (ad (69)), .int (oI (((ac6 : Nat) : Int))), .ref (ad (70)), .ref (ad (71)), .ref (ad (72)), .ref (ad (73)), .ref (ad (74)), .int (oI (((spo : Nat) : Int))), .int (oI (((ou6 : Nat) : Int)))])) :
    oCi l D cT N ad b0 yX6_done cX6_done 2 (some .boolean) 0 0 [.ref (ad (65)), .int (oI (0))] σ (fun rr uu => rr = oI (1) ∧ uu (65) = .inr (6, [.int (oI (rf)), .ref (ad (66)), .int (oI (((si : Nat) : Int))), .ref (ad (67)), .ref (ad (68)), .ref (ad (69)), .int (oI (((ac6 : Nat) : Int))), .ref (ad (70)), .ref (ad (71)), .ref (ad (72)), .ref (ad (73)), .ref (ad (74)), .int (oI (((spo : Nat) : Int))), .int (oI (((ou6 : Nat) : Int) + 1))]) ∧ (∀ q : Nat, q ≠ 65 → uu q = σ q)) := by
  refine m_start (cc := cX6_done) (by decide) (Nat.le_of_ble_eq_true rfl) rfl ?_
  intro Pp Ee Ss Mm Bb Me Cc Ar ls hx hb hml hown hlk hrt hts hK hH hl
  have hown : Ss.vm.findClass RX6 = some Mm.cls := hown
  have hl : lv_has ls 2 [(0, .ref (ad (65))), (1, .int (oI (0)))] := hl
  have hf : ∀ q : Nat, q ≠ 65 → σ q = σ q := fun q _ => rfl
  refine lv_aload_n hx hb dX6_done_0 rfl (lv_at hl 0 rfl) ?_
  refine lv_dup hx hb dX6_done_1 rfl ?_
  refine gf_X6_out hx hb hts hown hK hH (k := 65) (by omega) eM6 dX6_done_2 ?_
  refine lv_iload_n hx hb dX6_done_5 rfl (lv_at hl 1 rfl) ?_
  refine m_if_eq 13 hx hb dX6_done_6 (by decide) (by omega) (fun h_1 => ?_) (fun h_1 => absurd h_1 (by omega))
  refine m_iconst 1 hx hb dX6_done_13 rfl ?_
  refine m_iadd (((ou6 : Nat) : Int) + 1) hx hb dX6_done_14 (by omega) ?_
  refine pf_X6_out hx hb hts hown hK hH hA (k := 65) (by omega) eM6 dX6_done_15 (fun H locs σ_2 eM6 hq_3 hH => ?_)
  have hf : ∀ q : Nat, q ≠ 65 → σ_2 q = σ q := fun q n0 => (hq_3 q n0).trans (hf q n0)
  refine m_iconst 1 hx hb dX6_done_18 rfl ?_
  exact m_iret hx hb hlk hrt hH m_z1 dX6_done_19 ⟨congrArg oI (by omega), eM6, hf⟩
set_option maxHeartbeats 4000000 in
set_option maxRecDepth 100000 in
theorem c6_append {l : Launch} {D : va_G} {cT : Nat → ClassId} {N b0 : Nat} {ad : Nat → Nat} (hA : oAd b0 N ad) {σ : Nat → va_E} (c : Int) (si ac6 spo ou6 : Nat) (rf : Int) (T : Nat → Int) (hN : 76 ≤ N) (hsi : si ≤ 120) (hbc : -2147483648 ≤ c ∧ c < 2147483648) (eM6 : σ (65) = .inr (6, [.int (oI (rf)), .ref (ad (66)), .int (oI (((si : Nat) : Int))), .ref (ad (67)), .ref (ad (68)), .ref (ad (69)), .int (oI (((ac6 : Nat) : Int))), .ref (ad (70)), .ref (ad (71)), .ref (ad (72)), .ref (ad (73)), .ref (ad (74)), .int (oI (((spo : Nat) : Int))), .int (oI (((ou6 : Nat) : Int)))])) (e66 : σ (66) = oAI cT 120 T) :
    oCi l D cT N ad b0 yX6_append cX6_append 2 (some .int) 1 25 [.ref (ad (65)), .int (oI (c))] σ (fun rr uu => ∃ v9 : Int, ∃ r9 : Int, ∃ si2 : Nat, ∃ T2 : Nat → Int, rr = oI (v9) ∧ (((0 ≤ c ∧ c ≤ 255) ∧ si < 120 ∧ r9 = 0 ∧ v9 = (si : Int) + 1 ∧ si2 = si + 1 ∧ T2 = va_up T si c) ∨ (si2 = si ∧ T2 = T ∧ ((r9 = 1 ∧ ¬ (0 ≤ c ∧ c ≤ 255)) ∨ (r9 = 2 ∧ (0 ≤ c ∧ c ≤ 255) ∧ si = 120)))) ∧ uu (65) = .inr (6, [.int (oI (r9)), .ref (ad (66)), .int (oI (((si2 : Nat) : Int))), .ref (ad (67)), .ref (ad (68)), .ref (ad (69)), .int (oI (((ac6 : Nat) : Int))), .ref (ad (70)), .ref (ad (71)), .ref (ad (72)), .ref (ad (73)), .ref (ad (74)), .int (oI (((spo : Nat) : Int))), .int (oI (((ou6 : Nat) : Int)))]) ∧ uu (66) = oAI cT 120 T2 ∧ (∀ q : Nat, q ≠ 65 → q ≠ 66 → uu q = σ q)) := by
  refine m_start (cc := cX6_append) (by decide) (Nat.le_of_ble_eq_true rfl) rfl ?_
  intro Pp Ee Ss Mm Bb Me Cc Ar ls hx hb hml hown hlk hrt hts hK hH hl
  have hown : Ss.vm.findClass RX6 = some Mm.cls := hown
  have hl : lv_has ls 2 [(0, .ref (ad (65))), (1, .int (oI (c)))] := hl
  have hf : ∀ q : Nat, q ≠ 65 → q ≠ 66 → σ q = σ q := fun q _ _ => rfl
  refine lv_aload_n hx hb dX6_append_0 rfl (lv_at hl 0 rfl) ?_
  refine lv_iload_n hx hb dX6_append_1 rfl (lv_at hl 1 rfl) ?_
  refine m_i2l hx hb dX6_append_2 (by omega) ?_
  refine m_lconst 0 hx hb dX6_append_3 rfl ?_
  refine lv_ldc2 (v := 255) hx hb hown (hts _ kl_X6_106) dX6_append_4 ?_
  refine m_J2L 255 (by decide +kernel) ?_
  refine m_pSb hx hb hml hown hts hK hH hl (rest := [.ref (ad (65))]) cw_X6_46 rfl (c6_in hA c 0 255 (by first | assumption | omega) (by first | assumption | omega) (by first | assumption | omega) ) ⟨Nat.le_of_ble_eq_true rfl, Nat.le_of_ble_eq_true rfl⟩ ⟨Nat.le_of_ble_eq_true rfl, Nat.le_of_ble_eq_true rfl⟩ rfl rfl (Nat.le_of_ble_eq_true rfl) dX6_append_7 (fun h_1 H locs hH => ?_) (fun h_1 H locs hH => ?_)
  · refine m_if_ne 17 hx hb dX6_append_10 (by decide) (by omega) (fun h_2 => ?_) (fun h_2 => absurd h_2 (by omega))
    refine lv_aload_n hx hb dX6_append_17 rfl (lv_at hl 0 rfl) ?_
    refine gf_X6_size hx hb hts hown hK hH (k := 65) (by omega) eM6 dX6_append_18 ?_
    refine m_bipush 120 hx hb dX6_append_21 (by decide) ?_
    refine m_icmp_ne 30 hx hb dX6_append_23 (by decide) (by omega) (by omega) (fun h_3 => ?_) (fun h_3 => ?_)
    · refine m_iconst 0 hx hb dX6_append_30 rfl ?_
      refine m_callVi hx hb hml hown hts hK hH hl (rest := []) cw_X6_111 (c6_ref0 hA si ac6 spo ou6 rf (by first | assumption | omega) eM6) ⟨Nat.le_of_ble_eq_true rfl, Nat.le_of_ble_eq_true rfl⟩ ⟨Nat.le_of_ble_eq_true rfl, Nat.le_of_ble_eq_true rfl⟩ rfl (k := 65) (by omega) eM6 rfl rfl (Nat.le_of_ble_eq_true rfl) dX6_append_31 (fun r_7 σ_4 H locs hp_5 hH => ?_)
      obtain ⟨rfl, eM6, hq_6⟩ := hp_5
      have e66 : σ_4 (66) = oAI cT 120 T := (hq_6 _ (by decide)).trans e66
      have hf : ∀ q : Nat, q ≠ 65 → q ≠ 66 → σ_4 q = σ q := fun q n0 n1 => (hq_6 q n0).trans (hf q n0 n1)
      refine m_if_eq 39 hx hb dX6_append_34 (by decide) (by omega) (fun h_8 => ?_) (fun h_8 => absurd h_8 (by omega))
      refine lv_aload_n hx hb dX6_append_39 rfl (lv_at hl 0 rfl) ?_
      refine gf_X6_text hx hb hts hown hK hH (k := 65) (by omega) eM6 dX6_append_40 ?_
      refine lv_aload_n hx hb dX6_append_43 rfl (lv_at hl 0 rfl) ?_
      refine gf_X6_size hx hb hts hown hK hH (k := 65) (by omega) eM6 dX6_append_44 ?_
      refine lv_iload_n hx hb dX6_append_47 rfl (lv_at hl 1 rfl) ?_
      refine m_iast hx hb hK hH hA (k := 66) (by omega) e66 (si) (by omega) (by omega) (by decide) dX6_append_48 (fun H locs σ_9 e66 hq_10 hH => ?_)
      have eM6 : σ_9 (65) = .inr (6, [.int (oI (0)), .ref (ad (66)), .int (oI (((si : Nat) : Int))), .ref (ad (67)), .ref (ad (68)), .ref (ad (69)), .int (oI (((ac6 : Nat) : Int))), .ref (ad (70)), .ref (ad (71)), .ref (ad (72)), .ref (ad (73)), .ref (ad (74)), .int (oI (((spo : Nat) : Int))), .int (oI (((ou6 : Nat) : Int)))]) := (hq_10 _ (by decide)).trans eM6
      have hf : ∀ q : Nat, q ≠ 65 → q ≠ 66 → σ_9 q = σ q := fun q n0 n1 => (hq_10 q n1).trans (hf q n0 n1)
      refine lv_aload_n hx hb dX6_append_49 rfl (lv_at hl 0 rfl) ?_
      refine lv_dup hx hb dX6_append_50 rfl ?_
      refine gf_X6_size hx hb hts hown hK hH (k := 65) (by omega) eM6 dX6_append_51 ?_
      refine m_iconst 1 hx hb dX6_append_54 rfl ?_
      refine m_iadd (((si : Nat) : Int) + 1) hx hb dX6_append_55 (by omega) ?_
      refine pf_X6_size hx hb hts hown hK hH hA (k := 65) (by omega) eM6 dX6_append_56 (fun H locs σ_11 eM6 hq_12 hH => ?_)
      have e66 : σ_11 (66) = oAI cT 120 (va_up T si c) := (hq_12 _ (by decide)).trans e66
      have hf : ∀ q : Nat, q ≠ 65 → q ≠ 66 → σ_11 q = σ q := fun q n0 n1 => (hq_12 q n0).trans (hf q n0 n1)
      refine lv_aload_n hx hb dX6_append_59 rfl (lv_at hl 0 rfl) ?_
      refine gf_X6_size hx hb hts hown hK hH (k := 65) (by omega) eM6 dX6_append_60 ?_
      exact m_iret hx hb hlk hrt hH (m_ni _) dX6_append_63 ⟨(((si : Nat) : Int) + 1), 0, (si + 1), (va_up T si c), rfl, (Or.inl ⟨by omega, by omega, rfl, rfl, rfl, rfl⟩), eM6, e66, hf⟩
    · refine m_iconst 2 hx hb dX6_append_26 rfl ?_
      refine lv_goto (tgt := 31) hx hb dX6_append_27 (by decide) ?_
      refine m_callVi hx hb hml hown hts hK hH hl (rest := []) cw_X6_111 (c6_ref1 hA 2 si ac6 spo ou6 rf (by first | assumption | omega) (by first | assumption | omega) eM6) ⟨Nat.le_of_ble_eq_true rfl, Nat.le_of_ble_eq_true rfl⟩ ⟨Nat.le_of_ble_eq_true rfl, Nat.le_of_ble_eq_true rfl⟩ rfl (k := 65) (by omega) eM6 rfl rfl (Nat.le_of_ble_eq_true rfl) dX6_append_31 (fun r_16 σ_13 H locs hp_14 hH => ?_)
      obtain ⟨rfl, eM6, hq_15⟩ := hp_14
      have e66 : σ_13 (66) = oAI cT 120 T := (hq_15 _ (by decide)).trans e66
      have hf : ∀ q : Nat, q ≠ 65 → q ≠ 66 → σ_13 q = σ q := fun q n0 n1 => (hq_15 q n0).trans (hf q n0 n1)
      refine m_if_eq 39 hx hb dX6_append_34 (by decide) (by omega) (fun h_17 => absurd h_17 (by omega)) (fun h_17 => ?_)
      refine m_iconst 0 hx hb dX6_append_37 rfl ?_
      exact m_iret hx hb hlk hrt hH (m_ni _) dX6_append_38 ⟨0, 2, si, T, rfl, (Or.inr ⟨rfl, rfl, Or.inr ⟨rfl, by omega, by omega⟩⟩), eM6, e66, hf⟩
  · refine m_if_ne 17 hx hb dX6_append_10 (by decide) (by omega) (fun h_18 => absurd h_18 (by omega)) (fun h_18 => ?_)
    refine m_iconst 1 hx hb dX6_append_13 rfl ?_
    refine lv_goto (tgt := 31) hx hb dX6_append_14 (by decide) ?_
    refine m_callVi hx hb hml hown hts hK hH hl (rest := []) cw_X6_111 (c6_ref1 hA 1 si ac6 spo ou6 rf (by first | assumption | omega) (by first | assumption | omega) eM6) ⟨Nat.le_of_ble_eq_true rfl, Nat.le_of_ble_eq_true rfl⟩ ⟨Nat.le_of_ble_eq_true rfl, Nat.le_of_ble_eq_true rfl⟩ rfl (k := 65) (by omega) eM6 rfl rfl (Nat.le_of_ble_eq_true rfl) dX6_append_31 (fun r_22 σ_19 H locs hp_20 hH => ?_)
    obtain ⟨rfl, eM6, hq_21⟩ := hp_20
    have e66 : σ_19 (66) = oAI cT 120 T := (hq_21 _ (by decide)).trans e66
    have hf : ∀ q : Nat, q ≠ 65 → q ≠ 66 → σ_19 q = σ q := fun q n0 n1 => (hq_21 q n0).trans (hf q n0 n1)
    refine m_if_eq 39 hx hb dX6_append_34 (by decide) (by omega) (fun h_23 => absurd h_23 (by omega)) (fun h_23 => ?_)
    refine m_iconst 0 hx hb dX6_append_37 rfl ?_
    exact m_iret hx hb hlk hrt hH (m_ni _) dX6_append_38 ⟨0, 1, si, T, rfl, (Or.inr ⟨rfl, rfl, Or.inl ⟨rfl, by omega⟩⟩), eM6, e66, hf⟩
set_option maxHeartbeats 4000000 in
set_option maxRecDepth 100000 in
theorem c6_fig {l : Launch} {D : va_G} {cT : Nat → ClassId} {N b0 : Nat} {ad : Nat → Nat} (hA : oAd b0 N ad) {σ : Nat → va_E} (x0 : Int) (n9 u0 lo hi : Nat) (si ac6 spo ou6 : Nat) (rf : Int) (T : Nat → Int) (hN : 76 ≤ N) (hT : ∀ i : Nat, i < si → 0 ≤ T i ∧ T i ≤ 255) (hsi : si ≤ 120) (hsp : spo ≤ 150) (hbx0 : -2147483648 ≤ x0 ∧ x0 < 2147483648) (hx0 : ¬ x0 = -1) (hu : (n9 = 1 ∧ u0 = 1) ∨ (n9 = 2 ∧ u0 = 10) ∨ (n9 = 3 ∧ u0 = 100)) (hhi : hi ≤ 150) (hlo : lo ≤ 150) (eM6 : σ (65) = .inr (6, [.int (oI (rf)), .ref (ad (66)), .int (oI (((si : Nat) : Int))), .ref (ad (67)), .ref (ad (68)), .ref (ad (69)), .int (oI (((ac6 : Nat) : Int))), .ref (ad (70)), .ref (ad (71)), .ref (ad (72)), .ref (ad (73)), .ref (ad (74)), .int (oI (((spo : Nat) : Int))), .int (oI (((ou6 : Nat) : Int)))])) (e66 : σ (66) = oAI cT 120 T) :
    oCi l D cT N ad b0 yX6_figures cX6_figures 9 (some .int) 1 25 [.ref (ad (65)), .int (oI (x0)), .int (oI (((u0 : Nat) : Int))), .int (oI (((lo : Nat) : Int))), .int (oI (((hi : Nat) : Int)))] σ (fun rr uu => ∃ v9 : Nat, ∃ p2 : Nat, ∃ fo : Int, ∃ q9 : Int, rr = oI (q9) ∧ (oNm T si lo hi n9 spo 0 = (fo, p2, v9)) ∧ (p2 ≤ spo + 3) ∧ (-1 ≤ fo ∧ fo ≤ 200) ∧ (v9 ≤ hi) ∧ ((fo = -1 ∧ q9 = (v9 : Int) ∧ lo ≤ v9) ∨ (¬ fo = -1 ∧ fo = (p2 : Int) ∧ q9 = -1)) ∧ uu (65) = .inr (6, [.int (oI (rf)), .ref (ad (66)), .int (oI (((si : Nat) : Int))), .ref (ad (67)), .ref (ad (68)), .ref (ad (69)), .int (oI (((ac6 : Nat) : Int))), .ref (ad (70)), .ref (ad (71)), .ref (ad (72)), .ref (ad (73)), .ref (ad (74)), .int (oI (((p2 : Nat) : Int))), .int (oI (((ou6 : Nat) : Int)))]) ∧ (∀ q : Nat, q ≠ 65 → uu q = σ q)) := by
  refine m_start (cc := cX6_figures) (by decide) (Nat.le_of_ble_eq_true rfl) rfl ?_
  intro Pp Ee Ss Mm Bb Me Cc Ar ls hx hb hml hown hlk hrt hts hK hH hl
  have hown : Ss.vm.findClass RX6 = some Mm.cls := hown
  have hl : lv_has ls 9 [(0, .ref (ad (65))), (1, .int (oI (x0))), (2, .int (oI (((u0 : Nat) : Int)))), (3, .int (oI (((lo : Nat) : Int)))), (4, .int (oI (((hi : Nat) : Int))))] := hl
  have hf : ∀ q : Nat, q ≠ 65 → σ q = σ q := fun q _ => rfl
  refine m_iconst 0 hx hb dX6_figures_0 rfl ?_
  refine lv_istore (lv' := [(5, .int (oI (0))), (0, .ref (ad (65))), (1, .int (oI (x0))), (2, .int (oI (((u0 : Nat) : Int)))), (3, .int (oI (((lo : Nat) : Int)))), (4, .int (oI (((hi : Nat) : Int))))]) hx hb dX6_figures_1 hl (by decide) rfl (fun ls hl => ?_)
  refine lv_iload_n hx hb dX6_figures_3 rfl (lv_at hl 3 rfl) ?_
  refine lv_istore (lv' := [(6, .int (oI (((u0 : Nat) : Int)))), (5, .int (oI (0))), (0, .ref (ad (65))), (1, .int (oI (x0))), (2, .int (oI (((u0 : Nat) : Int)))), (3, .int (oI (((lo : Nat) : Int)))), (4, .int (oI (((hi : Nat) : Int))))]) hx hb dX6_figures_4 hl (by decide) rfl (fun ls hl => ?_)
  have L6 : ∀ (fu : Nat) (v : Nat) (u : Nat) (p : Nat) (m : Nat), (m < fu) → (p + m = spo + n9) → ((m = 0 ∧ u = 0) ∨ (m = 1 ∧ u = 1) ∨ (m = 2 ∧ u = 10) ∨ (m = 3 ∧ u = 100)) → (oNm T si lo hi n9 spo 0 = oNm T si lo hi m p v) → (v ≤ hi) → (m = 0 → lo ≤ v) → (m ≤ n9) → ∀ σL6 : Nat → va_E, σL6 (65) = .inr (6, [.int (oI (rf)), .ref (ad (66)), .int (oI (((si : Nat) : Int))), .ref (ad (67)), .ref (ad (68)), .ref (ad (69)), .int (oI (((ac6 : Nat) : Int))), .ref (ad (70)), .ref (ad (71)), .ref (ad (72)), .ref (ad (73)), .ref (ad (74)), .int (oI (((p : Nat) : Int))), .int (oI (((ou6 : Nat) : Int)))]) → (∀ q : Nat, q ≠ 65 → σL6 q = σ q) → ∀ (H : Heap) (locs : List Loc), oH b0 D N ad Ss.heap σL6 H locs → ∀ ls : Array Slot, lv_has ls 9 [(0, .ref (ad (65))), (1, .int (oI (x0))), (3, .int (oI (((lo : Nat) : Int)))), (4, .int (oI (((hi : Nat) : Int)))), (5, .int (oI (((v : Nat) : Int)))), (6, .int (oI (((u : Nat) : Int))))] → W Pp l Ee { frames := 1, cells := 0, slots := 0, locals := 25 } Ss Mm Ar Bb Me Cc H locs 0 0 (MQ Bb (va_Qi (fun rr uu => ∃ v9 : Nat, ∃ p2 : Nat, ∃ fo : Int, ∃ q9 : Int, rr = oI (q9) ∧ (oNm T si lo hi n9 spo 0 = (fo, p2, v9)) ∧ (p2 ≤ spo + 3) ∧ (-1 ≤ fo ∧ fo ≤ 200) ∧ (v9 ≤ hi) ∧ ((fo = -1 ∧ q9 = (v9 : Int) ∧ lo ≤ v9) ∨ (¬ fo = -1 ∧ fo = (p2 : Int) ∧ q9 = -1)) ∧ uu (65) = .inr (6, [.int (oI (rf)), .ref (ad (66)), .int (oI (((si : Nat) : Int))), .ref (ad (67)), .ref (ad (68)), .ref (ad (69)), .int (oI (((ac6 : Nat) : Int))), .ref (ad (70)), .ref (ad (71)), .ref (ad (72)), .ref (ad (73)), .ref (ad (74)), .int (oI (((p2 : Nat) : Int))), .int (oI (((ou6 : Nat) : Int)))]) ∧ (∀ q : Nat, q ≠ 65 → uu q = σ q)) (oV D N ad) (fun q => b0 ≤ q)) Ar Ss 0 0 (fun q => b0 ≤ q)) (F0 Mm 6 ls []) := by
    intro fu6
    induction fu6 with
    | zero =>
      intro v u p m hm6
      exact absurd hm6 (Nat.not_lt_zero _)
    | succ fu6 ih6 =>
      intro v u p m hm6 hpm hm hE hv hlv hmn σL6 eM6 hL6 H locs hH ls hl
      have e66 : σL6 (66) = oAI cT 120 T := (hL6 _ (by decide)).trans e66
      have hf : ∀ q : Nat, q ≠ 65 → σL6 q = σ q := fun q n0 => (hL6 q n0).trans (hf q n0)
      refine lv_iload hx hb dX6_figures_6 (lv_at hl 5 rfl) ?_
      refine m_if_le 112 hx hb dX6_figures_8 (by decide) (by omega) (fun h_1 => ?_) (fun h_1 => ?_)
      · have hm0 : m = 0 := by omega
        subst hm0
        refine lv_iload_n hx hb dX6_figures_112 rfl (lv_at hl 1 rfl) ?_
        refine m_iconst (-1) hx hb dX6_figures_113 rfl ?_
        refine m_icmp_ne 121 hx hb dX6_figures_114 (by decide) (by omega) (by omega) (fun h_2 => ?_) (fun h_2 => absurd h_2 (by omega))
        refine lv_iload hx hb dX6_figures_121 (lv_at hl 4 rfl) ?_
        exact m_iret hx hb hlk hrt hH (m_ni _) dX6_figures_123 ⟨v, p, (-1), ((v : Nat) : Int), rfl, hE, (by omega), (by omega), hv, (Or.inl ⟨rfl, rfl, hlv rfl⟩), eM6, hf⟩
      · obtain ⟨m1, hm1⟩ : ∃ k : Nat, m = k + 1 := ⟨m - 1, by omega⟩
        subst hm1
        have hu9 : ((u : Nat) : Int) = ((10 ^ m1 : Nat) : Int) := by
              rcases hm with h | h | h | h
              · omega
              · rw [h.2, show m1 = 0 by omega]
              · rw [h.2, show m1 = 1 by omega]
              · rw [h.2, show m1 = 2 by omega]
        obtain ⟨d9, hd9⟩ : ∃ z : Int, oDg T si p = z := ⟨_, rfl⟩
        obtain ⟨pr9, hpr9⟩ : ∃ z : Int, d9 * ((u : Nat) : Int) = z := ⟨_, rfl⟩
        refine lv_iload_n hx hb dX6_figures_11 rfl (lv_at hl 1 rfl) ?_
        refine m_iconst (-1) hx hb dX6_figures_12 rfl ?_
        refine m_icmp_eq 112 hx hb dX6_figures_13 (by decide) (by omega) (by omega) (fun h_3 => absurd h_3 (by omega)) (fun h_3 => ?_)
        refine lv_aload_n hx hb dX6_figures_16 rfl (lv_at hl 0 rfl) ?_
        refine gf_X6_spot hx hb hts hown hK hH (k := 65) (by omega) eM6 dX6_figures_17 ?_
        refine lv_aload_n hx hb dX6_figures_20 rfl (lv_at hl 0 rfl) ?_
        refine gf_X6_size hx hb hts hown hK hH (k := 65) (by omega) eM6 dX6_figures_21 ?_
        refine m_icmp_ge 42 hx hb dX6_figures_24 (by decide) (by omega) (by omega) (fun h_4 => ?_) (fun h_4 => ?_)
        · have e9 : d9 = -1 := by rw [← hd9]; exact if_neg (by omega)
          have hdb9 : -48 ≤ d9 ∧ d9 ≤ 207 := by omega
          have hpb : -5000 ≤ pr9 ∧ pr9 ≤ 30000 := by
                  rw [← hpr9]
                  rcases hm with h | h | h | h <;> rw [h.2] <;> omega
          refine m_iconst (-1) hx hb dX6_figures_42 rfl ?_
          refine m_topI (d9) (by omega) ?_
          refine lv_istore (lv' := [(7, .int (oI (d9))), (0, .ref (ad (65))), (1, .int (oI (x0))), (3, .int (oI (((lo : Nat) : Int)))), (4, .int (oI (((hi : Nat) : Int)))), (5, .int (oI (((v : Nat) : Int)))), (6, .int (oI (((u : Nat) : Int))))]) hx hb dX6_figures_43 hl (by decide) rfl (fun ls hl => ?_)
          refine lv_iload hx hb dX6_figures_45 (lv_at hl 5 rfl) ?_
          refine lv_iload hx hb dX6_figures_47 (lv_at hl 0 rfl) ?_
          refine lv_iload hx hb dX6_figures_49 (lv_at hl 6 rfl) ?_
          refine m_imul (pr9) hx hb dX6_figures_51 (hpr9) ?_
          refine m_iadd (pr9 + ((v : Nat) : Int)) hx hb dX6_figures_52 (by omega) ?_
          refine lv_istore (lv' := [(8, .int (oI (pr9 + ((v : Nat) : Int)))), (7, .int (oI (d9))), (0, .ref (ad (65))), (1, .int (oI (x0))), (3, .int (oI (((lo : Nat) : Int)))), (4, .int (oI (((hi : Nat) : Int)))), (5, .int (oI (((v : Nat) : Int)))), (6, .int (oI (((u : Nat) : Int))))]) hx hb dX6_figures_53 hl (by decide) rfl (fun ls hl => ?_)
          refine lv_iload hx hb dX6_figures_55 (lv_at hl 1 rfl) ?_
          refine m_i2l hx hb dX6_figures_57 (by omega) ?_
          refine m_lconst 0 hx hb dX6_figures_58 rfl ?_
          refine lv_ldc2 (v := 9) hx hb hown (hts _ kl_X6_118) dX6_figures_59 ?_
          refine m_J2L 9 (by decide +kernel) ?_
          refine m_pSb hx hb hml hown hts hK hH hl (rest := []) cw_X6_46 rfl (c6_in hA d9 0 9 (by first | assumption | omega) (by first | assumption | omega) (by first | assumption | omega) ) ⟨Nat.le_of_ble_eq_true rfl, Nat.le_of_ble_eq_true rfl⟩ ⟨Nat.le_of_ble_eq_true rfl, Nat.le_of_ble_eq_true rfl⟩ rfl rfl (Nat.le_of_ble_eq_true rfl) dX6_figures_62 (fun hd H locs hH => ?_) (fun hd H locs hH => ?_)
          · have hpn9 : 0 ≤ pr9 := by rw [← hpr9]; exact Int.mul_nonneg (by omega) (by omega)
            refine m_if_eq 86 hx hb dX6_figures_65 (by decide) (by omega) (fun h_5 => absurd h_5 (by omega)) (fun h_5 => ?_)
            refine lv_iload hx hb dX6_figures_68 (lv_at hl 0 rfl) ?_
            refine lv_iload hx hb dX6_figures_70 (lv_at hl 5 rfl) ?_
            refine m_icmp_gt 86 hx hb dX6_figures_72 (by decide) (by omega) (by omega) (fun h_6 => ?_) (fun h_6 => ?_)
            · refine m_iconst (-1) hx hb dX6_figures_86 rfl ?_
              exact m_iret hx hb hlk hrt hH (m_ni _) dX6_figures_87 ⟨v, p, ((p : Nat) : Int), (-1), rfl, (oFg_no hE hu9 hd9 hpr9 (by omega)), (by omega), (by omega), (by omega), (Or.inr ⟨by omega, by omega, rfl⟩), eM6, hf⟩
            · refine lv_iload hx hb dX6_figures_75 (lv_at hl 0 rfl) ?_
              refine lv_iload hx hb dX6_figures_77 (lv_at hl 7 rfl) ?_
              refine m_iadd (pr9 + ((u : Nat) : Int) + ((v : Nat) : Int)) hx hb dX6_figures_79 (by omega) ?_
              refine m_iconst 1 hx hb dX6_figures_80 rfl ?_
              refine m_isub (pr9 + ((u : Nat) : Int) + ((v : Nat) : Int) - 1) hx hb dX6_figures_81 (by omega) ?_
              refine lv_iload_n hx hb dX6_figures_82 rfl (lv_at hl 4 rfl) ?_
              refine m_icmp_ge 88 hx hb dX6_figures_83 (by decide) (by omega) (by omega) (fun h_7 => ?_) (fun h_7 => ?_)
              · refine lv_iload hx hb dX6_figures_88 (lv_at hl 0 rfl) ?_
                refine m_topI (((v + pr9.toNat : Nat) : Int)) (by omega) ?_
                refine lv_istore (lv' := [(5, .int (oI (((v + pr9.toNat : Nat) : Int)))), (8, .int (oI (pr9 + ((v : Nat) : Int)))), (7, .int (oI (d9))), (0, .ref (ad (65))), (1, .int (oI (x0))), (3, .int (oI (((lo : Nat) : Int)))), (4, .int (oI (((hi : Nat) : Int)))), (6, .int (oI (((u : Nat) : Int))))]) hx hb dX6_figures_90 hl (by decide) rfl (fun ls hl => ?_)
                refine lv_aload_n hx hb dX6_figures_92 rfl (lv_at hl 3 rfl) ?_
                refine lv_dup hx hb dX6_figures_93 rfl ?_
                refine gf_X6_spot hx hb hts hown hK hH (k := 65) (by omega) eM6 dX6_figures_94 ?_
                refine m_iconst 1 hx hb dX6_figures_97 rfl ?_
                refine m_iadd (((p : Nat) : Int) + 1) hx hb dX6_figures_98 (by omega) ?_
                refine pf_X6_spot hx hb hts hown hK hH hA (k := 65) (by omega) eM6 dX6_figures_99 (fun H locs σ_8 eM6 hq_9 hH => ?_)
                have e66 : σ_8 (66) = oAI cT 120 T := (hq_9 _ (by decide)).trans e66
                have hf : ∀ q : Nat, q ≠ 65 → σ_8 q = σ q := fun q n0 => (hq_9 q n0).trans (hf q n0)
                have hL6 : ∀ q : Nat, q ≠ 65 → σ_8 q = σ q := fun q n0 => (hq_9 q n0).trans (hL6 q n0)
                refine lv_iload hx hb dX6_figures_102 (lv_at hl 7 rfl) ?_
                refine m_bipush 10 hx hb dX6_figures_104 (by decide) ?_
                refine m_idiv (((u / 10 : Nat) : Int)) hx hb dX6_figures_106 (by omega) (by omega) (by first | rfl | omega) ?_
                refine lv_istore (lv' := [(6, .int (oI (((u / 10 : Nat) : Int)))), (5, .int (oI (((v + pr9.toNat : Nat) : Int)))), (8, .int (oI (pr9 + ((v : Nat) : Int)))), (7, .int (oI (d9))), (0, .ref (ad (65))), (1, .int (oI (x0))), (3, .int (oI (((lo : Nat) : Int)))), (4, .int (oI (((hi : Nat) : Int))))]) hx hb dX6_figures_107 hl (by decide) rfl (fun ls hl => ?_)
                refine lv_goto (tgt := 6) hx hb dX6_figures_109 (by decide) ?_
                exact ih6 (v + pr9.toNat) (u / 10) (p + 1) m1 (by omega) (by first | assumption | omega) (by first | assumption | omega) (oFg_go hE hu9 hd9 hpr9 (by omega) (by omega) (by omega) (by omega)) (by first | assumption | omega) (by first | assumption | omega) (by first | assumption | omega) _ eM6 (hL6) _ _ hH ls (lv_sub hl [4, 5, 6, 7, 1, 0] rfl)
              · refine m_iconst (-1) hx hb dX6_figures_86 rfl ?_
                exact m_iret hx hb hlk hrt hH (m_ni _) dX6_figures_87 ⟨v, p, ((p : Nat) : Int), (-1), rfl, (oFg_no hE hu9 hd9 hpr9 (by omega)), (by omega), (by omega), (by omega), (Or.inr ⟨by omega, by omega, rfl⟩), eM6, hf⟩
          · refine m_if_eq 86 hx hb dX6_figures_65 (by decide) (by omega) (fun h_10 => ?_) (fun h_10 => absurd h_10 (by omega))
            refine m_iconst (-1) hx hb dX6_figures_86 rfl ?_
            exact m_iret hx hb hlk hrt hH (m_ni _) dX6_figures_87 ⟨v, p, ((p : Nat) : Int), (-1), rfl, (oFg_no hE hu9 hd9 hpr9 (by omega)), (by omega), (by omega), (by omega), (Or.inr ⟨by omega, by omega, rfl⟩), eM6, hf⟩
        · have e9 : d9 = T p - 48 := by rw [← hd9]; exact if_pos (by omega)
          have hTp := hT p (by omega)
          have hdb9 : -48 ≤ d9 ∧ d9 ≤ 207 := by omega
          have hpb : -5000 ≤ pr9 ∧ pr9 ≤ 30000 := by
                  rw [← hpr9]
                  rcases hm with h | h | h | h <;> rw [h.2] <;> omega
          refine lv_aload_n hx hb dX6_figures_27 rfl (lv_at hl 0 rfl) ?_
          refine gf_X6_text hx hb hts hown hK hH (k := 65) (by omega) eM6 dX6_figures_28 ?_
          refine lv_aload_n hx hb dX6_figures_31 rfl (lv_at hl 0 rfl) ?_
          refine gf_X6_spot hx hb hts hown hK hH (k := 65) (by omega) eM6 dX6_figures_32 ?_
          refine m_iald hx hb hK hH (k := 66) (by omega) e66 (p) (by omega) (by omega) (by decide) dX6_figures_35 ?_
          refine m_bipush 48 hx hb dX6_figures_36 (by decide) ?_
          refine m_isub ((T p) - 48) hx hb dX6_figures_38 (by omega) ?_
          refine m_topI (d9) (by omega) ?_
          refine lv_goto (tgt := 43) hx hb dX6_figures_39 (by decide) ?_
          refine lv_istore (lv' := [(7, .int (oI (d9))), (0, .ref (ad (65))), (1, .int (oI (x0))), (3, .int (oI (((lo : Nat) : Int)))), (4, .int (oI (((hi : Nat) : Int)))), (5, .int (oI (((v : Nat) : Int)))), (6, .int (oI (((u : Nat) : Int))))]) hx hb dX6_figures_43 hl (by decide) rfl (fun ls hl => ?_)
          refine lv_iload hx hb dX6_figures_45 (lv_at hl 5 rfl) ?_
          refine lv_iload hx hb dX6_figures_47 (lv_at hl 0 rfl) ?_
          refine lv_iload hx hb dX6_figures_49 (lv_at hl 6 rfl) ?_
          refine m_imul (pr9) hx hb dX6_figures_51 (hpr9) ?_
          refine m_iadd (pr9 + ((v : Nat) : Int)) hx hb dX6_figures_52 (by omega) ?_
          refine lv_istore (lv' := [(8, .int (oI (pr9 + ((v : Nat) : Int)))), (7, .int (oI (d9))), (0, .ref (ad (65))), (1, .int (oI (x0))), (3, .int (oI (((lo : Nat) : Int)))), (4, .int (oI (((hi : Nat) : Int)))), (5, .int (oI (((v : Nat) : Int)))), (6, .int (oI (((u : Nat) : Int))))]) hx hb dX6_figures_53 hl (by decide) rfl (fun ls hl => ?_)
          refine lv_iload hx hb dX6_figures_55 (lv_at hl 1 rfl) ?_
          refine m_i2l hx hb dX6_figures_57 (by omega) ?_
          refine m_lconst 0 hx hb dX6_figures_58 rfl ?_
          refine lv_ldc2 (v := 9) hx hb hown (hts _ kl_X6_118) dX6_figures_59 ?_
          refine m_J2L 9 (by decide +kernel) ?_
          refine m_pSb hx hb hml hown hts hK hH hl (rest := []) cw_X6_46 rfl (c6_in hA d9 0 9 (by first | assumption | omega) (by first | assumption | omega) (by first | assumption | omega) ) ⟨Nat.le_of_ble_eq_true rfl, Nat.le_of_ble_eq_true rfl⟩ ⟨Nat.le_of_ble_eq_true rfl, Nat.le_of_ble_eq_true rfl⟩ rfl rfl (Nat.le_of_ble_eq_true rfl) dX6_figures_62 (fun hd H locs hH => ?_) (fun hd H locs hH => ?_)
          · have hpn9 : 0 ≤ pr9 := by rw [← hpr9]; exact Int.mul_nonneg (by omega) (by omega)
            refine m_if_eq 86 hx hb dX6_figures_65 (by decide) (by omega) (fun h_11 => absurd h_11 (by omega)) (fun h_11 => ?_)
            refine lv_iload hx hb dX6_figures_68 (lv_at hl 0 rfl) ?_
            refine lv_iload hx hb dX6_figures_70 (lv_at hl 5 rfl) ?_
            refine m_icmp_gt 86 hx hb dX6_figures_72 (by decide) (by omega) (by omega) (fun h_12 => ?_) (fun h_12 => ?_)
            · refine m_iconst (-1) hx hb dX6_figures_86 rfl ?_
              exact m_iret hx hb hlk hrt hH (m_ni _) dX6_figures_87 ⟨v, p, ((p : Nat) : Int), (-1), rfl, (oFg_no hE hu9 hd9 hpr9 (by omega)), (by omega), (by omega), (by omega), (Or.inr ⟨by omega, by omega, rfl⟩), eM6, hf⟩
            · refine lv_iload hx hb dX6_figures_75 (lv_at hl 0 rfl) ?_
              refine lv_iload hx hb dX6_figures_77 (lv_at hl 7 rfl) ?_
              refine m_iadd (pr9 + ((u : Nat) : Int) + ((v : Nat) : Int)) hx hb dX6_figures_79 (by omega) ?_
              refine m_iconst 1 hx hb dX6_figures_80 rfl ?_
              refine m_isub (pr9 + ((u : Nat) : Int) + ((v : Nat) : Int) - 1) hx hb dX6_figures_81 (by omega) ?_
              refine lv_iload_n hx hb dX6_figures_82 rfl (lv_at hl 4 rfl) ?_
              refine m_icmp_ge 88 hx hb dX6_figures_83 (by decide) (by omega) (by omega) (fun h_13 => ?_) (fun h_13 => ?_)
              · refine lv_iload hx hb dX6_figures_88 (lv_at hl 0 rfl) ?_
                refine m_topI (((v + pr9.toNat : Nat) : Int)) (by omega) ?_
                refine lv_istore (lv' := [(5, .int (oI (((v + pr9.toNat : Nat) : Int)))), (8, .int (oI (pr9 + ((v : Nat) : Int)))), (7, .int (oI (d9))), (0, .ref (ad (65))), (1, .int (oI (x0))), (3, .int (oI (((lo : Nat) : Int)))), (4, .int (oI (((hi : Nat) : Int)))), (6, .int (oI (((u : Nat) : Int))))]) hx hb dX6_figures_90 hl (by decide) rfl (fun ls hl => ?_)
                refine lv_aload_n hx hb dX6_figures_92 rfl (lv_at hl 3 rfl) ?_
                refine lv_dup hx hb dX6_figures_93 rfl ?_
                refine gf_X6_spot hx hb hts hown hK hH (k := 65) (by omega) eM6 dX6_figures_94 ?_
                refine m_iconst 1 hx hb dX6_figures_97 rfl ?_
                refine m_iadd (((p : Nat) : Int) + 1) hx hb dX6_figures_98 (by omega) ?_
                refine pf_X6_spot hx hb hts hown hK hH hA (k := 65) (by omega) eM6 dX6_figures_99 (fun H locs σ_14 eM6 hq_15 hH => ?_)
                have e66 : σ_14 (66) = oAI cT 120 T := (hq_15 _ (by decide)).trans e66
                have hf : ∀ q : Nat, q ≠ 65 → σ_14 q = σ q := fun q n0 => (hq_15 q n0).trans (hf q n0)
                have hL6 : ∀ q : Nat, q ≠ 65 → σ_14 q = σ q := fun q n0 => (hq_15 q n0).trans (hL6 q n0)
                refine lv_iload hx hb dX6_figures_102 (lv_at hl 7 rfl) ?_
                refine m_bipush 10 hx hb dX6_figures_104 (by decide) ?_
                refine m_idiv (((u / 10 : Nat) : Int)) hx hb dX6_figures_106 (by omega) (by omega) (by first | rfl | omega) ?_
                refine lv_istore (lv' := [(6, .int (oI (((u / 10 : Nat) : Int)))), (5, .int (oI (((v + pr9.toNat : Nat) : Int)))), (8, .int (oI (pr9 + ((v : Nat) : Int)))), (7, .int (oI (d9))), (0, .ref (ad (65))), (1, .int (oI (x0))), (3, .int (oI (((lo : Nat) : Int)))), (4, .int (oI (((hi : Nat) : Int))))]) hx hb dX6_figures_107 hl (by decide) rfl (fun ls hl => ?_)
                refine lv_goto (tgt := 6) hx hb dX6_figures_109 (by decide) ?_
                exact ih6 (v + pr9.toNat) (u / 10) (p + 1) m1 (by omega) (by first | assumption | omega) (by first | assumption | omega) (oFg_go hE hu9 hd9 hpr9 (by omega) (by omega) (by omega) (by omega)) (by first | assumption | omega) (by first | assumption | omega) (by first | assumption | omega) _ eM6 (hL6) _ _ hH ls (lv_sub hl [4, 5, 6, 7, 1, 0] rfl)
              · refine m_iconst (-1) hx hb dX6_figures_86 rfl ?_
                exact m_iret hx hb hlk hrt hH (m_ni _) dX6_figures_87 ⟨v, p, ((p : Nat) : Int), (-1), rfl, (oFg_no hE hu9 hd9 hpr9 (by omega)), (by omega), (by omega), (by omega), (Or.inr ⟨by omega, by omega, rfl⟩), eM6, hf⟩
          · refine m_if_eq 86 hx hb dX6_figures_65 (by decide) (by omega) (fun h_16 => ?_) (fun h_16 => absurd h_16 (by omega))
            refine m_iconst (-1) hx hb dX6_figures_86 rfl ?_
            exact m_iret hx hb hlk hrt hH (m_ni _) dX6_figures_87 ⟨v, p, ((p : Nat) : Int), (-1), rfl, (oFg_no hE hu9 hd9 hpr9 (by omega)), (by omega), (by omega), (by omega), (Or.inr ⟨by omega, by omega, rfl⟩), eM6, hf⟩
  exact L6 _ 0 u0 spo n9 (Nat.lt_succ_self _) (by first | assumption | omega) (by first | assumption | omega) (rfl) (by first | assumption | omega) (by first | assumption | omega) (by first | assumption | omega) _ eM6 (fun q _ => rfl) _ _ hH ls (lv_sub hl [2, 3, 5, 6, 1, 0] rfl)
set_option maxHeartbeats 4000000 in
set_option maxRecDepth 100000 in
theorem c6_fig0 {l : Launch} {D : va_G} {cT : Nat → ClassId} {N b0 : Nat} {ad : Nat → Nat} (hA : oAd b0 N ad) {σ : Nat → va_E} (x0 : Int) (u0 lo hi : Nat) (si ac6 spo ou6 : Nat) (rf : Int) (hN : 76 ≤ N) (hx0 : x0 = -1) (hu : 1 ≤ u0 ∧ u0 ≤ 100) (eM6 : σ (65) = .inr (6, [.int (oI (rf)), .ref (ad (66)), .int (oI (((si : Nat) : Int))), .ref (ad (67)), .ref (ad (68)), .ref (ad (69)), .int (oI (((ac6 : Nat) : Int))), .ref (ad (70)), .ref (ad (71)), .ref (ad (72)), .ref (ad (73)), .ref (ad (74)), .int (oI (((spo : Nat) : Int))), .int (oI (((ou6 : Nat) : Int)))])) :
    oCi l D cT N ad b0 yX6_figures cX6_figures 9 (some .int) 1 25 [.ref (ad (65)), .int (oI (x0)), .int (oI (((u0 : Nat) : Int))), .int (oI (((lo : Nat) : Int))), .int (oI (((hi : Nat) : Int)))] σ (fun rr uu => rr = oI ((-1)) ∧ uu = σ) := by
  refine m_start (cc := cX6_figures) (by decide) (Nat.le_of_ble_eq_true rfl) rfl ?_
  intro Pp Ee Ss Mm Bb Me Cc Ar ls hx hb hml hown hlk hrt hts hK hH hl
  have hown : Ss.vm.findClass RX6 = some Mm.cls := hown
  have hl : lv_has ls 9 [(0, .ref (ad (65))), (1, .int (oI (x0))), (2, .int (oI (((u0 : Nat) : Int)))), (3, .int (oI (((lo : Nat) : Int)))), (4, .int (oI (((hi : Nat) : Int))))] := hl
  refine m_iconst 0 hx hb dX6_figures_0 rfl ?_
  refine lv_istore (lv' := [(5, .int (oI (0))), (0, .ref (ad (65))), (1, .int (oI (x0))), (2, .int (oI (((u0 : Nat) : Int)))), (3, .int (oI (((lo : Nat) : Int)))), (4, .int (oI (((hi : Nat) : Int))))]) hx hb dX6_figures_1 hl (by decide) rfl (fun ls hl => ?_)
  refine lv_iload_n hx hb dX6_figures_3 rfl (lv_at hl 3 rfl) ?_
  refine lv_istore (lv' := [(6, .int (oI (((u0 : Nat) : Int)))), (5, .int (oI (0))), (0, .ref (ad (65))), (1, .int (oI (x0))), (2, .int (oI (((u0 : Nat) : Int)))), (3, .int (oI (((lo : Nat) : Int)))), (4, .int (oI (((hi : Nat) : Int))))]) hx hb dX6_figures_4 hl (by decide) rfl (fun ls hl => ?_)
  refine lv_iload hx hb dX6_figures_6 (lv_at hl 0 rfl) ?_
  refine m_if_le 112 hx hb dX6_figures_8 (by decide) (by omega) (fun h_1 => absurd h_1 (by omega)) (fun h_1 => ?_)
  refine lv_iload_n hx hb dX6_figures_11 rfl (lv_at hl 3 rfl) ?_
  refine m_iconst (-1) hx hb dX6_figures_12 rfl ?_
  refine m_icmp_eq 112 hx hb dX6_figures_13 (by decide) (by omega) (by omega) (fun h_2 => ?_) (fun h_2 => absurd h_2 (by omega))
  refine lv_iload_n hx hb dX6_figures_112 rfl (lv_at hl 3 rfl) ?_
  refine m_iconst (-1) hx hb dX6_figures_113 rfl ?_
  refine m_icmp_ne 121 hx hb dX6_figures_114 (by decide) (by omega) (by omega) (fun h_3 => absurd h_3 (by omega)) (fun h_3 => ?_)
  refine m_iconst (-1) hx hb dX6_figures_117 rfl ?_
  refine lv_goto (tgt := 123) hx hb dX6_figures_118 (by decide) ?_
  exact m_iret hx hb hlk hrt hH (m_ni _) dX6_figures_123 ⟨rfl, rfl⟩
