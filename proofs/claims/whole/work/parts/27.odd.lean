noncomputable def oLw (sp t mo : Nat) : Int := if t ≤ 200 ∧ 0 ≤ oDist sp 0 t ∧ oDist sp 0 t ≤ (mo : Int) then 1 else 0
def oMk (n : Nat) (sz w : Nat → Nat) (r p on : Int) : Int := @ite _ (((0 ≤ r ∧ r < (n : Int)) ∧ 0 ≤ p ∧ p ≤ (oSize n sz r : Int)) ∧ ((0 ≤ p ∧ p < 64 ∧ (oRow n w r).testBit p.toNat = true) ↔ on = 1)) (by exact inferInstance) 1 0
def oDv (x k : Nat) : Nat := x / k
def oMd (x k : Nat) : Nat := x % k
theorem oMd_lt (x : Nat) {k : Nat} (h : 0 < k) : oMd x k < k := Nat.mod_lt x h
theorem oDv_i (x k : Nat) : ((x : Nat) : Int) / ((k : Nat) : Int) = ((oDv x k : Nat) : Int) := rfl
theorem oMd_i (x k : Nat) : ((x : Nat) : Int) % ((k : Nat) : Int) = ((oMd x k : Nat) : Int) := rfl
def oTuA (r : Nat) : Int × Int × Int × Int :=
  if oMd r 8 = 0 then (1, ((oMd (oDv r 8) 39 : Nat) : Int) + 2, 0, 0)
  else if oMd r 8 = 5 then (3, ((oMd (oDv r 8) 4 : Nat) : Int), ((oMd (oDv (oDv r 8) 4) 39 : Nat) : Int) + 2, 0)
  else if oMd r 8 = 6 then (4, ((oMd (oDv r 8) 4 : Nat) : Int), 0, 0)
  else if oMd r 8 = 7 then (if oMd (oDv (oDv r 8) 8) 2 = 0 then (5, 0, ((oMd (oDv r 8) 6 : Nat) : Int) + 1, 0) else (5, 1, ((oMd (oDv (oDv r 8) 16) 141 : Nat) : Int) + 10, 0))
  else (2, ((oMd (oDv r 8) 4 : Nat) : Int), ((oMd (oDv (oDv r 8) 4) 41 : Nat) : Int), if oMd (oDv (oDv r 8) 256) 4 = 0 then 0 else 1)
noncomputable def oGrp (x n a g : Nat) (sz w : Nat → Nat) : Int × Nat × Nat × Nat × (Nat → Nat) × (Nat → Nat) :=
  if oDv x 100000 = 1 then (if oMd (oDv x 100) 1000 = 0 then oAtt 1 (oMd x 100 : Nat) 0 0 n a g sz w else (0, n, a, g, sz, w))
  else if oDv x 100000 = 2 then (if oMd (oDv x 10) 10 = 0 ∧ oMd x 10 ≤ 1 then oAtt 2 (oMd (oDv x 10000) 10 : Nat) (oMd (oDv x 100) 100 : Nat) (if oMd x 10 = 1 then 1 else 0) n a g sz w else (0, n, a, g, sz, w))
  else if oDv x 100000 = 3 then (if oMd (oDv x 100) 100 = 0 then oAtt 3 (oMd (oDv x 10000) 10 : Nat) (oMd x 100 : Nat) 0 n a g sz w else (0, n, a, g, sz, w))
  else if oDv x 100000 = 4 then (if oMd x 10000 = 0 then oAtt 4 (oMd (oDv x 10000) 10 : Nat) 0 0 n a g sz w else (0, n, a, g, sz, w))
  else if oDv x 100000 = 5 then (if oMd (oDv x 1000) 10 = 0 then oAtt 5 (oMd (oDv x 10000) 10 : Nat) (oMd x 1000 : Nat) 0 n a g sz w else (0, n, a, g, sz, w))
  else if oDv x 100000 = 6 then (if oMd (oDv x 10000) 10 = 0 then oLw (oOrW n w (-1) 4) (oMd (oDv x 10) 1000) (oMd x 10) else 0, n, a, g, sz, w)
  else if oDv x 100000 = 7 then (if oMd (oDv x 1000) 100 = 0 ∧ oMd x 1000 ≤ oCnt (oOrW n w (-1) 4) a g then 1 else 0, n, a, g, sz, w)
  else if oDv x 100000 = 8 then (if oMd (oDv x 10) 10 = 0 ∧ oMd x 10 ≤ 1 then oMk n sz w (oMd (oDv x 10000) 10 : Nat) (oMd (oDv x 100) 100 : Nat) (if oMd x 10 = 1 then 1 else 0) else 0, n, a, g, sz, w)
  else if oDv x 100000 = 9 then (if oMd (oDv x 100) 1000 = 0 ∧ oGaps (oOrW n w (-1) 4) a g ≤ oMd x 100 then 1 else 0, n, a, g, sz, w)
  else (0, n, a, g, sz, w)
theorem oLw_b (sp t mo : Nat) : oLw sp t mo = 0 ∨ oLw sp t mo = 1 := by unfold oLw; split <;> omega
theorem oMk_b (n : Nat) (sz w : Nat → Nat) (r p on : Int) : oMk n sz w r p on = 0 ∨ oMk n sz w r p on = 1 := by unfold oMk; split <;> omega
set_option maxHeartbeats 4000000 in
set_option maxRecDepth 100000 in
theorem c5_laidLengths {l : Launch} {D : va_G} {cT : Nat → ClassId} {N b0 : Nat} {ad : Nat → Nat} (hA : oAd b0 N ad) {σ : Nat → va_E} (j n a g : Nat) (sz w : Nat → Nat) (ld : Nat) (wr gr : Nat → Nat) (ff sf : Int) (hN : 76 ≤ N) (hj3 : 1 ≤ j ∧ j + 2 ≤ 12) (hwf : oWf n sz w) (hag : oAg a g) (eO : σ (0) = .inr (5, [.ref (ad (1)), .ref (ad (4)), .ref (ad (7)), .ref (ad (10)), .int (oI (ff)), .int (oI (sf)), .ref (ad (13)), .ref (ad (57)), .ref (ad (59)), .ref (ad (64))])) (e0 : σ (j) = .inr (4, [.ref (ad (j + 1)), .ref (ad (j + 2)), .int (oI (((n : Nat) : Int))), .int (oI (((a : Nat) : Int))), .int (oI (((g : Nat) : Int)))])) (e1 : σ (j + 1) = oAN cT 4 sz) (e2 : σ (j + 2) = oAJ cT 4 w) (e59 : σ (59) = .inr (3, [.ref (ad (60)), .ref (ad (61)), .int (oI (((ld : Nat) : Int))), .ref (ad (62)), .ref (ad (63))])) (e62 : σ (62) = oAJ cT 4 wr) (e63 : σ (63) = oAJ cT 4 gr) :
    oCi l D cT N ad b0 yX5_laidLengths cX5_laidLengths 2 (some .int) 4 94 [.ref (ad (0)), .ref (ad (j))] σ (fun rr uu => ∃ w2 : Nat → Nat, ∃ gr2 : Nat → Nat, rr = oI (((oCnt (oOrW n w (-1) 4) a g : Nat) : Int)) ∧ (oXw (oOrW n w (-1) 4) a w2) ∧ uu (62) = oAJ cT 4 w2 ∧ uu (63) = oAJ cT 4 gr2 ∧ (∀ q : Nat, q ≠ 62 → q ≠ 63 → uu q = σ q)) := by
  refine m_start (cc := cX5_laidLengths) (by decide) (Nat.le_of_ble_eq_true rfl) rfl ?_
  intro Pp Ee Ss Mm Bb Me Cc Ar ls hx hb hml hown hlk hrt hts hK hH hl
  have hown : Ss.vm.findClass RX5 = some Mm.cls := hown
  have hj : j + 2 < N := by omega
  have hs64 := oOrW_64 n w (-1) 4
  have ha6 := hag.1
  have hg150 := hag.2
  have hl : lv_has ls 2 [(0, .ref (ad (0))), (1, .ref (ad (j)))] := hl
  have hf : ∀ q : Nat, q ≠ 62 → q ≠ 63 → σ q = σ q := fun q _ _ => rfl
  refine lv_aload_n hx hb dX5_laidLengths_0 rfl (lv_at hl 0 rfl) ?_
  refine gf_X5_reach hx hb hts hown hK hH (k := 0) (by omega) eO dX5_laidLengths_1 ?_
  refine lv_aload_n hx hb dX5_laidLengths_4 rfl (lv_at hl 1 rfl) ?_
  refine m_pVi hx hb hml hown hts hK hH hl (rest := [.ref (ad (59))]) cw_X5_126 (c4_allowed hA j n a g sz w (by first | assumption | omega) e0 e1 e2) ⟨Nat.le_of_ble_eq_true rfl, Nat.le_of_ble_eq_true rfl⟩ ⟨Nat.le_of_ble_eq_true rfl, Nat.le_of_ble_eq_true rfl⟩ rfl (k := j) (by omega) e0 rfl rfl (Nat.le_of_ble_eq_true rfl) dX5_laidLengths_5 (fun H locs hH => ?_)
  refine lv_aload_n hx hb dX5_laidLengths_8 rfl (lv_at hl 1 rfl) ?_
  refine m_pVn hx hb hml hown hts hK hH hl (rest := [.int (oI (((a : Nat) : Int))), .ref (ad (59))]) cw_X5_107 (c4_spread hA j n a g sz w (by first | assumption | omega) (by first | assumption | omega) e0 e1 e2) ⟨Nat.le_of_ble_eq_true rfl, Nat.le_of_ble_eq_true rfl⟩ ⟨Nat.le_of_ble_eq_true rfl, Nat.le_of_ble_eq_true rfl⟩ rfl (k := j) (by omega) e0 rfl rfl (Nat.le_of_ble_eq_true rfl) dX5_laidLengths_9 (fun H locs hH => ?_)
  refine m_callVv hx hb hml hown hts hK hH hl (rest := []) cw_X5_283 (c3_layAtMost hA a (oOrW n w (-1) 4) ld wr gr (by first | assumption | omega) (by first | assumption | omega) (by first | assumption | omega) e59 e62 e63) ⟨Nat.le_of_ble_eq_true rfl, Nat.le_of_ble_eq_true rfl⟩ ⟨Nat.le_of_ble_eq_true rfl, Nat.le_of_ble_eq_true rfl⟩ rfl (k := 59) (by omega) e59 rfl rfl (Nat.le_of_ble_eq_true rfl) dX5_laidLengths_12 (fun σ_1 H locs hp_2 hH => ?_)
  obtain ⟨w2, gr2, hX, e62, e63, hq_3⟩ := hp_2
  have eO : σ_1 (0) = .inr (5, [.ref (ad (1)), .ref (ad (4)), .ref (ad (7)), .ref (ad (10)), .int (oI (ff)), .int (oI (sf)), .ref (ad (13)), .ref (ad (57)), .ref (ad (59)), .ref (ad (64))]) := (hq_3 _ (by decide) (by decide)).trans eO
  have e0 : σ_1 (j) = .inr (4, [.ref (ad (j + 1)), .ref (ad (j + 2)), .int (oI (((n : Nat) : Int))), .int (oI (((a : Nat) : Int))), .int (oI (((g : Nat) : Int)))]) := (hq_3 _ (by omega) (by omega)).trans e0
  have e1 : σ_1 (j + 1) = oAN cT 4 sz := (hq_3 _ (by omega) (by omega)).trans e1
  have e2 : σ_1 (j + 2) = oAJ cT 4 w := (hq_3 _ (by omega) (by omega)).trans e2
  have e59 : σ_1 (59) = .inr (3, [.ref (ad (60)), .ref (ad (61)), .int (oI (((ld : Nat) : Int))), .ref (ad (62)), .ref (ad (63))]) := (hq_3 _ (by decide) (by decide)).trans e59
  have hf : ∀ q : Nat, q ≠ 62 → q ≠ 63 → σ_1 q = σ q := fun q n0 n1 => (hq_3 q n0 n1).trans (hf q n0 n1)
  refine lv_aload_n hx hb dX5_laidLengths_15 rfl (lv_at hl 0 rfl) ?_
  refine gf_X5_reach hx hb hts hown hK hH (k := 0) (by omega) eO dX5_laidLengths_16 ?_
  refine lv_aload_n hx hb dX5_laidLengths_19 rfl (lv_at hl 1 rfl) ?_
  refine m_pVi hx hb hml hown hts hK hH hl (rest := [.ref (ad (59))]) cw_X5_129 (c4_range hA j n a g sz w (by first | assumption | omega) e0 e1 e2) ⟨Nat.le_of_ble_eq_true rfl, Nat.le_of_ble_eq_true rfl⟩ ⟨Nat.le_of_ble_eq_true rfl, Nat.le_of_ble_eq_true rfl⟩ rfl (k := j) (by omega) e0 rfl rfl (Nat.le_of_ble_eq_true rfl) dX5_laidLengths_20 (fun H locs hH => ?_)
  refine m_pVi hx hb hml hown hts hK hH hl (rest := []) cw_X5_286 (c3_countLaid hA g (oOrW n w (-1) 4) a ld w2 gr2 (by first | assumption | omega) (by first | assumption | omega) (by first | assumption | omega) e59 e62 e63) ⟨Nat.le_of_ble_eq_true rfl, Nat.le_of_ble_eq_true rfl⟩ ⟨Nat.le_of_ble_eq_true rfl, Nat.le_of_ble_eq_true rfl⟩ rfl (k := 59) (by omega) e59 rfl rfl (Nat.le_of_ble_eq_true rfl) dX5_laidLengths_23 (fun H locs hH => ?_)
  exact m_iret hx hb hlk hrt hH (m_ni _) dX5_laidLengths_26 ⟨w2, gr2, rfl, hX, e62, e63, hf⟩
set_option maxHeartbeats 4000000 in
set_option maxRecDepth 100000 in
theorem c5_gaps {l : Launch} {D : va_G} {cT : Nat → ClassId} {N b0 : Nat} {ad : Nat → Nat} (hA : oAd b0 N ad) {σ : Nat → va_E} (j n a g : Nat) (sz w : Nat → Nat) (ld : Nat) (wr gr : Nat → Nat) (ff sf : Int) (hN : 76 ≤ N) (hj3 : 1 ≤ j ∧ j + 2 ≤ 12) (hwf : oWf n sz w) (hag : oAg a g) (eO : σ (0) = .inr (5, [.ref (ad (1)), .ref (ad (4)), .ref (ad (7)), .ref (ad (10)), .int (oI (ff)), .int (oI (sf)), .ref (ad (13)), .ref (ad (57)), .ref (ad (59)), .ref (ad (64))])) (e0 : σ (j) = .inr (4, [.ref (ad (j + 1)), .ref (ad (j + 2)), .int (oI (((n : Nat) : Int))), .int (oI (((a : Nat) : Int))), .int (oI (((g : Nat) : Int)))])) (e1 : σ (j + 1) = oAN cT 4 sz) (e2 : σ (j + 2) = oAJ cT 4 w) (e59 : σ (59) = .inr (3, [.ref (ad (60)), .ref (ad (61)), .int (oI (((ld : Nat) : Int))), .ref (ad (62)), .ref (ad (63))])) (e62 : σ (62) = oAJ cT 4 wr) (e63 : σ (63) = oAJ cT 4 gr) :
    oCi l D cT N ad b0 yX5_gaps cX5_gaps 2 (some .int) 4 94 [.ref (ad (0)), .ref (ad (j))] σ (fun rr uu => ∃ w2 : Nat → Nat, ∃ gr2 : Nat → Nat, rr = oI (((oGaps (oOrW n w (-1) 4) a g : Nat) : Int)) ∧ (oXw (oOrW n w (-1) 4) a w2) ∧ uu (62) = oAJ cT 4 w2 ∧ uu (63) = oAJ cT 4 gr2 ∧ (∀ q : Nat, q ≠ 62 → q ≠ 63 → uu q = σ q)) := by
  refine m_start (cc := cX5_gaps) (by decide) (Nat.le_of_ble_eq_true rfl) rfl ?_
  intro Pp Ee Ss Mm Bb Me Cc Ar ls hx hb hml hown hlk hrt hts hK hH hl
  have hown : Ss.vm.findClass RX5 = some Mm.cls := hown
  have hj : j + 2 < N := by omega
  have hs64 := oOrW_64 n w (-1) 4
  have ha6 := hag.1
  have hg150 := hag.2
  have hl : lv_has ls 2 [(0, .ref (ad (0))), (1, .ref (ad (j)))] := hl
  have hf : ∀ q : Nat, q ≠ 62 → q ≠ 63 → σ q = σ q := fun q _ _ => rfl
  refine lv_aload_n hx hb dX5_gaps_0 rfl (lv_at hl 0 rfl) ?_
  refine gf_X5_reach hx hb hts hown hK hH (k := 0) (by omega) eO dX5_gaps_1 ?_
  refine lv_aload_n hx hb dX5_gaps_4 rfl (lv_at hl 1 rfl) ?_
  refine m_pVi hx hb hml hown hts hK hH hl (rest := [.ref (ad (59))]) cw_X5_126 (c4_allowed hA j n a g sz w (by first | assumption | omega) e0 e1 e2) ⟨Nat.le_of_ble_eq_true rfl, Nat.le_of_ble_eq_true rfl⟩ ⟨Nat.le_of_ble_eq_true rfl, Nat.le_of_ble_eq_true rfl⟩ rfl (k := j) (by omega) e0 rfl rfl (Nat.le_of_ble_eq_true rfl) dX5_gaps_5 (fun H locs hH => ?_)
  refine lv_aload_n hx hb dX5_gaps_8 rfl (lv_at hl 1 rfl) ?_
  refine m_pVn hx hb hml hown hts hK hH hl (rest := [.int (oI (((a : Nat) : Int))), .ref (ad (59))]) cw_X5_107 (c4_spread hA j n a g sz w (by first | assumption | omega) (by first | assumption | omega) e0 e1 e2) ⟨Nat.le_of_ble_eq_true rfl, Nat.le_of_ble_eq_true rfl⟩ ⟨Nat.le_of_ble_eq_true rfl, Nat.le_of_ble_eq_true rfl⟩ rfl (k := j) (by omega) e0 rfl rfl (Nat.le_of_ble_eq_true rfl) dX5_gaps_9 (fun H locs hH => ?_)
  refine m_callVv hx hb hml hown hts hK hH hl (rest := []) cw_X5_283 (c3_layAtMost hA a (oOrW n w (-1) 4) ld wr gr (by first | assumption | omega) (by first | assumption | omega) (by first | assumption | omega) e59 e62 e63) ⟨Nat.le_of_ble_eq_true rfl, Nat.le_of_ble_eq_true rfl⟩ ⟨Nat.le_of_ble_eq_true rfl, Nat.le_of_ble_eq_true rfl⟩ rfl (k := 59) (by omega) e59 rfl rfl (Nat.le_of_ble_eq_true rfl) dX5_gaps_12 (fun σ_1 H locs hp_2 hH => ?_)
  obtain ⟨w2, gr2, hX, e62, e63, hq_3⟩ := hp_2
  have eO : σ_1 (0) = .inr (5, [.ref (ad (1)), .ref (ad (4)), .ref (ad (7)), .ref (ad (10)), .int (oI (ff)), .int (oI (sf)), .ref (ad (13)), .ref (ad (57)), .ref (ad (59)), .ref (ad (64))]) := (hq_3 _ (by decide) (by decide)).trans eO
  have e0 : σ_1 (j) = .inr (4, [.ref (ad (j + 1)), .ref (ad (j + 2)), .int (oI (((n : Nat) : Int))), .int (oI (((a : Nat) : Int))), .int (oI (((g : Nat) : Int)))]) := (hq_3 _ (by omega) (by omega)).trans e0
  have e1 : σ_1 (j + 1) = oAN cT 4 sz := (hq_3 _ (by omega) (by omega)).trans e1
  have e2 : σ_1 (j + 2) = oAJ cT 4 w := (hq_3 _ (by omega) (by omega)).trans e2
  have e59 : σ_1 (59) = .inr (3, [.ref (ad (60)), .ref (ad (61)), .int (oI (((ld : Nat) : Int))), .ref (ad (62)), .ref (ad (63))]) := (hq_3 _ (by decide) (by decide)).trans e59
  have hf : ∀ q : Nat, q ≠ 62 → q ≠ 63 → σ_1 q = σ q := fun q n0 n1 => (hq_3 q n0 n1).trans (hf q n0 n1)
  refine lv_aload_n hx hb dX5_gaps_15 rfl (lv_at hl 0 rfl) ?_
  refine gf_X5_reach hx hb hts hown hK hH (k := 0) (by omega) eO dX5_gaps_16 ?_
  refine lv_aload_n hx hb dX5_gaps_19 rfl (lv_at hl 1 rfl) ?_
  refine m_pVi hx hb hml hown hts hK hH hl (rest := [.ref (ad (59))]) cw_X5_129 (c4_range hA j n a g sz w (by first | assumption | omega) e0 e1 e2) ⟨Nat.le_of_ble_eq_true rfl, Nat.le_of_ble_eq_true rfl⟩ ⟨Nat.le_of_ble_eq_true rfl, Nat.le_of_ble_eq_true rfl⟩ rfl (k := j) (by omega) e0 rfl rfl (Nat.le_of_ble_eq_true rfl) dX5_gaps_20 (fun H locs hH => ?_)
  refine m_pVi hx hb hml hown hts hK hH hl (rest := []) cw_X5_289 (c3_countGaps hA g (oOrW n w (-1) 4) a ld w2 gr2 (by first | assumption | omega) (by first | assumption | omega) (by first | assumption | omega) e59 e62 e63) ⟨Nat.le_of_ble_eq_true rfl, Nat.le_of_ble_eq_true rfl⟩ ⟨Nat.le_of_ble_eq_true rfl, Nat.le_of_ble_eq_true rfl⟩ rfl (k := 59) (by omega) e59 rfl rfl (Nat.le_of_ble_eq_true rfl) dX5_gaps_23 (fun H locs hH => ?_)
  exact m_iret hx hb hlk hrt hH (m_ni _) dX5_gaps_26 ⟨w2, gr2, rfl, hX, e62, e63, hf⟩
set_option maxHeartbeats 4000000 in
set_option maxRecDepth 100000 in
theorem c5_laidBy {l : Launch} {D : va_G} {cT : Nat → ClassId} {N b0 : Nat} {ad : Nat → Nat} (hA : oAd b0 N ad) {σ : Nat → va_E} (sp n a g : Nat) (sz w : Nat → Nat) (ld : Nat) (wr gr : Nat → Nat) (ff sf : Int) (hN : 76 ≤ N) (hag : oAg a g) (hsp : sp < 2 ^ 64) (eO : σ (0) = .inr (5, [.ref (ad (1)), .ref (ad (4)), .ref (ad (7)), .ref (ad (10)), .int (oI (ff)), .int (oI (sf)), .ref (ad (13)), .ref (ad (57)), .ref (ad (59)), .ref (ad (64))])) (e0 : σ (1) = .inr (4, [.ref (ad (2)), .ref (ad (3)), .int (oI (((n : Nat) : Int))), .int (oI (((a : Nat) : Int))), .int (oI (((g : Nat) : Int)))])) (e1 : σ (2) = oAN cT 4 sz) (e2 : σ (3) = oAJ cT 4 w) (e59 : σ (59) = .inr (3, [.ref (ad (60)), .ref (ad (61)), .int (oI (((ld : Nat) : Int))), .ref (ad (62)), .ref (ad (63))])) (e62 : σ (62) = oAJ cT 4 wr) (e63 : σ (63) = oAJ cT 4 gr) :
    oCi l D cT N ad b0 yX5_laidBy cX5_laidBy 3 (some .int) 4 94 [.ref (ad (0)), .long (lN (sp))] σ (fun rr uu => ∃ w2 : Nat → Nat, ∃ gr2 : Nat → Nat, rr = oI (((oCnt sp a g : Nat) : Int)) ∧ uu (62) = oAJ cT 4 w2 ∧ uu (63) = oAJ cT 4 gr2 ∧ (∀ q : Nat, q ≠ 62 → q ≠ 63 → uu q = σ q)) := by
  refine m_start (cc := cX5_laidBy) (by decide) (Nat.le_of_ble_eq_true rfl) rfl ?_
  intro Pp Ee Ss Mm Bb Me Cc Ar ls hx hb hml hown hlk hrt hts hK hH hl
  have hown : Ss.vm.findClass RX5 = some Mm.cls := hown
  have ha6 := hag.1
  have hg150 := hag.2
  have hl : lv_has ls 3 [(0, .ref (ad (0))), (1, .long (lN (sp)))] := hl
  have hf : ∀ q : Nat, q ≠ 62 → q ≠ 63 → σ q = σ q := fun q _ _ => rfl
  refine lv_aload_n hx hb dX5_laidBy_0 rfl (lv_at hl 0 rfl) ?_
  refine gf_X5_reach hx hb hts hown hK hH (k := 0) (by omega) eO dX5_laidBy_1 ?_
  refine lv_aload_n hx hb dX5_laidBy_4 rfl (lv_at hl 0 rfl) ?_
  refine gf_X5_present hx hb hts hown hK hH (k := 0) (by omega) eO dX5_laidBy_5 ?_
  refine m_pVi hx hb hml hown hts hK hH hl (rest := [.ref (ad (59))]) cw_X5_126 (c4_allowed hA 1 n a g sz w (by first | assumption | omega) e0 e1 e2) ⟨Nat.le_of_ble_eq_true rfl, Nat.le_of_ble_eq_true rfl⟩ ⟨Nat.le_of_ble_eq_true rfl, Nat.le_of_ble_eq_true rfl⟩ rfl (k := 1) (by omega) e0 rfl rfl (Nat.le_of_ble_eq_true rfl) dX5_laidBy_8 (fun H locs hH => ?_)
  refine lv_lload_n hx hb dX5_laidBy_11 rfl (lv_at hl 1 rfl) ?_
  refine m_callVv hx hb hml hown hts hK hH hl (rest := []) cw_X5_283 (c3_layAtMost hA a sp ld wr gr (by first | assumption | omega) (by first | assumption | omega) (by first | assumption | omega) e59 e62 e63) ⟨Nat.le_of_ble_eq_true rfl, Nat.le_of_ble_eq_true rfl⟩ ⟨Nat.le_of_ble_eq_true rfl, Nat.le_of_ble_eq_true rfl⟩ rfl (k := 59) (by omega) e59 rfl rfl (Nat.le_of_ble_eq_true rfl) dX5_laidBy_12 (fun σ_1 H locs hp_2 hH => ?_)
  obtain ⟨w2, gr2, hX, e62, e63, hq_3⟩ := hp_2
  have eO : σ_1 (0) = .inr (5, [.ref (ad (1)), .ref (ad (4)), .ref (ad (7)), .ref (ad (10)), .int (oI (ff)), .int (oI (sf)), .ref (ad (13)), .ref (ad (57)), .ref (ad (59)), .ref (ad (64))]) := (hq_3 _ (by decide) (by decide)).trans eO
  have e0 : σ_1 (1) = .inr (4, [.ref (ad (2)), .ref (ad (3)), .int (oI (((n : Nat) : Int))), .int (oI (((a : Nat) : Int))), .int (oI (((g : Nat) : Int)))]) := (hq_3 _ (by decide) (by decide)).trans e0
  have e1 : σ_1 (2) = oAN cT 4 sz := (hq_3 _ (by decide) (by decide)).trans e1
  have e2 : σ_1 (3) = oAJ cT 4 w := (hq_3 _ (by decide) (by decide)).trans e2
  have e59 : σ_1 (59) = .inr (3, [.ref (ad (60)), .ref (ad (61)), .int (oI (((ld : Nat) : Int))), .ref (ad (62)), .ref (ad (63))]) := (hq_3 _ (by decide) (by decide)).trans e59
  have hf : ∀ q : Nat, q ≠ 62 → q ≠ 63 → σ_1 q = σ q := fun q n0 n1 => (hq_3 q n0 n1).trans (hf q n0 n1)
  refine lv_aload_n hx hb dX5_laidBy_15 rfl (lv_at hl 0 rfl) ?_
  refine gf_X5_reach hx hb hts hown hK hH (k := 0) (by omega) eO dX5_laidBy_16 ?_
  refine lv_aload_n hx hb dX5_laidBy_19 rfl (lv_at hl 0 rfl) ?_
  refine gf_X5_present hx hb hts hown hK hH (k := 0) (by omega) eO dX5_laidBy_20 ?_
  refine m_pVi hx hb hml hown hts hK hH hl (rest := [.ref (ad (59))]) cw_X5_129 (c4_range hA 1 n a g sz w (by first | assumption | omega) e0 e1 e2) ⟨Nat.le_of_ble_eq_true rfl, Nat.le_of_ble_eq_true rfl⟩ ⟨Nat.le_of_ble_eq_true rfl, Nat.le_of_ble_eq_true rfl⟩ rfl (k := 1) (by omega) e0 rfl rfl (Nat.le_of_ble_eq_true rfl) dX5_laidBy_23 (fun H locs hH => ?_)
  refine m_pVi hx hb hml hown hts hK hH hl (rest := []) cw_X5_286 (c3_countLaid hA g sp a ld w2 gr2 (by first | assumption | omega) (by first | assumption | omega) (by first | assumption | omega) e59 e62 e63) ⟨Nat.le_of_ble_eq_true rfl, Nat.le_of_ble_eq_true rfl⟩ ⟨Nat.le_of_ble_eq_true rfl, Nat.le_of_ble_eq_true rfl⟩ rfl (k := 59) (by omega) e59 rfl rfl (Nat.le_of_ble_eq_true rfl) dX5_laidBy_26 (fun H locs hH => ?_)
  exact m_iret hx hb hlk hrt hH (m_ni _) dX5_laidBy_29 ⟨w2, gr2, rfl, e62, e63, hf⟩
set_option maxHeartbeats 4000000 in
set_option maxRecDepth 100000 in
theorem c5_laysWithin {l : Launch} {D : va_G} {cT : Nat → ClassId} {N b0 : Nat} {ad : Nat → Nat} (hA : oAd b0 N ad) {σ : Nat → va_E} (t mo j n a g : Nat) (sz w : Nat → Nat) (ld : Nat) (S Ln : Nat → Int) (ff sf : Int) (hN : 76 ≤ N) (hj3 : 1 ≤ j ∧ j + 2 ≤ 12) (hwf : oWf n sz w) (hag : oAg a g) (ht : t ≤ 1000) (hmo : mo ≤ 1000) (eO : σ (0) = .inr (5, [.ref (ad (1)), .ref (ad (4)), .ref (ad (7)), .ref (ad (10)), .int (oI (ff)), .int (oI (sf)), .ref (ad (13)), .ref (ad (57)), .ref (ad (59)), .ref (ad (64))])) (e0 : σ (j) = .inr (4, [.ref (ad (j + 1)), .ref (ad (j + 2)), .int (oI (((n : Nat) : Int))), .int (oI (((a : Nat) : Int))), .int (oI (((g : Nat) : Int)))])) (e1 : σ (j + 1) = oAN cT 4 sz) (e2 : σ (j + 2) = oAJ cT 4 w) (e59 : σ (59) = .inr (3, [.ref (ad (60)), .ref (ad (61)), .int (oI (((ld : Nat) : Int))), .ref (ad (62)), .ref (ad (63))])) (e60 : σ (60) = oAI cT 201 S) (e61 : σ (61) = oAI cT 201 Ln) :
    oCi l D cT N ad b0 yX5_laysWithin cX5_laysWithin 5 (some .boolean) 3 73 [.ref (ad (0)), .int (oI (((t : Nat) : Int))), .int (oI (((mo : Nat) : Int))), .ref (ad (j))] σ (fun rr uu => ∃ ld2 : Nat, ∃ S2 : Nat → Int, ∃ Ln2 : Nat → Int, rr = oI ((oLw (oOrW n w (-1) 4) t mo)) ∧ uu (59) = .inr (3, [.ref (ad (60)), .ref (ad (61)), .int (oI (((ld2 : Nat) : Int))), .ref (ad (62)), .ref (ad (63))]) ∧ uu (60) = oAI cT 201 S2 ∧ uu (61) = oAI cT 201 Ln2 ∧ (∀ q : Nat, q ≠ 59 → q ≠ 60 → q ≠ 61 → uu q = σ q)) := by
  refine m_start (cc := cX5_laysWithin) (by decide) (Nat.le_of_ble_eq_true rfl) rfl ?_
  intro Pp Ee Ss Mm Bb Me Cc Ar ls hx hb hml hown hlk hrt hts hK hH hl
  have hown : Ss.vm.findClass RX5 = some Mm.cls := hown
  have hj : j + 2 < N := by omega
  have hs64 := oOrW_64 n w (-1) 4
  have ha6 := hag.1
  have hg150 := hag.2
  have hlb := oDist_b (sp := (oOrW n w (-1) 4)) (a := 0) (by omega) t
  have hl : lv_has ls 5 [(0, .ref (ad (0))), (1, .int (oI (((t : Nat) : Int)))), (2, .int (oI (((mo : Nat) : Int)))), (3, .ref (ad (j)))] := hl
  have hf : ∀ q : Nat, q ≠ 59 → q ≠ 60 → q ≠ 61 → σ q = σ q := fun q _ _ _ => rfl
  refine lv_iload_n hx hb dX5_laysWithin_0 rfl (lv_at hl 1 rfl) ?_
  refine m_sipush 200 hx hb dX5_laysWithin_1 (by decide) ?_
  refine m_icmp_le 9 hx hb dX5_laysWithin_4 (by decide) (by omega) (by omega) (fun h_1 => ?_) (fun h_1 => ?_)
  · refine lv_aload_n hx hb dX5_laysWithin_9 rfl (lv_at hl 0 rfl) ?_
    refine gf_X5_reach hx hb hts hown hK hH (k := 0) (by omega) eO dX5_laysWithin_10 ?_
    refine lv_iload_n hx hb dX5_laysWithin_13 rfl (lv_at hl 1 rfl) ?_
    refine lv_aload_n hx hb dX5_laysWithin_14 rfl (lv_at hl 3 rfl) ?_
    refine m_pVn hx hb hml hown hts hK hH hl (rest := [.int (oI (((t : Nat) : Int))), .ref (ad (59))]) cw_X5_107 (c4_spread hA j n a g sz w (by first | assumption | omega) (by first | assumption | omega) e0 e1 e2) ⟨Nat.le_of_ble_eq_true rfl, Nat.le_of_ble_eq_true rfl⟩ ⟨Nat.le_of_ble_eq_true rfl, Nat.le_of_ble_eq_true rfl⟩ rfl (k := j) (by omega) e0 rfl rfl (Nat.le_of_ble_eq_true rfl) dX5_laysWithin_15 (fun H locs hH => ?_)
    refine m_callVi hx hb hml hown hts hK hH hl (rest := []) cw_X5_234 (c3_fewestByLengths hA t (oOrW n w (-1) 4) ld S Ln (by first | assumption | omega) (by first | assumption | omega) (by first | assumption | omega) e59 e60 e61) ⟨Nat.le_of_ble_eq_true rfl, Nat.le_of_ble_eq_true rfl⟩ ⟨Nat.le_of_ble_eq_true rfl, Nat.le_of_ble_eq_true rfl⟩ rfl (k := 59) (by omega) e59 rfl rfl (Nat.le_of_ble_eq_true rfl) dX5_laysWithin_18 (fun r_5 σ_2 H locs hp_3 hH => ?_)
    obtain ⟨S2, L2, ld2, rfl, hD, e59, e60, e61, hq_4⟩ := hp_3
    have eO : σ_2 (0) = .inr (5, [.ref (ad (1)), .ref (ad (4)), .ref (ad (7)), .ref (ad (10)), .int (oI (ff)), .int (oI (sf)), .ref (ad (13)), .ref (ad (57)), .ref (ad (59)), .ref (ad (64))]) := (hq_4 _ (by decide) (by decide) (by decide)).trans eO
    have e0 : σ_2 (j) = .inr (4, [.ref (ad (j + 1)), .ref (ad (j + 2)), .int (oI (((n : Nat) : Int))), .int (oI (((a : Nat) : Int))), .int (oI (((g : Nat) : Int)))]) := (hq_4 _ (by omega) (by omega) (by omega)).trans e0
    have e1 : σ_2 (j + 1) = oAN cT 4 sz := (hq_4 _ (by omega) (by omega) (by omega)).trans e1
    have e2 : σ_2 (j + 2) = oAJ cT 4 w := (hq_4 _ (by omega) (by omega) (by omega)).trans e2
    have hf : ∀ q : Nat, q ≠ 59 → q ≠ 60 → q ≠ 61 → σ_2 q = σ q := fun q n0 n1 n2 => (hq_4 q n0 n1 n2).trans (hf q n0 n1 n2)
    refine lv_istore (lv' := [(4, .int (oI ((oDist (oOrW n w (-1) 4) 0 t)))), (0, .ref (ad (0))), (1, .int (oI (((t : Nat) : Int)))), (2, .int (oI (((mo : Nat) : Int)))), (3, .ref (ad (j)))]) hx hb dX5_laysWithin_21 hl (by decide) rfl (fun ls hl => ?_)
    refine lv_iload hx hb dX5_laysWithin_23 (lv_at hl 0 rfl) ?_
    refine m_iconst (-1) hx hb dX5_laysWithin_25 rfl ?_
    refine m_icmp_eq 39 hx hb dX5_laysWithin_26 (by decide) (by omega) (by omega) (fun h_6 => ?_) (fun h_6 => ?_)
    · refine m_iconst 0 hx hb dX5_laysWithin_39 rfl ?_
      exact m_iret hx hb hlk hrt hH m_z0 dX5_laysWithin_40 ⟨ld2, S2, L2, congrArg oI (by unfold oLw; rw [if_neg (by omega)]), e59, e60, e61, hf⟩
    · refine lv_iload hx hb dX5_laysWithin_29 (lv_at hl 0 rfl) ?_
      refine lv_iload_n hx hb dX5_laysWithin_31 rfl (lv_at hl 3 rfl) ?_
      refine m_icmp_gt 39 hx hb dX5_laysWithin_32 (by decide) (by omega) (by omega) (fun h_7 => ?_) (fun h_7 => ?_)
      · refine m_iconst 0 hx hb dX5_laysWithin_39 rfl ?_
        exact m_iret hx hb hlk hrt hH m_z0 dX5_laysWithin_40 ⟨ld2, S2, L2, congrArg oI (by unfold oLw; rw [if_neg (by omega)]), e59, e60, e61, hf⟩
      · refine m_iconst 1 hx hb dX5_laysWithin_35 rfl ?_
        refine lv_goto (tgt := 40) hx hb dX5_laysWithin_36 (by decide) ?_
        exact m_iret hx hb hlk hrt hH m_z1 dX5_laysWithin_40 ⟨ld2, S2, L2, congrArg oI (by unfold oLw; rw [if_pos (by omega)]), e59, e60, e61, hf⟩
  · refine m_iconst 0 hx hb dX5_laysWithin_7 rfl ?_
    exact m_iret hx hb hlk hrt hH m_z0 dX5_laysWithin_8 ⟨ld, S, Ln, congrArg oI (by unfold oLw; rw [if_neg (by omega)]), e59, e60, e61, hf⟩
set_option maxHeartbeats 4000000 in
set_option maxRecDepth 100000 in
theorem c5_marksAs {l : Launch} {D : va_G} {cT : Nat → ClassId} {N b0 : Nat} {ad : Nat → Nat} (hA : oAd b0 N ad) {σ : Nat → va_E} (r p on : Int) (j n a g : Nat) (sz w : Nat → Nat) (hN : 76 ≤ N) (hj : j + 2 < N) (hwf : oWf n sz w) (hbr : -2147483648 ≤ r ∧ r < 2147483648) (hbp : -2147483648 ≤ p ∧ p < 2147483648) (hon : on = 0 ∨ on = 1) (e0 : σ (j) = .inr (4, [.ref (ad (j + 1)), .ref (ad (j + 2)), .int (oI (((n : Nat) : Int))), .int (oI (((a : Nat) : Int))), .int (oI (((g : Nat) : Int)))])) (e1 : σ (j + 1) = oAN cT 4 sz) (e2 : σ (j + 2) = oAJ cT 4 w) :
    oCi l D cT N ad b0 yX5_marksAs cX5_marksAs 4 (some .boolean) 2 44 [.int (oI (r)), .int (oI (p)), .int (oI (on)), .ref (ad (j))] σ (fun rr uu => rr = oI ((oMk n sz w r p on)) ∧ uu = σ) := by
  refine m_start (cc := cX5_marksAs) (by decide) (Nat.le_of_ble_eq_true rfl) rfl ?_
  intro Pp Ee Ss Mm Bb Me Cc Ar ls hx hb hml hown hlk hrt hts hK hH hl
  have hown : Ss.vm.findClass RX5 = some Mm.cls := hown
  have hn := hwf.1
  have hsz := oSize_le hwf
  have hw64 := oRow_64 hwf
  have hw41 := oRow_lt hwf
  have hl : lv_has ls 4 [(0, .int (oI (r))), (1, .int (oI (p))), (2, .int (oI (on))), (3, .ref (ad (j)))] := hl
  refine lv_aload_n hx hb dX5_marksAs_0 rfl (lv_at hl 3 rfl) ?_
  refine lv_iload_n hx hb dX5_marksAs_1 rfl (lv_at hl 0 rfl) ?_
  refine lv_iload_n hx hb dX5_marksAs_2 rfl (lv_at hl 1 rfl) ?_
  refine m_pVb hx hb hml hown hts hK hH hl (rest := []) cw_X5_161 (c4_hasPlace hA j n a g sz w r p (by first | assumption | omega) (by first | assumption | omega) (by first | assumption | omega) (by first | assumption | omega) (by first | assumption | omega) e0 e1 e2) ⟨Nat.le_of_ble_eq_true rfl, Nat.le_of_ble_eq_true rfl⟩ ⟨Nat.le_of_ble_eq_true rfl, Nat.le_of_ble_eq_true rfl⟩ rfl (k := j) (by omega) e0 rfl rfl (Nat.le_of_ble_eq_true rfl) dX5_marksAs_3 (fun hP H locs hH => ?_) (fun hP H locs hH => ?_)
  · refine m_if_eq 23 hx hb dX5_marksAs_6 (by decide) (by omega) (fun h_1 => absurd h_1 (by omega)) (fun h_1 => ?_)
    refine lv_aload_n hx hb dX5_marksAs_9 rfl (lv_at hl 3 rfl) ?_
    refine lv_iload_n hx hb dX5_marksAs_10 rfl (lv_at hl 0 rfl) ?_
    refine lv_iload_n hx hb dX5_marksAs_11 rfl (lv_at hl 1 rfl) ?_
    refine m_pVb hx hb hml hown hts hK hH hl (rest := []) cw_X5_170 (c4_hasMark hA j n a g sz w r p (by first | assumption | omega) (by first | assumption | omega) (by first | assumption | omega) (by first | assumption | omega) (by first | assumption | omega) e0 e1 e2) ⟨Nat.le_of_ble_eq_true rfl, Nat.le_of_ble_eq_true rfl⟩ ⟨Nat.le_of_ble_eq_true rfl, Nat.le_of_ble_eq_true rfl⟩ rfl (k := j) (by omega) e0 rfl rfl (Nat.le_of_ble_eq_true rfl) dX5_marksAs_12 (fun hQ H locs hH => ?_) (fun hQ H locs hH => ?_)
    · refine lv_iload_n hx hb dX5_marksAs_15 rfl (lv_at hl 2 rfl) ?_
      refine m_icmp_ne 23 hx hb dX5_marksAs_16 (by decide) (by omega) (by omega) (fun h_2 => ?_) (fun h_2 => ?_)
      · refine m_iconst 0 hx hb dX5_marksAs_23 rfl ?_
        exact m_iret hx hb hlk hrt hH m_z0 dX5_marksAs_24 ⟨congrArg oI (by unfold oMk; rw [if_neg (fun q => (by omega : ¬ on = 1) (q.2.mp hQ))]), rfl⟩
      · refine m_iconst 1 hx hb dX5_marksAs_19 rfl ?_
        refine lv_goto (tgt := 24) hx hb dX5_marksAs_20 (by decide) ?_
        exact m_iret hx hb hlk hrt hH m_z1 dX5_marksAs_24 ⟨congrArg oI (by unfold oMk; rw [if_pos ⟨hP, fun _ => by omega, fun _ => hQ⟩]), rfl⟩
    · refine lv_iload_n hx hb dX5_marksAs_15 rfl (lv_at hl 2 rfl) ?_
      refine m_icmp_ne 23 hx hb dX5_marksAs_16 (by decide) (by omega) (by omega) (fun h_3 => ?_) (fun h_3 => ?_)
      · refine m_iconst 0 hx hb dX5_marksAs_23 rfl ?_
        exact m_iret hx hb hlk hrt hH m_z0 dX5_marksAs_24 ⟨congrArg oI (by unfold oMk; rw [if_neg (fun q => hQ (q.2.mpr (by omega)))]), rfl⟩
      · refine m_iconst 1 hx hb dX5_marksAs_19 rfl ?_
        refine lv_goto (tgt := 24) hx hb dX5_marksAs_20 (by decide) ?_
        exact m_iret hx hb hlk hrt hH m_z1 dX5_marksAs_24 ⟨congrArg oI (by unfold oMk; rw [if_pos ⟨hP, fun q => absurd q hQ, fun q => by omega⟩]), rfl⟩
  · refine m_if_eq 23 hx hb dX5_marksAs_6 (by decide) (by omega) (fun h_4 => ?_) (fun h_4 => absurd h_4 (by omega))
    refine m_iconst 0 hx hb dX5_marksAs_23 rfl ?_
    exact m_iret hx hb hlk hrt hH m_z0 dX5_marksAs_24 ⟨congrArg oI (by unfold oMk; rw [if_neg (fun q => hP q.1)]), rfl⟩
set_option maxHeartbeats 4000000 in
set_option maxRecDepth 100000 in
theorem c5_takeTurn {l : Launch} {D : va_G} {cT : Nat → ClassId} {N b0 : Nat} {ad : Nat → Nat} (hA : oAd b0 N ad) {σ : Nat → va_E} (r : Nat) (j n a g : Nat) (sz w : Nat → Nat) (hN : 76 ≤ N) (hj3 : 1 ≤ j ∧ j + 2 ≤ 12) (hwf : oWf n sz w) (hag : oAg a g) (hr31 : r < 2147483648) (e0 : σ (j) = .inr (4, [.ref (ad (j + 1)), .ref (ad (j + 2)), .int (oI (((n : Nat) : Int))), .int (oI (((a : Nat) : Int))), .int (oI (((g : Nat) : Int)))])) (e1 : σ (j + 1) = oAN cT 4 sz) (e2 : σ (j + 2) = oAJ cT 4 w) :
    oCv l D cT N ad b0 yX5_takeTurn cX5_takeTurn 3 none 5 116 [.int (oI (((r : Nat) : Int))), .ref (ad (j))] σ (fun uu => ∃ n1 : Nat, ∃ a1 : Nat, ∃ g1 : Nat, ∃ sz1 : Nat → Nat, ∃ w1 : Nat → Nat, (∃ rt : Int, oAtt (oTuA r).1 (oTuA r).2.1 (oTuA r).2.2.1 (oTuA r).2.2.2 n a g sz w = (rt, n1, a1, g1, sz1, w1)) ∧ (oWf n1 sz1 w1) ∧ (oAg a1 g1) ∧ uu (j) = .inr (4, [.ref (ad (j + 1)), .ref (ad (j + 2)), .int (oI (((n1 : Nat) : Int))), .int (oI (((a1 : Nat) : Int))), .int (oI (((g1 : Nat) : Int)))]) ∧ uu (j + 1) = oAN cT 4 sz1 ∧ uu (j + 2) = oAJ cT 4 w1 ∧ (∀ q : Nat, q ≠ j → q ≠ (j + 1) → q ≠ (j + 2) → uu q = σ q)) := by
  refine m_start (cc := cX5_takeTurn) (by decide) (Nat.le_of_ble_eq_true rfl) rfl ?_
  intro Pp Ee Ss Mm Bb Me Cc Ar ls hx hb hml hown hlk hrt hts hK hH hl
  have hown : Ss.vm.findClass RX5 = some Mm.cls := hown
  have hj : j + 2 < N := by omega
  have q0 := oMd_lt r (k := 8) (by decide)
  have q1 := oMd_lt (oDv r 8) (k := 39) (by decide)
  have q2 := oMd_lt (oDv r 8) (k := 4) (by decide)
  have q3 := oMd_lt (oDv (oDv r 8) 4) (k := 39) (by decide)
  have q4 := oMd_lt (oDv (oDv r 8) 8) (k := 2) (by decide)
  have q5 := oMd_lt (oDv r 8) (k := 6) (by decide)
  have q6 := oMd_lt (oDv (oDv r 8) 16) (k := 141) (by decide)
  have q7 := oMd_lt (oDv (oDv r 8) 4) (k := 41) (by decide)
  have q8 := oMd_lt (oDv (oDv r 8) 256) (k := 4) (by decide)
  have hq8 : oDv r 8 < 2147483648 := by unfold oDv; omega
  have hq4 : oDv (oDv r 8) 4 < 2147483648 := by unfold oDv at hq8 ⊢; omega
  have hqb : oDv (oDv r 8) 8 < 2147483648 := by unfold oDv at hq8 ⊢; omega
  have hqc : oDv (oDv r 8) 16 < 2147483648 := by unfold oDv at hq8 ⊢; omega
  have hqd : oDv (oDv r 8) 256 < 2147483648 := by unfold oDv at hq8 ⊢; omega
  have hl : lv_has ls 3 [(0, .int (oI (((r : Nat) : Int)))), (1, .ref (ad (j)))] := hl
  have hf : ∀ q : Nat, q ≠ j → q ≠ (j + 1) → q ≠ (j + 2) → σ q = σ q := fun q _ _ _ => rfl
  refine lv_iload_n hx hb dX5_takeTurn_0 rfl (lv_at hl 0 rfl) ?_
  refine m_bipush 8 hx hb dX5_takeTurn_1 (by decide) ?_
  refine m_idiv (((oDv r 8 : Nat) : Int)) hx hb dX5_takeTurn_3 (by omega) (by omega) (by first | rfl | (unfold oDv; omega)) ?_
  refine lv_istore_n (lv' := [(2, .int (oI (((oDv r 8 : Nat) : Int)))), (0, .int (oI (((r : Nat) : Int)))), (1, .ref (ad (j)))]) hx hb dX5_takeTurn_4 rfl hl (by decide) rfl (fun ls hl => ?_)
  refine lv_iload_n hx hb dX5_takeTurn_5 rfl (lv_at hl 1 rfl) ?_
  refine m_bipush 8 hx hb dX5_takeTurn_6 (by decide) ?_
  refine m_irem (((oMd r 8 : Nat) : Int)) hx hb dX5_takeTurn_8 (by omega) (by omega) (by first | rfl | (unfold oMd; omega)) ?_
  rcases (show (((oMd r 8 : Nat) : Int) : Int) = 0 ∨ (((oMd r 8 : Nat) : Int) : Int) = 1 ∨ (((oMd r 8 : Nat) : Int) : Int) = 2 ∨ (((oMd r 8 : Nat) : Int) : Int) = 3 ∨ (((oMd r 8 : Nat) : Int) : Int) = 4 ∨ (((oMd r 8 : Nat) : Int) : Int) = 5 ∨ (((oMd r 8 : Nat) : Int) : Int) = 6 ∨ (((oMd r 8 : Nat) : Int) : Int) = 7 ∨ ((((oMd r 8 : Nat) : Int) : Int) < 0 ∨ 7 < (((oMd r 8 : Nat) : Int) : Int)) by omega) with hm | hm | hm | hm | hm | hm | hm | hm | hm
  · refine m_tabIn 56 hx hb dX5_takeTurn_9 (by omega) (by omega) (by rw [hm]; rfl) (by decide) ?_
    refine lv_aload_n hx hb dX5_takeTurn_56 rfl (lv_at hl 2 rfl) ?_
    refine m_iconst 1 hx hb dX5_takeTurn_57 rfl ?_
    refine m_iconst 2 hx hb dX5_takeTurn_58 rfl ?_
    refine lv_iload_n hx hb dX5_takeTurn_59 rfl (lv_at hl 0 rfl) ?_
    refine m_bipush 39 hx hb dX5_takeTurn_60 (by decide) ?_
    refine m_irem (((oMd (oDv r 8) 39 : Nat) : Int)) hx hb dX5_takeTurn_62 (by omega) (by omega) (by first | rfl | (unfold oMd; omega)) ?_
    refine m_iadd (((oMd (oDv r 8) 39 : Nat) : Int) + 2) hx hb dX5_takeTurn_63 (by omega) ?_
    refine m_iconst 0 hx hb dX5_takeTurn_64 rfl ?_
    refine m_iconst 0 hx hb dX5_takeTurn_65 rfl ?_
    refine m_callVi hx hb hml hown hts hK hH hl (rest := []) cw_X5_326 (c4_attG hA j n a g sz w 1 (((oMd (oDv r 8) 39 : Nat) : Int) + 2) 0 0 (by first | assumption | omega) (by first | assumption | omega) (by first | assumption | omega) (by first | assumption | omega) (by first | assumption | omega) (by first | assumption | omega) (by first | assumption | omega) e0 e1 e2) ⟨Nat.le_of_ble_eq_true rfl, Nat.le_of_ble_eq_true rfl⟩ ⟨Nat.le_of_ble_eq_true rfl, Nat.le_of_ble_eq_true rfl⟩ rfl (k := j) (by omega) e0 rfl rfl (Nat.le_of_ble_eq_true rfl) dX5_takeTurn_66 (fun r_4 σ_1 H locs hp_2 hH => ?_)
    obtain ⟨rt, n4, a5, g4, s4, w4, rfl, hat, hrt4, hwf4, hag4, e0, e1, e2, hq_3⟩ := hp_2
    have hf : ∀ q : Nat, q ≠ j → q ≠ (j + 1) → q ≠ (j + 2) → σ_1 q = σ q := fun q n0 n1 n2 => (hq_3 q n0 n1 n2).trans (hf q n0 n1 n2)
    refine lv_pop hx hb dX5_takeTurn_69 rfl ?_
    refine lv_goto (tgt := 186) hx hb dX5_takeTurn_70 (by decide) ?_
    exact m_vret hx hb hlk hrt hH dX5_takeTurn_186 ⟨n4, a5, g4, s4, w4, (⟨_, by unfold oTuA; rw [if_pos (by omega)]; exact hat⟩), hwf4, hag4, e0, e1, e2, hf⟩
  · refine m_tabIn 156 hx hb dX5_takeTurn_9 (by omega) (by omega) (by rw [hm]; rfl) (by decide) ?_
    refine lv_aload_n hx hb dX5_takeTurn_156 rfl (lv_at hl 2 rfl) ?_
    refine m_iconst 2 hx hb dX5_takeTurn_157 rfl ?_
    refine lv_iload_n hx hb dX5_takeTurn_158 rfl (lv_at hl 0 rfl) ?_
    refine m_iconst 4 hx hb dX5_takeTurn_159 rfl ?_
    refine m_irem (((oMd (oDv r 8) 4 : Nat) : Int)) hx hb dX5_takeTurn_160 (by omega) (by omega) (by first | rfl | (unfold oMd; omega)) ?_
    refine lv_iload_n hx hb dX5_takeTurn_161 rfl (lv_at hl 0 rfl) ?_
    refine m_iconst 4 hx hb dX5_takeTurn_162 rfl ?_
    refine m_idiv (((oDv (oDv r 8) 4 : Nat) : Int)) hx hb dX5_takeTurn_163 (by omega) (by omega) (by first | rfl | (unfold oDv; omega)) ?_
    refine m_bipush 41 hx hb dX5_takeTurn_164 (by decide) ?_
    refine m_irem (((oMd (oDv (oDv r 8) 4) 41 : Nat) : Int)) hx hb dX5_takeTurn_166 (by omega) (by omega) (by first | rfl | (unfold oMd; omega)) ?_
    refine lv_iload_n hx hb dX5_takeTurn_167 rfl (lv_at hl 0 rfl) ?_
    refine m_sipush 256 hx hb dX5_takeTurn_168 (by decide) ?_
    refine m_idiv (((oDv (oDv r 8) 256 : Nat) : Int)) hx hb dX5_takeTurn_171 (by omega) (by omega) (by first | rfl | (unfold oDv; omega)) ?_
    refine m_iconst 4 hx hb dX5_takeTurn_172 rfl ?_
    refine m_irem (((oMd (oDv (oDv r 8) 256) 4 : Nat) : Int)) hx hb dX5_takeTurn_173 (by omega) (by omega) (by first | rfl | (unfold oMd; omega)) ?_
    refine m_if_eq 181 hx hb dX5_takeTurn_174 (by decide) (by omega) (fun hz => ?_) (fun hz => ?_)
    · refine m_iconst 0 hx hb dX5_takeTurn_181 rfl ?_
      refine m_callVi hx hb hml hown hts hK hH hl (rest := []) cw_X5_326 (c4_attG hA j n a g sz w 2 ((oMd (oDv r 8) 4 : Nat) : Int) ((oMd (oDv (oDv r 8) 4) 41 : Nat) : Int) 0 (by first | assumption | omega) (by first | assumption | omega) (by first | assumption | omega) (by first | assumption | omega) (by first | assumption | omega) (by first | assumption | omega) (by first | assumption | omega) e0 e1 e2) ⟨Nat.le_of_ble_eq_true rfl, Nat.le_of_ble_eq_true rfl⟩ ⟨Nat.le_of_ble_eq_true rfl, Nat.le_of_ble_eq_true rfl⟩ rfl (k := j) (by omega) e0 rfl rfl (Nat.le_of_ble_eq_true rfl) dX5_takeTurn_182 (fun r_9 σ_6 H locs hp_7 hH => ?_)
      obtain ⟨rt, n4, a5, g4, s4, w4, rfl, hat, hrt4, hwf4, hag4, e0, e1, e2, hq_8⟩ := hp_7
      have hf : ∀ q : Nat, q ≠ j → q ≠ (j + 1) → q ≠ (j + 2) → σ_6 q = σ q := fun q n0 n1 n2 => (hq_8 q n0 n1 n2).trans (hf q n0 n1 n2)
      refine lv_pop hx hb dX5_takeTurn_185 rfl ?_
      exact m_vret hx hb hlk hrt hH dX5_takeTurn_186 ⟨n4, a5, g4, s4, w4, (⟨_, by unfold oTuA; rw [if_neg (by omega), if_neg (by omega), if_neg (by omega), if_neg (by omega), if_pos (by omega)]; exact hat⟩), hwf4, hag4, e0, e1, e2, hf⟩
    · refine m_iconst 1 hx hb dX5_takeTurn_177 rfl ?_
      refine lv_goto (tgt := 182) hx hb dX5_takeTurn_178 (by decide) ?_
      refine m_callVi hx hb hml hown hts hK hH hl (rest := []) cw_X5_326 (c4_attG hA j n a g sz w 2 ((oMd (oDv r 8) 4 : Nat) : Int) ((oMd (oDv (oDv r 8) 4) 41 : Nat) : Int) 1 (by first | assumption | omega) (by first | assumption | omega) (by first | assumption | omega) (by first | assumption | omega) (by first | assumption | omega) (by first | assumption | omega) (by first | assumption | omega) e0 e1 e2) ⟨Nat.le_of_ble_eq_true rfl, Nat.le_of_ble_eq_true rfl⟩ ⟨Nat.le_of_ble_eq_true rfl, Nat.le_of_ble_eq_true rfl⟩ rfl (k := j) (by omega) e0 rfl rfl (Nat.le_of_ble_eq_true rfl) dX5_takeTurn_182 (fun r_13 σ_10 H locs hp_11 hH => ?_)
      obtain ⟨rt, n4, a5, g4, s4, w4, rfl, hat, hrt4, hwf4, hag4, e0, e1, e2, hq_12⟩ := hp_11
      have hf : ∀ q : Nat, q ≠ j → q ≠ (j + 1) → q ≠ (j + 2) → σ_10 q = σ q := fun q n0 n1 n2 => (hq_12 q n0 n1 n2).trans (hf q n0 n1 n2)
      refine lv_pop hx hb dX5_takeTurn_185 rfl ?_
      exact m_vret hx hb hlk hrt hH dX5_takeTurn_186 ⟨n4, a5, g4, s4, w4, (⟨_, by unfold oTuA; rw [if_neg (by omega), if_neg (by omega), if_neg (by omega), if_neg (by omega), if_neg (by omega)]; exact hat⟩), hwf4, hag4, e0, e1, e2, hf⟩
  · refine m_tabIn 156 hx hb dX5_takeTurn_9 (by omega) (by omega) (by rw [hm]; rfl) (by decide) ?_
    refine lv_aload_n hx hb dX5_takeTurn_156 rfl (lv_at hl 2 rfl) ?_
    refine m_iconst 2 hx hb dX5_takeTurn_157 rfl ?_
    refine lv_iload_n hx hb dX5_takeTurn_158 rfl (lv_at hl 0 rfl) ?_
    refine m_iconst 4 hx hb dX5_takeTurn_159 rfl ?_
    refine m_irem (((oMd (oDv r 8) 4 : Nat) : Int)) hx hb dX5_takeTurn_160 (by omega) (by omega) (by first | rfl | (unfold oMd; omega)) ?_
    refine lv_iload_n hx hb dX5_takeTurn_161 rfl (lv_at hl 0 rfl) ?_
    refine m_iconst 4 hx hb dX5_takeTurn_162 rfl ?_
    refine m_idiv (((oDv (oDv r 8) 4 : Nat) : Int)) hx hb dX5_takeTurn_163 (by omega) (by omega) (by first | rfl | (unfold oDv; omega)) ?_
    refine m_bipush 41 hx hb dX5_takeTurn_164 (by decide) ?_
    refine m_irem (((oMd (oDv (oDv r 8) 4) 41 : Nat) : Int)) hx hb dX5_takeTurn_166 (by omega) (by omega) (by first | rfl | (unfold oMd; omega)) ?_
    refine lv_iload_n hx hb dX5_takeTurn_167 rfl (lv_at hl 0 rfl) ?_
    refine m_sipush 256 hx hb dX5_takeTurn_168 (by decide) ?_
    refine m_idiv (((oDv (oDv r 8) 256 : Nat) : Int)) hx hb dX5_takeTurn_171 (by omega) (by omega) (by first | rfl | (unfold oDv; omega)) ?_
    refine m_iconst 4 hx hb dX5_takeTurn_172 rfl ?_
    refine m_irem (((oMd (oDv (oDv r 8) 256) 4 : Nat) : Int)) hx hb dX5_takeTurn_173 (by omega) (by omega) (by first | rfl | (unfold oMd; omega)) ?_
    refine m_if_eq 181 hx hb dX5_takeTurn_174 (by decide) (by omega) (fun hz => ?_) (fun hz => ?_)
    · refine m_iconst 0 hx hb dX5_takeTurn_181 rfl ?_
      refine m_callVi hx hb hml hown hts hK hH hl (rest := []) cw_X5_326 (c4_attG hA j n a g sz w 2 ((oMd (oDv r 8) 4 : Nat) : Int) ((oMd (oDv (oDv r 8) 4) 41 : Nat) : Int) 0 (by first | assumption | omega) (by first | assumption | omega) (by first | assumption | omega) (by first | assumption | omega) (by first | assumption | omega) (by first | assumption | omega) (by first | assumption | omega) e0 e1 e2) ⟨Nat.le_of_ble_eq_true rfl, Nat.le_of_ble_eq_true rfl⟩ ⟨Nat.le_of_ble_eq_true rfl, Nat.le_of_ble_eq_true rfl⟩ rfl (k := j) (by omega) e0 rfl rfl (Nat.le_of_ble_eq_true rfl) dX5_takeTurn_182 (fun r_18 σ_15 H locs hp_16 hH => ?_)
      obtain ⟨rt, n4, a5, g4, s4, w4, rfl, hat, hrt4, hwf4, hag4, e0, e1, e2, hq_17⟩ := hp_16
      have hf : ∀ q : Nat, q ≠ j → q ≠ (j + 1) → q ≠ (j + 2) → σ_15 q = σ q := fun q n0 n1 n2 => (hq_17 q n0 n1 n2).trans (hf q n0 n1 n2)
      refine lv_pop hx hb dX5_takeTurn_185 rfl ?_
      exact m_vret hx hb hlk hrt hH dX5_takeTurn_186 ⟨n4, a5, g4, s4, w4, (⟨_, by unfold oTuA; rw [if_neg (by omega), if_neg (by omega), if_neg (by omega), if_neg (by omega), if_pos (by omega)]; exact hat⟩), hwf4, hag4, e0, e1, e2, hf⟩
    · refine m_iconst 1 hx hb dX5_takeTurn_177 rfl ?_
      refine lv_goto (tgt := 182) hx hb dX5_takeTurn_178 (by decide) ?_
      refine m_callVi hx hb hml hown hts hK hH hl (rest := []) cw_X5_326 (c4_attG hA j n a g sz w 2 ((oMd (oDv r 8) 4 : Nat) : Int) ((oMd (oDv (oDv r 8) 4) 41 : Nat) : Int) 1 (by first | assumption | omega) (by first | assumption | omega) (by first | assumption | omega) (by first | assumption | omega) (by first | assumption | omega) (by first | assumption | omega) (by first | assumption | omega) e0 e1 e2) ⟨Nat.le_of_ble_eq_true rfl, Nat.le_of_ble_eq_true rfl⟩ ⟨Nat.le_of_ble_eq_true rfl, Nat.le_of_ble_eq_true rfl⟩ rfl (k := j) (by omega) e0 rfl rfl (Nat.le_of_ble_eq_true rfl) dX5_takeTurn_182 (fun r_22 σ_19 H locs hp_20 hH => ?_)
      obtain ⟨rt, n4, a5, g4, s4, w4, rfl, hat, hrt4, hwf4, hag4, e0, e1, e2, hq_21⟩ := hp_20
      have hf : ∀ q : Nat, q ≠ j → q ≠ (j + 1) → q ≠ (j + 2) → σ_19 q = σ q := fun q n0 n1 n2 => (hq_21 q n0 n1 n2).trans (hf q n0 n1 n2)
      refine lv_pop hx hb dX5_takeTurn_185 rfl ?_
      exact m_vret hx hb hlk hrt hH dX5_takeTurn_186 ⟨n4, a5, g4, s4, w4, (⟨_, by unfold oTuA; rw [if_neg (by omega), if_neg (by omega), if_neg (by omega), if_neg (by omega), if_neg (by omega)]; exact hat⟩), hwf4, hag4, e0, e1, e2, hf⟩
  · refine m_tabIn 156 hx hb dX5_takeTurn_9 (by omega) (by omega) (by rw [hm]; rfl) (by decide) ?_
    refine lv_aload_n hx hb dX5_takeTurn_156 rfl (lv_at hl 2 rfl) ?_
    refine m_iconst 2 hx hb dX5_takeTurn_157 rfl ?_
    refine lv_iload_n hx hb dX5_takeTurn_158 rfl (lv_at hl 0 rfl) ?_
    refine m_iconst 4 hx hb dX5_takeTurn_159 rfl ?_
    refine m_irem (((oMd (oDv r 8) 4 : Nat) : Int)) hx hb dX5_takeTurn_160 (by omega) (by omega) (by first | rfl | (unfold oMd; omega)) ?_
    refine lv_iload_n hx hb dX5_takeTurn_161 rfl (lv_at hl 0 rfl) ?_
    refine m_iconst 4 hx hb dX5_takeTurn_162 rfl ?_
    refine m_idiv (((oDv (oDv r 8) 4 : Nat) : Int)) hx hb dX5_takeTurn_163 (by omega) (by omega) (by first | rfl | (unfold oDv; omega)) ?_
    refine m_bipush 41 hx hb dX5_takeTurn_164 (by decide) ?_
    refine m_irem (((oMd (oDv (oDv r 8) 4) 41 : Nat) : Int)) hx hb dX5_takeTurn_166 (by omega) (by omega) (by first | rfl | (unfold oMd; omega)) ?_
    refine lv_iload_n hx hb dX5_takeTurn_167 rfl (lv_at hl 0 rfl) ?_
    refine m_sipush 256 hx hb dX5_takeTurn_168 (by decide) ?_
    refine m_idiv (((oDv (oDv r 8) 256 : Nat) : Int)) hx hb dX5_takeTurn_171 (by omega) (by omega) (by first | rfl | (unfold oDv; omega)) ?_
    refine m_iconst 4 hx hb dX5_takeTurn_172 rfl ?_
    refine m_irem (((oMd (oDv (oDv r 8) 256) 4 : Nat) : Int)) hx hb dX5_takeTurn_173 (by omega) (by omega) (by first | rfl | (unfold oMd; omega)) ?_
    refine m_if_eq 181 hx hb dX5_takeTurn_174 (by decide) (by omega) (fun hz => ?_) (fun hz => ?_)
    · refine m_iconst 0 hx hb dX5_takeTurn_181 rfl ?_
      refine m_callVi hx hb hml hown hts hK hH hl (rest := []) cw_X5_326 (c4_attG hA j n a g sz w 2 ((oMd (oDv r 8) 4 : Nat) : Int) ((oMd (oDv (oDv r 8) 4) 41 : Nat) : Int) 0 (by first | assumption | omega) (by first | assumption | omega) (by first | assumption | omega) (by first | assumption | omega) (by first | assumption | omega) (by first | assumption | omega) (by first | assumption | omega) e0 e1 e2) ⟨Nat.le_of_ble_eq_true rfl, Nat.le_of_ble_eq_true rfl⟩ ⟨Nat.le_of_ble_eq_true rfl, Nat.le_of_ble_eq_true rfl⟩ rfl (k := j) (by omega) e0 rfl rfl (Nat.le_of_ble_eq_true rfl) dX5_takeTurn_182 (fun r_27 σ_24 H locs hp_25 hH => ?_)
      obtain ⟨rt, n4, a5, g4, s4, w4, rfl, hat, hrt4, hwf4, hag4, e0, e1, e2, hq_26⟩ := hp_25
      have hf : ∀ q : Nat, q ≠ j → q ≠ (j + 1) → q ≠ (j + 2) → σ_24 q = σ q := fun q n0 n1 n2 => (hq_26 q n0 n1 n2).trans (hf q n0 n1 n2)
      refine lv_pop hx hb dX5_takeTurn_185 rfl ?_
      exact m_vret hx hb hlk hrt hH dX5_takeTurn_186 ⟨n4, a5, g4, s4, w4, (⟨_, by unfold oTuA; rw [if_neg (by omega), if_neg (by omega), if_neg (by omega), if_neg (by omega), if_pos (by omega)]; exact hat⟩), hwf4, hag4, e0, e1, e2, hf⟩
    · refine m_iconst 1 hx hb dX5_takeTurn_177 rfl ?_
      refine lv_goto (tgt := 182) hx hb dX5_takeTurn_178 (by decide) ?_
      refine m_callVi hx hb hml hown hts hK hH hl (rest := []) cw_X5_326 (c4_attG hA j n a g sz w 2 ((oMd (oDv r 8) 4 : Nat) : Int) ((oMd (oDv (oDv r 8) 4) 41 : Nat) : Int) 1 (by first | assumption | omega) (by first | assumption | omega) (by first | assumption | omega) (by first | assumption | omega) (by first | assumption | omega) (by first | assumption | omega) (by first | assumption | omega) e0 e1 e2) ⟨Nat.le_of_ble_eq_true rfl, Nat.le_of_ble_eq_true rfl⟩ ⟨Nat.le_of_ble_eq_true rfl, Nat.le_of_ble_eq_true rfl⟩ rfl (k := j) (by omega) e0 rfl rfl (Nat.le_of_ble_eq_true rfl) dX5_takeTurn_182 (fun r_31 σ_28 H locs hp_29 hH => ?_)
      obtain ⟨rt, n4, a5, g4, s4, w4, rfl, hat, hrt4, hwf4, hag4, e0, e1, e2, hq_30⟩ := hp_29
      have hf : ∀ q : Nat, q ≠ j → q ≠ (j + 1) → q ≠ (j + 2) → σ_28 q = σ q := fun q n0 n1 n2 => (hq_30 q n0 n1 n2).trans (hf q n0 n1 n2)
      refine lv_pop hx hb dX5_takeTurn_185 rfl ?_
      exact m_vret hx hb hlk hrt hH dX5_takeTurn_186 ⟨n4, a5, g4, s4, w4, (⟨_, by unfold oTuA; rw [if_neg (by omega), if_neg (by omega), if_neg (by omega), if_neg (by omega), if_neg (by omega)]; exact hat⟩), hwf4, hag4, e0, e1, e2, hf⟩
  · refine m_tabIn 156 hx hb dX5_takeTurn_9 (by omega) (by omega) (by rw [hm]; rfl) (by decide) ?_
    refine lv_aload_n hx hb dX5_takeTurn_156 rfl (lv_at hl 2 rfl) ?_
    refine m_iconst 2 hx hb dX5_takeTurn_157 rfl ?_
    refine lv_iload_n hx hb dX5_takeTurn_158 rfl (lv_at hl 0 rfl) ?_
    refine m_iconst 4 hx hb dX5_takeTurn_159 rfl ?_
    refine m_irem (((oMd (oDv r 8) 4 : Nat) : Int)) hx hb dX5_takeTurn_160 (by omega) (by omega) (by first | rfl | (unfold oMd; omega)) ?_
    refine lv_iload_n hx hb dX5_takeTurn_161 rfl (lv_at hl 0 rfl) ?_
    refine m_iconst 4 hx hb dX5_takeTurn_162 rfl ?_
    refine m_idiv (((oDv (oDv r 8) 4 : Nat) : Int)) hx hb dX5_takeTurn_163 (by omega) (by omega) (by first | rfl | (unfold oDv; omega)) ?_
    refine m_bipush 41 hx hb dX5_takeTurn_164 (by decide) ?_
    refine m_irem (((oMd (oDv (oDv r 8) 4) 41 : Nat) : Int)) hx hb dX5_takeTurn_166 (by omega) (by omega) (by first | rfl | (unfold oMd; omega)) ?_
    refine lv_iload_n hx hb dX5_takeTurn_167 rfl (lv_at hl 0 rfl) ?_
    refine m_sipush 256 hx hb dX5_takeTurn_168 (by decide) ?_
    refine m_idiv (((oDv (oDv r 8) 256 : Nat) : Int)) hx hb dX5_takeTurn_171 (by omega) (by omega) (by first | rfl | (unfold oDv; omega)) ?_
    refine m_iconst 4 hx hb dX5_takeTurn_172 rfl ?_
    refine m_irem (((oMd (oDv (oDv r 8) 256) 4 : Nat) : Int)) hx hb dX5_takeTurn_173 (by omega) (by omega) (by first | rfl | (unfold oMd; omega)) ?_
    refine m_if_eq 181 hx hb dX5_takeTurn_174 (by decide) (by omega) (fun hz => ?_) (fun hz => ?_)
    · refine m_iconst 0 hx hb dX5_takeTurn_181 rfl ?_
      refine m_callVi hx hb hml hown hts hK hH hl (rest := []) cw_X5_326 (c4_attG hA j n a g sz w 2 ((oMd (oDv r 8) 4 : Nat) : Int) ((oMd (oDv (oDv r 8) 4) 41 : Nat) : Int) 0 (by first | assumption | omega) (by first | assumption | omega) (by first | assumption | omega) (by first | assumption | omega) (by first | assumption | omega) (by first | assumption | omega) (by first | assumption | omega) e0 e1 e2) ⟨Nat.le_of_ble_eq_true rfl, Nat.le_of_ble_eq_true rfl⟩ ⟨Nat.le_of_ble_eq_true rfl, Nat.le_of_ble_eq_true rfl⟩ rfl (k := j) (by omega) e0 rfl rfl (Nat.le_of_ble_eq_true rfl) dX5_takeTurn_182 (fun r_36 σ_33 H locs hp_34 hH => ?_)
      obtain ⟨rt, n4, a5, g4, s4, w4, rfl, hat, hrt4, hwf4, hag4, e0, e1, e2, hq_35⟩ := hp_34
      have hf : ∀ q : Nat, q ≠ j → q ≠ (j + 1) → q ≠ (j + 2) → σ_33 q = σ q := fun q n0 n1 n2 => (hq_35 q n0 n1 n2).trans (hf q n0 n1 n2)
      refine lv_pop hx hb dX5_takeTurn_185 rfl ?_
      exact m_vret hx hb hlk hrt hH dX5_takeTurn_186 ⟨n4, a5, g4, s4, w4, (⟨_, by unfold oTuA; rw [if_neg (by omega), if_neg (by omega), if_neg (by omega), if_neg (by omega), if_pos (by omega)]; exact hat⟩), hwf4, hag4, e0, e1, e2, hf⟩
    · refine m_iconst 1 hx hb dX5_takeTurn_177 rfl ?_
      refine lv_goto (tgt := 182) hx hb dX5_takeTurn_178 (by decide) ?_
      refine m_callVi hx hb hml hown hts hK hH hl (rest := []) cw_X5_326 (c4_attG hA j n a g sz w 2 ((oMd (oDv r 8) 4 : Nat) : Int) ((oMd (oDv (oDv r 8) 4) 41 : Nat) : Int) 1 (by first | assumption | omega) (by first | assumption | omega) (by first | assumption | omega) (by first | assumption | omega) (by first | assumption | omega) (by first | assumption | omega) (by first | assumption | omega) e0 e1 e2) ⟨Nat.le_of_ble_eq_true rfl, Nat.le_of_ble_eq_true rfl⟩ ⟨Nat.le_of_ble_eq_true rfl, Nat.le_of_ble_eq_true rfl⟩ rfl (k := j) (by omega) e0 rfl rfl (Nat.le_of_ble_eq_true rfl) dX5_takeTurn_182 (fun r_40 σ_37 H locs hp_38 hH => ?_)
      obtain ⟨rt, n4, a5, g4, s4, w4, rfl, hat, hrt4, hwf4, hag4, e0, e1, e2, hq_39⟩ := hp_38
      have hf : ∀ q : Nat, q ≠ j → q ≠ (j + 1) → q ≠ (j + 2) → σ_37 q = σ q := fun q n0 n1 n2 => (hq_39 q n0 n1 n2).trans (hf q n0 n1 n2)
      refine lv_pop hx hb dX5_takeTurn_185 rfl ?_
      exact m_vret hx hb hlk hrt hH dX5_takeTurn_186 ⟨n4, a5, g4, s4, w4, (⟨_, by unfold oTuA; rw [if_neg (by omega), if_neg (by omega), if_neg (by omega), if_neg (by omega), if_neg (by omega)]; exact hat⟩), hwf4, hag4, e0, e1, e2, hf⟩
  · refine m_tabIn 73 hx hb dX5_takeTurn_9 (by omega) (by omega) (by rw [hm]; rfl) (by decide) ?_
    refine lv_aload_n hx hb dX5_takeTurn_73 rfl (lv_at hl 2 rfl) ?_
    refine m_iconst 3 hx hb dX5_takeTurn_74 rfl ?_
    refine lv_iload_n hx hb dX5_takeTurn_75 rfl (lv_at hl 0 rfl) ?_
    refine m_iconst 4 hx hb dX5_takeTurn_76 rfl ?_
    refine m_irem (((oMd (oDv r 8) 4 : Nat) : Int)) hx hb dX5_takeTurn_77 (by omega) (by omega) (by first | rfl | (unfold oMd; omega)) ?_
    refine m_iconst 2 hx hb dX5_takeTurn_78 rfl ?_
    refine lv_iload_n hx hb dX5_takeTurn_79 rfl (lv_at hl 0 rfl) ?_
    refine m_iconst 4 hx hb dX5_takeTurn_80 rfl ?_
    refine m_idiv (((oDv (oDv r 8) 4 : Nat) : Int)) hx hb dX5_takeTurn_81 (by omega) (by omega) (by first | rfl | (unfold oDv; omega)) ?_
    refine m_bipush 39 hx hb dX5_takeTurn_82 (by decide) ?_
    refine m_irem (((oMd (oDv (oDv r 8) 4) 39 : Nat) : Int)) hx hb dX5_takeTurn_84 (by omega) (by omega) (by first | rfl | (unfold oMd; omega)) ?_
    refine m_iadd (((oMd (oDv (oDv r 8) 4) 39 : Nat) : Int) + 2) hx hb dX5_takeTurn_85 (by omega) ?_
    refine m_iconst 0 hx hb dX5_takeTurn_86 rfl ?_
    refine m_callVi hx hb hml hown hts hK hH hl (rest := []) cw_X5_326 (c4_attG hA j n a g sz w 3 ((oMd (oDv r 8) 4 : Nat) : Int) (((oMd (oDv (oDv r 8) 4) 39 : Nat) : Int) + 2) 0 (by first | assumption | omega) (by first | assumption | omega) (by first | assumption | omega) (by first | assumption | omega) (by first | assumption | omega) (by first | assumption | omega) (by first | assumption | omega) e0 e1 e2) ⟨Nat.le_of_ble_eq_true rfl, Nat.le_of_ble_eq_true rfl⟩ ⟨Nat.le_of_ble_eq_true rfl, Nat.le_of_ble_eq_true rfl⟩ rfl (k := j) (by omega) e0 rfl rfl (Nat.le_of_ble_eq_true rfl) dX5_takeTurn_87 (fun r_44 σ_41 H locs hp_42 hH => ?_)
    obtain ⟨rt, n4, a5, g4, s4, w4, rfl, hat, hrt4, hwf4, hag4, e0, e1, e2, hq_43⟩ := hp_42
    have hf : ∀ q : Nat, q ≠ j → q ≠ (j + 1) → q ≠ (j + 2) → σ_41 q = σ q := fun q n0 n1 n2 => (hq_43 q n0 n1 n2).trans (hf q n0 n1 n2)
    refine lv_pop hx hb dX5_takeTurn_90 rfl ?_
    refine lv_goto (tgt := 186) hx hb dX5_takeTurn_91 (by decide) ?_
    exact m_vret hx hb hlk hrt hH dX5_takeTurn_186 ⟨n4, a5, g4, s4, w4, (⟨_, by unfold oTuA; rw [if_neg (by omega), if_pos (by omega)]; exact hat⟩), hwf4, hag4, e0, e1, e2, hf⟩
  · refine m_tabIn 94 hx hb dX5_takeTurn_9 (by omega) (by omega) (by rw [hm]; rfl) (by decide) ?_
    refine lv_aload_n hx hb dX5_takeTurn_94 rfl (lv_at hl 2 rfl) ?_
    refine m_iconst 4 hx hb dX5_takeTurn_95 rfl ?_
    refine lv_iload_n hx hb dX5_takeTurn_96 rfl (lv_at hl 0 rfl) ?_
    refine m_iconst 4 hx hb dX5_takeTurn_97 rfl ?_
    refine m_irem ((((oDv r 8) % 4 : Nat) : Int)) hx hb dX5_takeTurn_98 (by omega) (by omega) (by first | rfl | omega) ?_
    refine m_iconst 0 hx hb dX5_takeTurn_99 rfl ?_
    refine m_iconst 0 hx hb dX5_takeTurn_100 rfl ?_
    refine m_callVi hx hb hml hown hts hK hH hl (rest := []) cw_X5_326 (c4_attG hA j n a g sz w 4 (((oDv r 8) % 4 : Nat) : Int) 0 0 (by first | assumption | omega) (by first | assumption | omega) (by first | assumption | omega) (by first | assumption | omega) (by first | assumption | omega) (by first | assumption | omega) (by first | assumption | omega) e0 e1 e2) ⟨Nat.le_of_ble_eq_true rfl, Nat.le_of_ble_eq_true rfl⟩ ⟨Nat.le_of_ble_eq_true rfl, Nat.le_of_ble_eq_true rfl⟩ rfl (k := j) (by omega) e0 rfl rfl (Nat.le_of_ble_eq_true rfl) dX5_takeTurn_101 (fun r_48 σ_45 H locs hp_46 hH => ?_)
    obtain ⟨rt, n4, a5, g4, s4, w4, rfl, hat, hrt4, hwf4, hag4, e0, e1, e2, hq_47⟩ := hp_46
    have hf : ∀ q : Nat, q ≠ j → q ≠ (j + 1) → q ≠ (j + 2) → σ_45 q = σ q := fun q n0 n1 n2 => (hq_47 q n0 n1 n2).trans (hf q n0 n1 n2)
    refine lv_pop hx hb dX5_takeTurn_104 rfl ?_
    refine lv_goto (tgt := 186) hx hb dX5_takeTurn_105 (by decide) ?_
    exact m_vret hx hb hlk hrt hH dX5_takeTurn_186 ⟨n4, a5, g4, s4, w4, (⟨_, by unfold oTuA; rw [if_neg (by omega), if_neg (by omega), if_pos (by omega)]; exact hat⟩), hwf4, hag4, e0, e1, e2, hf⟩
  · refine m_tabIn 108 hx hb dX5_takeTurn_9 (by omega) (by omega) (by rw [hm]; rfl) (by decide) ?_
    refine lv_iload_n hx hb dX5_takeTurn_108 rfl (lv_at hl 0 rfl) ?_
    refine m_bipush 8 hx hb dX5_takeTurn_109 (by decide) ?_
    refine m_idiv (((oDv (oDv r 8) 8 : Nat) : Int)) hx hb dX5_takeTurn_111 (by omega) (by omega) (by first | rfl | (unfold oDv; omega)) ?_
    refine m_iconst 2 hx hb dX5_takeTurn_112 rfl ?_
    refine m_irem (((oMd (oDv (oDv r 8) 8) 2 : Nat) : Int)) hx hb dX5_takeTurn_113 (by omega) (by omega) (by first | rfl | (unfold oMd; omega)) ?_
    refine m_if_ne 134 hx hb dX5_takeTurn_114 (by decide) (by omega) (fun hz => ?_) (fun hz => ?_)
    · refine lv_aload_n hx hb dX5_takeTurn_134 rfl (lv_at hl 2 rfl) ?_
      refine m_iconst 5 hx hb dX5_takeTurn_135 rfl ?_
      refine m_iconst 1 hx hb dX5_takeTurn_136 rfl ?_
      refine m_bipush 10 hx hb dX5_takeTurn_137 (by decide) ?_
      refine lv_iload_n hx hb dX5_takeTurn_139 rfl (lv_at hl 0 rfl) ?_
      refine m_bipush 16 hx hb dX5_takeTurn_140 (by decide) ?_
      refine m_idiv (((oDv (oDv r 8) 16 : Nat) : Int)) hx hb dX5_takeTurn_142 (by omega) (by omega) (by first | rfl | (unfold oDv; omega)) ?_
      refine m_sipush 141 hx hb dX5_takeTurn_143 (by decide) ?_
      refine m_irem (((oMd (oDv (oDv r 8) 16) 141 : Nat) : Int)) hx hb dX5_takeTurn_146 (by omega) (by omega) (by first | rfl | (unfold oMd; omega)) ?_
      refine m_iadd (((oMd (oDv (oDv r 8) 16) 141 : Nat) : Int) + 10) hx hb dX5_takeTurn_147 (by omega) ?_
      refine m_iconst 0 hx hb dX5_takeTurn_148 rfl ?_
      refine m_callVi hx hb hml hown hts hK hH hl (rest := []) cw_X5_326 (c4_attG hA j n a g sz w 5 1 (((oMd (oDv (oDv r 8) 16) 141 : Nat) : Int) + 10) 0 (by first | assumption | omega) (by first | assumption | omega) (by first | assumption | omega) (by first | assumption | omega) (by first | assumption | omega) (by first | assumption | omega) (by first | assumption | omega) e0 e1 e2) ⟨Nat.le_of_ble_eq_true rfl, Nat.le_of_ble_eq_true rfl⟩ ⟨Nat.le_of_ble_eq_true rfl, Nat.le_of_ble_eq_true rfl⟩ rfl (k := j) (by omega) e0 rfl rfl (Nat.le_of_ble_eq_true rfl) dX5_takeTurn_149 (fun r_53 σ_50 H locs hp_51 hH => ?_)
      obtain ⟨rt, n4, a5, g4, s4, w4, rfl, hat, hrt4, hwf4, hag4, e0, e1, e2, hq_52⟩ := hp_51
      have hf : ∀ q : Nat, q ≠ j → q ≠ (j + 1) → q ≠ (j + 2) → σ_50 q = σ q := fun q n0 n1 n2 => (hq_52 q n0 n1 n2).trans (hf q n0 n1 n2)
      refine lv_pop hx hb dX5_takeTurn_152 rfl ?_
      refine lv_goto (tgt := 186) hx hb dX5_takeTurn_153 (by decide) ?_
      exact m_vret hx hb hlk hrt hH dX5_takeTurn_186 ⟨n4, a5, g4, s4, w4, (⟨_, by unfold oTuA; rw [if_neg (by omega), if_neg (by omega), if_neg (by omega), if_pos (by omega), if_neg (by omega)]; exact hat⟩), hwf4, hag4, e0, e1, e2, hf⟩
    · refine lv_aload_n hx hb dX5_takeTurn_117 rfl (lv_at hl 2 rfl) ?_
      refine m_iconst 5 hx hb dX5_takeTurn_118 rfl ?_
      refine m_iconst 0 hx hb dX5_takeTurn_119 rfl ?_
      refine m_iconst 1 hx hb dX5_takeTurn_120 rfl ?_
      refine lv_iload_n hx hb dX5_takeTurn_121 rfl (lv_at hl 0 rfl) ?_
      refine m_bipush 6 hx hb dX5_takeTurn_122 (by decide) ?_
      refine m_irem (((oMd (oDv r 8) 6 : Nat) : Int)) hx hb dX5_takeTurn_124 (by omega) (by omega) (by first | rfl | (unfold oMd; omega)) ?_
      refine m_iadd (((oMd (oDv r 8) 6 : Nat) : Int) + 1) hx hb dX5_takeTurn_125 (by omega) ?_
      refine m_iconst 0 hx hb dX5_takeTurn_126 rfl ?_
      refine m_callVi hx hb hml hown hts hK hH hl (rest := []) cw_X5_326 (c4_attG hA j n a g sz w 5 0 (((oMd (oDv r 8) 6 : Nat) : Int) + 1) 0 (by first | assumption | omega) (by first | assumption | omega) (by first | assumption | omega) (by first | assumption | omega) (by first | assumption | omega) (by first | assumption | omega) (by first | assumption | omega) e0 e1 e2) ⟨Nat.le_of_ble_eq_true rfl, Nat.le_of_ble_eq_true rfl⟩ ⟨Nat.le_of_ble_eq_true rfl, Nat.le_of_ble_eq_true rfl⟩ rfl (k := j) (by omega) e0 rfl rfl (Nat.le_of_ble_eq_true rfl) dX5_takeTurn_127 (fun r_57 σ_54 H locs hp_55 hH => ?_)
      obtain ⟨rt, n4, a5, g4, s4, w4, rfl, hat, hrt4, hwf4, hag4, e0, e1, e2, hq_56⟩ := hp_55
      have hf : ∀ q : Nat, q ≠ j → q ≠ (j + 1) → q ≠ (j + 2) → σ_54 q = σ q := fun q n0 n1 n2 => (hq_56 q n0 n1 n2).trans (hf q n0 n1 n2)
      refine lv_pop hx hb dX5_takeTurn_130 rfl ?_
      refine lv_goto (tgt := 186) hx hb dX5_takeTurn_131 (by decide) ?_
      exact m_vret hx hb hlk hrt hH dX5_takeTurn_186 ⟨n4, a5, g4, s4, w4, (⟨_, by unfold oTuA; rw [if_neg (by omega), if_neg (by omega), if_neg (by omega), if_pos (by omega), if_pos (by omega)]; exact hat⟩), hwf4, hag4, e0, e1, e2, hf⟩
  · refine m_tabOut 156 hx hb dX5_takeTurn_9 (by omega) hm (by decide) ?_
    refine lv_aload_n hx hb dX5_takeTurn_156 rfl (lv_at hl 2 rfl) ?_
    refine m_iconst 2 hx hb dX5_takeTurn_157 rfl ?_
    refine lv_iload_n hx hb dX5_takeTurn_158 rfl (lv_at hl 0 rfl) ?_
    refine m_iconst 4 hx hb dX5_takeTurn_159 rfl ?_
    refine m_irem (((oMd (oDv r 8) 4 : Nat) : Int)) hx hb dX5_takeTurn_160 (by omega) (by omega) (by first | rfl | (unfold oMd; omega)) ?_
    refine lv_iload_n hx hb dX5_takeTurn_161 rfl (lv_at hl 0 rfl) ?_
    refine m_iconst 4 hx hb dX5_takeTurn_162 rfl ?_
    refine m_idiv (((oDv (oDv r 8) 4 : Nat) : Int)) hx hb dX5_takeTurn_163 (by omega) (by omega) (by first | rfl | (unfold oDv; omega)) ?_
    refine m_bipush 41 hx hb dX5_takeTurn_164 (by decide) ?_
    refine m_irem (((oMd (oDv (oDv r 8) 4) 41 : Nat) : Int)) hx hb dX5_takeTurn_166 (by omega) (by omega) (by first | rfl | (unfold oMd; omega)) ?_
    refine lv_iload_n hx hb dX5_takeTurn_167 rfl (lv_at hl 0 rfl) ?_
    refine m_sipush 256 hx hb dX5_takeTurn_168 (by decide) ?_
    refine m_idiv (((oDv (oDv r 8) 256 : Nat) : Int)) hx hb dX5_takeTurn_171 (by omega) (by omega) (by first | rfl | (unfold oDv; omega)) ?_
    refine m_iconst 4 hx hb dX5_takeTurn_172 rfl ?_
    refine m_irem (((oMd (oDv (oDv r 8) 256) 4 : Nat) : Int)) hx hb dX5_takeTurn_173 (by omega) (by omega) (by first | rfl | (unfold oMd; omega)) ?_
    refine m_if_eq 181 hx hb dX5_takeTurn_174 (by decide) (by omega) (fun hz => ?_) (fun hz => ?_)
    · refine m_iconst 0 hx hb dX5_takeTurn_181 rfl ?_
      refine m_callVi hx hb hml hown hts hK hH hl (rest := []) cw_X5_326 (c4_attG hA j n a g sz w 2 ((oMd (oDv r 8) 4 : Nat) : Int) ((oMd (oDv (oDv r 8) 4) 41 : Nat) : Int) 0 (by first | assumption | omega) (by first | assumption | omega) (by first | assumption | omega) (by first | assumption | omega) (by first | assumption | omega) (by first | assumption | omega) (by first | assumption | omega) e0 e1 e2) ⟨Nat.le_of_ble_eq_true rfl, Nat.le_of_ble_eq_true rfl⟩ ⟨Nat.le_of_ble_eq_true rfl, Nat.le_of_ble_eq_true rfl⟩ rfl (k := j) (by omega) e0 rfl rfl (Nat.le_of_ble_eq_true rfl) dX5_takeTurn_182 (fun r_62 σ_59 H locs hp_60 hH => ?_)
      obtain ⟨rt, n4, a5, g4, s4, w4, rfl, hat, hrt4, hwf4, hag4, e0, e1, e2, hq_61⟩ := hp_60
      have hf : ∀ q : Nat, q ≠ j → q ≠ (j + 1) → q ≠ (j + 2) → σ_59 q = σ q := fun q n0 n1 n2 => (hq_61 q n0 n1 n2).trans (hf q n0 n1 n2)
      refine lv_pop hx hb dX5_takeTurn_185 rfl ?_
      exact m_vret hx hb hlk hrt hH dX5_takeTurn_186 ⟨n4, a5, g4, s4, w4, (⟨_, by unfold oTuA; rw [if_neg (by omega), if_neg (by omega), if_neg (by omega), if_neg (by omega), if_pos (by omega)]; exact hat⟩), hwf4, hag4, e0, e1, e2, hf⟩
    · refine m_iconst 1 hx hb dX5_takeTurn_177 rfl ?_
      refine lv_goto (tgt := 182) hx hb dX5_takeTurn_178 (by decide) ?_
      refine m_callVi hx hb hml hown hts hK hH hl (rest := []) cw_X5_326 (c4_attG hA j n a g sz w 2 ((oMd (oDv r 8) 4 : Nat) : Int) ((oMd (oDv (oDv r 8) 4) 41 : Nat) : Int) 1 (by first | assumption | omega) (by first | assumption | omega) (by first | assumption | omega) (by first | assumption | omega) (by first | assumption | omega) (by first | assumption | omega) (by first | assumption | omega) e0 e1 e2) ⟨Nat.le_of_ble_eq_true rfl, Nat.le_of_ble_eq_true rfl⟩ ⟨Nat.le_of_ble_eq_true rfl, Nat.le_of_ble_eq_true rfl⟩ rfl (k := j) (by omega) e0 rfl rfl (Nat.le_of_ble_eq_true rfl) dX5_takeTurn_182 (fun r_66 σ_63 H locs hp_64 hH => ?_)
      obtain ⟨rt, n4, a5, g4, s4, w4, rfl, hat, hrt4, hwf4, hag4, e0, e1, e2, hq_65⟩ := hp_64
      have hf : ∀ q : Nat, q ≠ j → q ≠ (j + 1) → q ≠ (j + 2) → σ_63 q = σ q := fun q n0 n1 n2 => (hq_65 q n0 n1 n2).trans (hf q n0 n1 n2)
      refine lv_pop hx hb dX5_takeTurn_185 rfl ?_
      exact m_vret hx hb hlk hrt hH dX5_takeTurn_186 ⟨n4, a5, g4, s4, w4, (⟨_, by unfold oTuA; rw [if_neg (by omega), if_neg (by omega), if_neg (by omega), if_neg (by omega), if_neg (by omega)]; exact hat⟩), hwf4, hag4, e0, e1, e2, hf⟩
