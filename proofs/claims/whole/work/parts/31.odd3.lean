theorem fb_ct_hit {f : Nat → Bool} {j : Nat} : ∀ g : Nat, j < fb_ct f g → ∃ i, i < g ∧ f i = true ∧ fb_ct f i = j
  | 0, h => absurd h (Nat.not_lt_zero _)
  | g + 1, h => by
    rw [fb_ct_succ] at h
    by_cases hj : j < fb_ct f g
    · obtain ⟨i, h1, h2, h3⟩ := fb_ct_hit g hj
      exact ⟨i, by omega, h2, h3⟩
    · by_cases b : f g = true
      · rw [if_pos b] at h
        exact ⟨g, Nat.lt_succ_self _, b, by omega⟩
      · rw [if_neg b] at h
        omega
theorem oGs_in {sp k g j : Nat} (h : j < oGaps sp k g) : 1 ≤ oGs sp k g j ∧ oGs sp k g j ≤ (g : Int) := by
  obtain ⟨i, h1, h2, h3⟩ := fb_ct_hit g h
  rw [oGs_at h1 h2 h3]
  omega
/-- a span by its rank: its two marks -/
theorem oLH {w k : Nat} (hw : w < 2 ^ 41) (h : k < oRk w 41) : ∃ p q, p < q ∧ q ≤ 40 ∧ w.testBit p = true ∧ w.testBit q = true ∧ oRk w p + oBt w p q = k := by
  have key : ∀ m : Nat, m ≤ 41 → k < oRk w m → ∃ p, p < m ∧ oRk w p ≤ k ∧ k < oRk w (p + 1) := by
    intro m
    induction m with
    | zero => intro _ h0; exact absurd h0 (Nat.not_lt_zero _)
    | succ m ih =>
      intro hm h1
      by_cases h2 : k < oRk w m
      · obtain ⟨p, a, b, c⟩ := ih (by omega) h2
        exact ⟨p, by omega, b, c⟩
      · exact ⟨m, Nat.lt_succ_self _, by omega, h1⟩
  obtain ⟨p, hp, h1, h2⟩ := key 41 (Nat.le_refl _) h
  have bp : w.testBit p = true := Classical.byContradiction (fun b => by rw [oRk_n b] at h2; omega)
  rw [oRk_y bp] at h2
  obtain ⟨q, hq, h3, h4⟩ := fb_ct_hit (f := fun q => decide (p < q) && w.testBit q) (j := k - oRk w p) 64 (by show k - oRk w p < oUp w p; omega)
  simp only [Bool.and_eq_true, decide_eq_true_eq] at h3
  refine ⟨p, q, h3.1, ?_, bp, h3.2, ?_⟩
  · refine Classical.byContradiction (fun hq40 => ?_)
    rw [Nat.testBit_lt_two_pow (Nat.lt_of_lt_of_le hw (Nat.pow_le_pow_right (by decide) (by omega)))] at h3
    exact absurd h3.2 (by decide)
  · have : oBt w p q = k - oRk w p := h4
    omega
theorem oLH_lt {w k : Nat} (hw : w < 2 ^ 41) (h : k < oRk w 41) : oLow w k < oHigh w k ∧ oHigh w k ≤ 40 := by
  obtain ⟨p, q, h1, h2, h3, h4, h5⟩ := oLH hw h
  obtain ⟨e1, e2⟩ := oPair h2 h1 h3 h4 h5
  omega
def oEq {α : Type} (a b : α) : Prop := a = b
def oEq2 (a : Prop) : Prop := a
def oSpa (x : Int) (n : Nat) (ws : Nat → Nat) (w k : Nat) : Int := if x = 0 then (oLow w k : Int) else if x = 1 then (oHigh w k : Int) else if x = 2 then (oHigh w k : Int) - (oLow w k : Int) else (oAllP n ws (oHigh w k - oLow w k) 4 : Int)
noncomputable def oGpa (x : Int) (sp a g k : Nat) : Int := if x = 0 then oGs sp a g k else (oGl sp a g (oGs sp a g k).toNat : Int)
theorem oRefA_b (k : Int) (n : Nat) (sz : Nat → Nat) (r p on : Int) : 0 ≤ oRefA k n sz r p on ∧ oRefA k n sz r p on ≤ 3 := by
  unfold oRefA
  have h1 := oRef1_b n r
  have h2 := oRef2_b n sz r p on
  have h3 := oRef3_b n sz r p
  have h4 := oRef4_b n r
  have h5 := oRef5_b r p
  split
  · exact h1
  · split
    · exact h2
    · split
      · exact h3
      · split
        · exact h4
        · exact h5
set_option maxHeartbeats 4000000 in
set_option maxRecDepth 100000 in
theorem c5_span {l : Launch} {D : va_G} {cT : Nat → ClassId} {N b0 : Nat} {ad : Nat → Nat} (hA : oAd b0 N ad) {σ : Nat → va_E} (r k x : Int) (n a g : Nat) (sz w : Nat → Nat) (ff sf : Int) (hl0 : l.stackTraces = false) (hN : 76 ≤ N) (hwf : oWf n sz w) (hbr : -2147483648 ≤ r ∧ r < 2147483648) (hbk : -2147483648 ≤ k ∧ k < 2147483648) (hbx : -2147483648 ≤ x ∧ x < 2147483648) (eO : σ (0) = .inr (5, [.ref (ad (1)), .ref (ad (4)), .ref (ad (7)), .ref (ad (10)), .int (oI (ff)), .int (oI (sf)), .ref (ad (13)), .ref (ad (57)), .ref (ad (59)), .ref (ad (64))])) (e0 : σ (1) = .inr (4, [.ref (ad (2)), .ref (ad (3)), .int (oI (((n : Nat) : Int))), .int (oI (((a : Nat) : Int))), .int (oI (((g : Nat) : Int)))])) (e1 : σ (2) = oAN cT 4 sz) (e2 : σ (3) = oAJ cT 4 w) :
    oXi l D cT N ad b0 yX5_span cX5_span 6 (some .int) 6 90 1 [.ref (ad (0)), .int (oI (r)), .int (oI (k)), .int (oI (x))] σ (fun rr uu => rr = oI ((oSpa x n w (oRow n w r) k.toNat)) ∧ (((0 ≤ r ∧ r < (n : Int)) ∧ 0 ≤ k ∧ k < (oSp (pcnt (oRow n w r)) : Int))) ∧ (0 ≤ x ∧ x ≤ 3) ∧ uu = σ) (fun E uu => ((E = oIO ∧ ¬ ((0 ≤ r ∧ r < (n : Int)) ∧ 0 ≤ k ∧ k < (oSp (pcnt (oRow n w r)) : Int))) ∨ (E = oIA ∧ ((0 ≤ r ∧ r < (n : Int)) ∧ 0 ≤ k ∧ k < (oSp (pcnt (oRow n w r)) : Int)) ∧ ¬ (0 ≤ x ∧ x ≤ 3))) ∧ uu = σ) := by
  refine m_startX (cc := cX5_span) (by decide) (Nat.le_of_ble_eq_true rfl) rfl ?_
  intro Pp Ee Ss Mm Bb Me Cc Ar ls hx hb hml hown hlk hrt hts hK hH hl hXT hnt
  have hown : Ss.vm.findClass RX5 = some Mm.cls := hown
  have hn := hwf.1
  have hsz := oSize_le hwf
  have hw64 := oRow_64 hwf
  have hw41 := oRow_lt hwf
  obtain ⟨S9, hS9⟩ : ∃ y : Nat, oEq (oSp (pcnt (oRow n w r))) y := ⟨_, rfl⟩
  obtain ⟨L9, hL9⟩ : ∃ y : Nat, oEq (oLow (oRow n w r) k.toNat) y := ⟨_, rfl⟩
  obtain ⟨G9, hG9⟩ : ∃ y : Nat, oEq (oHigh (oRow n w r) k.toNat) y := ⟨_, rfl⟩
  have hSL : S9 ≤ 2624 := by rw [← (show oSp (pcnt (oRow n w r)) = S9 from hS9), ← oRk_41 (hw41 r)]; exact oRk_le _ 41
  have hLG : k.toNat < S9 → L9 < G9 ∧ G9 ≤ 40 := fun q => by rw [← (show oLow (oRow n w r) k.toNat = L9 from hL9), ← (show oHigh (oRow n w r) k.toNat = G9 from hG9)]; exact oLH_lt (hw41 r) (by rw [oRk_41 (hw41 r), (show oSp (pcnt (oRow n w r)) = S9 from hS9)]; exact q)
  have hkR : k.toNat < S9 → oEq2 (k.toNat < oRk (oRow n w r) 41) := fun q => by show k.toNat < oRk (oRow n w r) 41; rw [oRk_41 (hw41 r), (show oSp (pcnt (oRow n w r)) = S9 from hS9)]; exact q
  have hl : lv_has ls 6 [(0, .ref (ad (0))), (1, .int (oI (r))), (2, .int (oI (k))), (3, .int (oI (x)))] := hl
  refine lv_aload_n hx hb dX5_span_0 rfl (lv_at hl 0 rfl) ?_
  refine gf_X5_present hx hb hts hown hK hH (k := 0) (by omega) eO dX5_span_1 ?_
  refine lv_iload_n hx hb dX5_span_4 rfl (lv_at hl 1 rfl) ?_
  refine m_pVb hx hb hml hown hts hK hH hl (rest := []) cw_X5_173 (c4_hasRuler hA 1 n a g sz w r (by first | assumption | omega) (by first | assumption | omega) (by first | assumption | omega) e0 e1 e2) ⟨Nat.le_of_ble_eq_true rfl, Nat.le_of_ble_eq_true rfl⟩ ⟨Nat.le_of_ble_eq_true rfl, Nat.le_of_ble_eq_true rfl⟩ rfl (k := 1) (by omega) e0 rfl rfl (Nat.le_of_ble_eq_true rfl) dX5_span_5 (fun hP H locs hH => ?_) (fun hP H locs hH => ?_)
  · refine m_if_eq 27 hx hb dX5_span_8 (by decide) (by omega) (fun h_1 => absurd h_1 (by omega)) (fun h_1 => ?_)
    refine lv_iload_n hx hb dX5_span_11 rfl (lv_at hl 2 rfl) ?_
    refine m_if_lt 27 hx hb dX5_span_12 (by decide) (by omega) (fun h_2 => ?_) (fun h_2 => ?_)
    · exact m_throw (text := "no such span") hx hb hl0 hml hown hts hK hXT hH hl hlk hnt oth_2 (by decide) dX5_span_27 dX5_span_30 dX5_span_31 dX5_span_33 dX5_span_36 ⟨Nat.le_of_ble_eq_true rfl, Nat.le_of_ble_eq_true rfl⟩ (Nat.le_of_ble_eq_true rfl) ⟨Nat.le_of_ble_eq_true rfl, Nat.le_of_ble_eq_true rfl⟩ ⟨Nat.le_of_ble_eq_true rfl, Nat.le_of_ble_eq_true rfl⟩ (⟨Or.inl ⟨rfl, fun q => by rw [(show oSp (pcnt (oRow n w r)) = S9 from hS9)] at q; first | omega | exact hP q.1⟩, rfl⟩)
    · refine lv_iload_n hx hb dX5_span_15 rfl (lv_at hl 2 rfl) ?_
      refine lv_aload_n hx hb dX5_span_16 rfl (lv_at hl 0 rfl) ?_
      refine gf_X5_present hx hb hts hown hK hH (k := 0) (by omega) eO dX5_span_17 ?_
      refine lv_iload_n hx hb dX5_span_20 rfl (lv_at hl 1 rfl) ?_
      refine m_pVi hx hb hml hown hts hK hH hl (rest := [.int (oI (k))]) cw_X5_144 (c4_spansOf hA 1 n a g sz w r (by first | assumption | omega) (by first | assumption | omega) (by first | assumption | omega) e0 e1 e2) ⟨Nat.le_of_ble_eq_true rfl, Nat.le_of_ble_eq_true rfl⟩ ⟨Nat.le_of_ble_eq_true rfl, Nat.le_of_ble_eq_true rfl⟩ rfl (k := 1) (by omega) e0 rfl rfl (Nat.le_of_ble_eq_true rfl) dX5_span_21 (fun H locs hH => ?_)
      refine m_topI (((S9 : Nat) : Int)) (by rw [(show oSp (pcnt (oRow n w r)) = S9 from hS9)]) ?_
      refine m_icmp_lt 37 hx hb dX5_span_24 (by decide) (by omega) (by omega) (fun h_3 => ?_) (fun h_3 => ?_)
      · refine lv_aload_n hx hb dX5_span_37 rfl (lv_at hl 0 rfl) ?_
        refine gf_X5_present hx hb hts hown hK hH (k := 0) (by omega) eO dX5_span_38 ?_
        refine lv_iload_n hx hb dX5_span_41 rfl (lv_at hl 1 rfl) ?_
        refine lv_iload_n hx hb dX5_span_42 rfl (lv_at hl 2 rfl) ?_
        refine m_topI (((k.toNat : Nat) : Int)) (by omega) ?_
        refine m_pVi hx hb hml hown hts hK hH hl (rest := []) cw_X5_179 (c4_lowerMark hA 1 n a g sz w r k.toNat (by first | assumption | omega) (by first | assumption | omega) (by first | assumption | omega) (hkR (by omega)) e0 e1 e2) ⟨Nat.le_of_ble_eq_true rfl, Nat.le_of_ble_eq_true rfl⟩ ⟨Nat.le_of_ble_eq_true rfl, Nat.le_of_ble_eq_true rfl⟩ rfl (k := 1) (by omega) e0 rfl rfl (Nat.le_of_ble_eq_true rfl) dX5_span_43 (fun H locs hH => ?_)
        refine m_topI (((L9 : Nat) : Int)) (by rw [(show oLow (oRow n w r) k.toNat = L9 from hL9)]) ?_
        have hLG9 := hLG (by omega)
        refine lv_istore (lv' := [(4, .int (oI (((L9 : Nat) : Int)))), (0, .ref (ad (0))), (1, .int (oI (r))), (2, .int (oI (k))), (3, .int (oI (x)))]) hx hb dX5_span_46 hl (by decide) rfl (fun ls hl => ?_)
        refine lv_aload_n hx hb dX5_span_48 rfl (lv_at hl 1 rfl) ?_
        refine gf_X5_present hx hb hts hown hK hH (k := 0) (by omega) eO dX5_span_49 ?_
        refine lv_iload_n hx hb dX5_span_52 rfl (lv_at hl 2 rfl) ?_
        refine lv_iload_n hx hb dX5_span_53 rfl (lv_at hl 3 rfl) ?_
        refine m_topI (((k.toNat : Nat) : Int)) (by omega) ?_
        refine m_pVi hx hb hml hown hts hK hH hl (rest := []) cw_X5_183 (c4_greaterMark hA 1 n a g sz w r k.toNat (by first | assumption | omega) (by first | assumption | omega) (by first | assumption | omega) (hkR (by omega)) e0 e1 e2) ⟨Nat.le_of_ble_eq_true rfl, Nat.le_of_ble_eq_true rfl⟩ ⟨Nat.le_of_ble_eq_true rfl, Nat.le_of_ble_eq_true rfl⟩ rfl (k := 1) (by omega) e0 rfl rfl (Nat.le_of_ble_eq_true rfl) dX5_span_54 (fun H locs hH => ?_)
        refine m_topI (((G9 : Nat) : Int)) (by rw [(show oHigh (oRow n w r) k.toNat = G9 from hG9)]) ?_
        refine lv_istore (lv' := [(5, .int (oI (((G9 : Nat) : Int)))), (4, .int (oI (((L9 : Nat) : Int)))), (0, .ref (ad (0))), (1, .int (oI (r))), (2, .int (oI (k))), (3, .int (oI (x)))]) hx hb dX5_span_57 hl (by decide) rfl (fun ls hl => ?_)
        refine lv_iload_n hx hb dX5_span_59 rfl (lv_at hl 5 rfl) ?_
        rcases (show (x : Int) = 0 ∨ (x : Int) = 1 ∨ (x : Int) = 2 ∨ (x : Int) = 3 ∨ ((x : Int) < 0 ∨ 3 < (x : Int)) by omega) with hxx | hxx | hxx | hxx | hxx
        · refine m_tabIn 92 hx hb dX5_span_60 (by omega) (by omega) (by rw [hxx]; rfl) (by decide) ?_
          refine lv_iload hx hb dX5_span_92 (lv_at hl 1 rfl) ?_
          exact m_iretX hx hb hlk hrt hH ⟨Nat.le_of_ble_eq_true rfl, Nat.le_of_ble_eq_true rfl⟩ (m_ni _) dX5_span_94 ⟨congrArg oI (by unfold oSpa; rw [if_pos (by omega), (show oLow (oRow n w r) k.toNat = L9 from hL9)]), ⟨hP, by omega, by rw [(show oSp (pcnt (oRow n w r)) = S9 from hS9)]; omega⟩, (by omega), rfl⟩
        · refine m_tabIn 95 hx hb dX5_span_60 (by omega) (by omega) (by rw [hxx]; rfl) (by decide) ?_
          refine lv_iload hx hb dX5_span_95 (lv_at hl 0 rfl) ?_
          exact m_iretX hx hb hlk hrt hH ⟨Nat.le_of_ble_eq_true rfl, Nat.le_of_ble_eq_true rfl⟩ (m_ni _) dX5_span_97 ⟨congrArg oI (by unfold oSpa; rw [if_neg (by omega), if_pos (by omega), (show oHigh (oRow n w r) k.toNat = G9 from hG9)]), ⟨hP, by omega, by rw [(show oSp (pcnt (oRow n w r)) = S9 from hS9)]; omega⟩, (by omega), rfl⟩
        · refine m_tabIn 98 hx hb dX5_span_60 (by omega) (by omega) (by rw [hxx]; rfl) (by decide) ?_
          refine lv_iload hx hb dX5_span_98 (lv_at hl 0 rfl) ?_
          refine lv_iload hx hb dX5_span_100 (lv_at hl 1 rfl) ?_
          refine m_isub (((G9 : Nat) : Int) - ((L9 : Nat) : Int)) hx hb dX5_span_102 (by omega) ?_
          exact m_iretX hx hb hlk hrt hH ⟨Nat.le_of_ble_eq_true rfl, Nat.le_of_ble_eq_true rfl⟩ (m_ni _) dX5_span_103 ⟨congrArg oI (by unfold oSpa; rw [if_neg (by omega), if_neg (by omega), if_pos (by omega), (show oHigh (oRow n w r) k.toNat = G9 from hG9), (show oLow (oRow n w r) k.toNat = L9 from hL9)]), ⟨hP, by omega, by rw [(show oSp (pcnt (oRow n w r)) = S9 from hS9)]; omega⟩, (by omega), rfl⟩
        · refine m_tabIn 104 hx hb dX5_span_60 (by omega) (by omega) (by rw [hxx]; rfl) (by decide) ?_
          refine lv_aload_n hx hb dX5_span_104 rfl (lv_at hl 2 rfl) ?_
          refine gf_X5_present hx hb hts hown hK hH (k := 0) (by omega) eO dX5_span_105 ?_
          refine lv_iload hx hb dX5_span_108 (lv_at hl 0 rfl) ?_
          refine lv_iload hx hb dX5_span_110 (lv_at hl 1 rfl) ?_
          refine m_isub (((G9 : Nat) : Int) - ((L9 : Nat) : Int)) hx hb dX5_span_112 (by omega) ?_
          refine m_topI (((G9 - L9 : Nat) : Int)) (by omega) ?_
          refine m_pVi hx hb hml hown hts hK hH hl (rest := []) cw_X5_186 (c4_spansOfLength hA 1 n a g sz w (G9 - L9) (by first | assumption | omega) (by first | assumption | omega) (by first | assumption | omega) e0 e1 e2) ⟨Nat.le_of_ble_eq_true rfl, Nat.le_of_ble_eq_true rfl⟩ ⟨Nat.le_of_ble_eq_true rfl, Nat.le_of_ble_eq_true rfl⟩ rfl (k := 1) (by omega) e0 rfl rfl (Nat.le_of_ble_eq_true rfl) dX5_span_113 (fun H locs hH => ?_)
          exact m_iretX hx hb hlk hrt hH ⟨Nat.le_of_ble_eq_true rfl, Nat.le_of_ble_eq_true rfl⟩ (m_ni _) dX5_span_116 ⟨congrArg oI (by unfold oSpa; rw [if_neg (by omega), if_neg (by omega), if_neg (by omega), (show oHigh (oRow n w r) k.toNat = G9 from hG9), (show oLow (oRow n w r) k.toNat = L9 from hL9)]), ⟨hP, by omega, by rw [(show oSp (pcnt (oRow n w r)) = S9 from hS9)]; omega⟩, (by omega), rfl⟩
        · refine m_tabOut 117 hx hb dX5_span_60 (by omega) hxx (by decide) ?_
          exact m_throw (text := "no such number") hx hb hl0 hml hown hts hK hXT hH hl hlk hnt oth_0 (by decide) dX5_span_117 dX5_span_120 dX5_span_121 dX5_span_123 dX5_span_126 ⟨Nat.le_of_ble_eq_true rfl, Nat.le_of_ble_eq_true rfl⟩ (Nat.le_of_ble_eq_true rfl) ⟨Nat.le_of_ble_eq_true rfl, Nat.le_of_ble_eq_true rfl⟩ ⟨Nat.le_of_ble_eq_true rfl, Nat.le_of_ble_eq_true rfl⟩ (⟨Or.inr ⟨rfl, ⟨hP, by omega, by rw [(show oSp (pcnt (oRow n w r)) = S9 from hS9)]; omega⟩, by omega⟩, rfl⟩)
      · exact m_throw (text := "no such span") hx hb hl0 hml hown hts hK hXT hH hl hlk hnt oth_2 (by decide) dX5_span_27 dX5_span_30 dX5_span_31 dX5_span_33 dX5_span_36 ⟨Nat.le_of_ble_eq_true rfl, Nat.le_of_ble_eq_true rfl⟩ (Nat.le_of_ble_eq_true rfl) ⟨Nat.le_of_ble_eq_true rfl, Nat.le_of_ble_eq_true rfl⟩ ⟨Nat.le_of_ble_eq_true rfl, Nat.le_of_ble_eq_true rfl⟩ (⟨Or.inl ⟨rfl, fun q => by rw [(show oSp (pcnt (oRow n w r)) = S9 from hS9)] at q; first | omega | exact hP q.1⟩, rfl⟩)
  · refine m_if_eq 27 hx hb dX5_span_8 (by decide) (by omega) (fun h_4 => ?_) (fun h_4 => absurd h_4 (by omega))
    exact m_throw (text := "no such span") hx hb hl0 hml hown hts hK hXT hH hl hlk hnt oth_2 (by decide) dX5_span_27 dX5_span_30 dX5_span_31 dX5_span_33 dX5_span_36 ⟨Nat.le_of_ble_eq_true rfl, Nat.le_of_ble_eq_true rfl⟩ (Nat.le_of_ble_eq_true rfl) ⟨Nat.le_of_ble_eq_true rfl, Nat.le_of_ble_eq_true rfl⟩ ⟨Nat.le_of_ble_eq_true rfl, Nat.le_of_ble_eq_true rfl⟩ (⟨Or.inl ⟨rfl, fun q => by rw [(show oSp (pcnt (oRow n w r)) = S9 from hS9)] at q; first | omega | exact hP q.1⟩, rfl⟩)
set_option maxHeartbeats 4000000 in
set_option maxRecDepth 100000 in
theorem c5_gap {l : Launch} {D : va_G} {cT : Nat → ClassId} {N b0 : Nat} {ad : Nat → Nat} (hA : oAd b0 N ad) {σ : Nat → va_E} (k x : Int) (n a g : Nat) (sz w : Nat → Nat) (ld : Nat) (wr gr : Nat → Nat) (ff sf : Int) (hl0 : l.stackTraces = false) (hN : 76 ≤ N) (hwf : oWf n sz w) (hag : oAg a g) (hbk : -2147483648 ≤ k ∧ k < 2147483648) (hbx : -2147483648 ≤ x ∧ x < 2147483648) (eO : σ (0) = .inr (5, [.ref (ad (1)), .ref (ad (4)), .ref (ad (7)), .ref (ad (10)), .int (oI (ff)), .int (oI (sf)), .ref (ad (13)), .ref (ad (57)), .ref (ad (59)), .ref (ad (64))])) (e0 : σ (1) = .inr (4, [.ref (ad (2)), .ref (ad (3)), .int (oI (((n : Nat) : Int))), .int (oI (((a : Nat) : Int))), .int (oI (((g : Nat) : Int)))])) (e1 : σ (2) = oAN cT 4 sz) (e2 : σ (3) = oAJ cT 4 w) (e59 : σ (59) = .inr (3, [.ref (ad (60)), .ref (ad (61)), .int (oI (((ld : Nat) : Int))), .ref (ad (62)), .ref (ad (63))])) (e62 : σ (62) = oAJ cT 4 wr) (e63 : σ (63) = oAJ cT 4 gr) :
    oXi l D cT N ad b0 yX5_gap cX5_gap 4 (some .int) 6 115 1 [.ref (ad (0)), .int (oI (k)), .int (oI (x))] σ (fun rr uu => ∃ w2 : Nat → Nat, ∃ gr2 : Nat → Nat, rr = oI ((oGpa x (oOrW n w (-1) 4) a g k.toNat)) ∧ ((0 ≤ k ∧ k < (oGaps (oOrW n w (-1) 4) a g : Int))) ∧ (x = 0 ∨ x = 1) ∧ uu (62) = oAJ cT 4 w2 ∧ uu (63) = oAJ cT 4 gr2 ∧ (∀ q : Nat, q ≠ 62 → q ≠ 63 → uu q = σ q)) (fun E uu => ((E = oIO ∧ ¬ (0 ≤ k ∧ k < (oGaps (oOrW n w (-1) 4) a g : Int))) ∨ (E = oIA ∧ (0 ≤ k ∧ k < (oGaps (oOrW n w (-1) 4) a g : Int)) ∧ ¬ (x = 0 ∨ x = 1))) ∧ ∃ w2 gr2 : Nat → Nat, uu (62) = oAJ cT 4 w2 ∧ uu (63) = oAJ cT 4 gr2 ∧ ∀ q : Nat, q ≠ 62 → q ≠ 63 → uu q = σ q) := by
  refine m_startX (cc := cX5_gap) (by decide) (Nat.le_of_ble_eq_true rfl) rfl ?_
  intro Pp Ee Ss Mm Bb Me Cc Ar ls hx hb hml hown hlk hrt hts hK hH hl hXT hnt
  have hown : Ss.vm.findClass RX5 = some Mm.cls := hown
  have hn := hwf.1
  have hsz := oSize_le hwf
  have hw64 := oRow_64 hwf
  have hw41 := oRow_lt hwf
  have hs64 := oOrW_64 n w (-1) 4
  have ha6 := hag.1
  have hg150 := hag.2
  have hgl := oGaps_le (oOrW n w (-1) 4) a g
  have hl : lv_has ls 4 [(0, .ref (ad (0))), (1, .int (oI (k))), (2, .int (oI (x)))] := hl
  have hf : ∀ q : Nat, q ≠ 62 → q ≠ 63 → σ q = σ q := fun q _ _ => rfl
  refine lv_iload_n hx hb dX5_gap_0 rfl (lv_at hl 1 rfl) ?_
  refine m_if_lt 16 hx hb dX5_gap_1 (by decide) (by omega) (fun h_1 => ?_) (fun h_1 => ?_)
  · exact m_throw (text := "no such gap") hx hb hl0 hml hown hts hK hXT hH hl hlk hnt oth_2 (by decide) dX5_gap_16 dX5_gap_19 dX5_gap_20 dX5_gap_22 dX5_gap_25 ⟨Nat.le_of_ble_eq_true rfl, Nat.le_of_ble_eq_true rfl⟩ (Nat.le_of_ble_eq_true rfl) ⟨Nat.le_of_ble_eq_true rfl, Nat.le_of_ble_eq_true rfl⟩ ⟨Nat.le_of_ble_eq_true rfl, Nat.le_of_ble_eq_true rfl⟩ (⟨Or.inl ⟨rfl, fun q => by omega⟩, wr, gr, e62, e63, hf⟩)
  · refine lv_iload_n hx hb dX5_gap_4 rfl (lv_at hl 1 rfl) ?_
    refine lv_aload_n hx hb dX5_gap_5 rfl (lv_at hl 0 rfl) ?_
    refine lv_aload_n hx hb dX5_gap_6 rfl (lv_at hl 0 rfl) ?_
    refine gf_X5_present hx hb hts hown hK hH (k := 0) (by omega) eO dX5_gap_7 ?_
    refine m_callVi hx hb hml hown hts hK hH hl (rest := [.int (oI (k))]) cw_X5_123 (c5_gaps hA 1 n a g sz w ld wr gr ff sf (by first | assumption | omega) (by first | assumption | omega) (by first | assumption | omega) (by first | assumption | omega) eO e0 e1 e2 e59 e62 e63) ⟨Nat.le_of_ble_eq_true rfl, Nat.le_of_ble_eq_true rfl⟩ ⟨Nat.le_of_ble_eq_true rfl, Nat.le_of_ble_eq_true rfl⟩ rfl (k := 0) (by omega) eO rfl rfl (Nat.le_of_ble_eq_true rfl) dX5_gap_10 (fun r_5 σ_2 H locs hp_3 hH => ?_)
    obtain ⟨w3, gr3, rfl, hX, e62, e63, hq_4⟩ := hp_3
    have eO : σ_2 (0) = .inr (5, [.ref (ad (1)), .ref (ad (4)), .ref (ad (7)), .ref (ad (10)), .int (oI (ff)), .int (oI (sf)), .ref (ad (13)), .ref (ad (57)), .ref (ad (59)), .ref (ad (64))]) := (hq_4 _ (by decide) (by decide)).trans eO
    have e0 : σ_2 (1) = .inr (4, [.ref (ad (2)), .ref (ad (3)), .int (oI (((n : Nat) : Int))), .int (oI (((a : Nat) : Int))), .int (oI (((g : Nat) : Int)))]) := (hq_4 _ (by decide) (by decide)).trans e0
    have e1 : σ_2 (2) = oAN cT 4 sz := (hq_4 _ (by decide) (by decide)).trans e1
    have e2 : σ_2 (3) = oAJ cT 4 w := (hq_4 _ (by decide) (by decide)).trans e2
    have e59 : σ_2 (59) = .inr (3, [.ref (ad (60)), .ref (ad (61)), .int (oI (((ld : Nat) : Int))), .ref (ad (62)), .ref (ad (63))]) := (hq_4 _ (by decide) (by decide)).trans e59
    have hf : ∀ q : Nat, q ≠ 62 → q ≠ 63 → σ_2 q = σ q := fun q n0 n1 => (hq_4 q n0 n1).trans (hf q n0 n1)
    refine m_icmp_lt 26 hx hb dX5_gap_13 (by decide) (by omega) (by omega) (fun h_6 => ?_) (fun h_6 => ?_)
    · refine lv_iload_n hx hb dX5_gap_26 rfl (lv_at hl 2 rfl) ?_
      refine m_if_eq 45 hx hb dX5_gap_27 (by decide) (by omega) (fun h_7 => ?_) (fun h_7 => ?_)
      · have hgb := oGs_in (sp := (oOrW n w (-1) 4)) (k := a) (g := g) (j := k.toNat) (by omega)
        refine lv_aload_n hx hb dX5_gap_45 rfl (lv_at hl 0 rfl) ?_
        refine gf_X5_reach hx hb hts hown hK hH (k := 0) (by omega) eO dX5_gap_46 ?_
        refine lv_iload_n hx hb dX5_gap_49 rfl (lv_at hl 1 rfl) ?_
        refine m_topI (((k.toNat : Nat) : Int)) (by omega) ?_
        refine lv_aload_n hx hb dX5_gap_50 rfl (lv_at hl 0 rfl) ?_
        refine gf_X5_present hx hb hts hown hK hH (k := 0) (by omega) eO dX5_gap_51 ?_
        refine m_pVi hx hb hml hown hts hK hH hl (rest := [.int (oI (((k.toNat : Nat) : Int))), .ref (ad (59))]) cw_X5_129 (c4_range hA 1 n a g sz w (by first | assumption | omega) e0 e1 e2) ⟨Nat.le_of_ble_eq_true rfl, Nat.le_of_ble_eq_true rfl⟩ ⟨Nat.le_of_ble_eq_true rfl, Nat.le_of_ble_eq_true rfl⟩ rfl (k := 1) (by omega) e0 rfl rfl (Nat.le_of_ble_eq_true rfl) dX5_gap_54 (fun H locs hH => ?_)
        refine m_pVi hx hb hml hown hts hK hH hl (rest := []) cw_X5_191 (c3_gapStart hA k.toNat g (oOrW n w (-1) 4) a ld w3 gr3 (by first | assumption | omega) (by first | assumption | omega) (by first | assumption | omega) (by first | assumption | omega) e59 e62 e63) ⟨Nat.le_of_ble_eq_true rfl, Nat.le_of_ble_eq_true rfl⟩ ⟨Nat.le_of_ble_eq_true rfl, Nat.le_of_ble_eq_true rfl⟩ rfl (k := 59) (by omega) e59 rfl rfl (Nat.le_of_ble_eq_true rfl) dX5_gap_57 (fun H locs hH => ?_)
        refine lv_istore_n (lv' := [(3, .int (oI ((oGs (oOrW n w (-1) 4) a g k.toNat)))), (0, .ref (ad (0))), (1, .int (oI (k))), (2, .int (oI (x)))]) hx hb dX5_gap_60 rfl hl (by decide) rfl (fun ls hl => ?_)
        refine lv_iload_n hx hb dX5_gap_61 rfl (lv_at hl 3 rfl) ?_
        refine m_if_ne 69 hx hb dX5_gap_62 (by decide) (by omega) (fun h_8 => ?_) (fun h_8 => ?_)
        · refine lv_aload_n hx hb dX5_gap_69 rfl (lv_at hl 1 rfl) ?_
          refine gf_X5_reach hx hb hts hown hK hH (k := 0) (by omega) eO dX5_gap_70 ?_
          refine lv_iload_n hx hb dX5_gap_73 rfl (lv_at hl 0 rfl) ?_
          refine m_topI ((((oGs (oOrW n w (-1) 4) a g k.toNat).toNat : Nat) : Int)) (by omega) ?_
          refine lv_aload_n hx hb dX5_gap_74 rfl (lv_at hl 1 rfl) ?_
          refine gf_X5_present hx hb hts hown hK hH (k := 0) (by omega) eO dX5_gap_75 ?_
          refine m_pVi hx hb hml hown hts hK hH hl (rest := [.int (oI ((((oGs (oOrW n w (-1) 4) a g k.toNat).toNat : Nat) : Int))), .ref (ad (59))]) cw_X5_129 (c4_range hA 1 n a g sz w (by first | assumption | omega) e0 e1 e2) ⟨Nat.le_of_ble_eq_true rfl, Nat.le_of_ble_eq_true rfl⟩ ⟨Nat.le_of_ble_eq_true rfl, Nat.le_of_ble_eq_true rfl⟩ rfl (k := 1) (by omega) e0 rfl rfl (Nat.le_of_ble_eq_true rfl) dX5_gap_78 (fun H locs hH => ?_)
          refine m_pVi hx hb hml hown hts hK hH hl (rest := []) cw_X5_194 (c3_gapLength hA ((oGs (oOrW n w (-1) 4) a g k.toNat).toNat) g (oOrW n w (-1) 4) a ld w3 gr3 (by first | assumption | omega) (by first | assumption | omega) (by first | assumption | omega) (by first | assumption | omega) e59 e62 e63) ⟨Nat.le_of_ble_eq_true rfl, Nat.le_of_ble_eq_true rfl⟩ ⟨Nat.le_of_ble_eq_true rfl, Nat.le_of_ble_eq_true rfl⟩ rfl (k := 59) (by omega) e59 rfl rfl (Nat.le_of_ble_eq_true rfl) dX5_gap_81 (fun H locs hH => ?_)
          exact m_iretX hx hb hlk hrt hH ⟨Nat.le_of_ble_eq_true rfl, Nat.le_of_ble_eq_true rfl⟩ (m_ni _) dX5_gap_84 ⟨w3, gr3, congrArg oI (by unfold oGpa; first | (rw [if_pos (by omega)]; done) | (rw [if_neg (by omega)]; done)), (by first | assumption | omega), (by first | assumption | omega), e62, e63, hf⟩
        · refine lv_iload_n hx hb dX5_gap_65 rfl (lv_at hl 0 rfl) ?_
          refine lv_goto (tgt := 84) hx hb dX5_gap_66 (by decide) ?_
          exact m_iretX hx hb hlk hrt hH ⟨Nat.le_of_ble_eq_true rfl, Nat.le_of_ble_eq_true rfl⟩ (m_ni _) dX5_gap_84 ⟨w3, gr3, congrArg oI (by unfold oGpa; first | (rw [if_pos (by omega)]; done) | (rw [if_neg (by omega)]; done)), (by first | assumption | omega), (by first | assumption | omega), e62, e63, hf⟩
      · refine lv_iload_n hx hb dX5_gap_30 rfl (lv_at hl 2 rfl) ?_
        refine m_iconst 1 hx hb dX5_gap_31 rfl ?_
        refine m_icmp_eq 45 hx hb dX5_gap_32 (by decide) (by omega) (by omega) (fun h_9 => ?_) (fun h_9 => ?_)
        · have hgb := oGs_in (sp := (oOrW n w (-1) 4)) (k := a) (g := g) (j := k.toNat) (by omega)
          refine lv_aload_n hx hb dX5_gap_45 rfl (lv_at hl 0 rfl) ?_
          refine gf_X5_reach hx hb hts hown hK hH (k := 0) (by omega) eO dX5_gap_46 ?_
          refine lv_iload_n hx hb dX5_gap_49 rfl (lv_at hl 1 rfl) ?_
          refine m_topI (((k.toNat : Nat) : Int)) (by omega) ?_
          refine lv_aload_n hx hb dX5_gap_50 rfl (lv_at hl 0 rfl) ?_
          refine gf_X5_present hx hb hts hown hK hH (k := 0) (by omega) eO dX5_gap_51 ?_
          refine m_pVi hx hb hml hown hts hK hH hl (rest := [.int (oI (((k.toNat : Nat) : Int))), .ref (ad (59))]) cw_X5_129 (c4_range hA 1 n a g sz w (by first | assumption | omega) e0 e1 e2) ⟨Nat.le_of_ble_eq_true rfl, Nat.le_of_ble_eq_true rfl⟩ ⟨Nat.le_of_ble_eq_true rfl, Nat.le_of_ble_eq_true rfl⟩ rfl (k := 1) (by omega) e0 rfl rfl (Nat.le_of_ble_eq_true rfl) dX5_gap_54 (fun H locs hH => ?_)
          refine m_pVi hx hb hml hown hts hK hH hl (rest := []) cw_X5_191 (c3_gapStart hA k.toNat g (oOrW n w (-1) 4) a ld w3 gr3 (by first | assumption | omega) (by first | assumption | omega) (by first | assumption | omega) (by first | assumption | omega) e59 e62 e63) ⟨Nat.le_of_ble_eq_true rfl, Nat.le_of_ble_eq_true rfl⟩ ⟨Nat.le_of_ble_eq_true rfl, Nat.le_of_ble_eq_true rfl⟩ rfl (k := 59) (by omega) e59 rfl rfl (Nat.le_of_ble_eq_true rfl) dX5_gap_57 (fun H locs hH => ?_)
          refine lv_istore_n (lv' := [(3, .int (oI ((oGs (oOrW n w (-1) 4) a g k.toNat)))), (0, .ref (ad (0))), (1, .int (oI (k))), (2, .int (oI (x)))]) hx hb dX5_gap_60 rfl hl (by decide) rfl (fun ls hl => ?_)
          refine lv_iload_n hx hb dX5_gap_61 rfl (lv_at hl 3 rfl) ?_
          refine m_if_ne 69 hx hb dX5_gap_62 (by decide) (by omega) (fun h_10 => ?_) (fun h_10 => ?_)
          · refine lv_aload_n hx hb dX5_gap_69 rfl (lv_at hl 1 rfl) ?_
            refine gf_X5_reach hx hb hts hown hK hH (k := 0) (by omega) eO dX5_gap_70 ?_
            refine lv_iload_n hx hb dX5_gap_73 rfl (lv_at hl 0 rfl) ?_
            refine m_topI ((((oGs (oOrW n w (-1) 4) a g k.toNat).toNat : Nat) : Int)) (by omega) ?_
            refine lv_aload_n hx hb dX5_gap_74 rfl (lv_at hl 1 rfl) ?_
            refine gf_X5_present hx hb hts hown hK hH (k := 0) (by omega) eO dX5_gap_75 ?_
            refine m_pVi hx hb hml hown hts hK hH hl (rest := [.int (oI ((((oGs (oOrW n w (-1) 4) a g k.toNat).toNat : Nat) : Int))), .ref (ad (59))]) cw_X5_129 (c4_range hA 1 n a g sz w (by first | assumption | omega) e0 e1 e2) ⟨Nat.le_of_ble_eq_true rfl, Nat.le_of_ble_eq_true rfl⟩ ⟨Nat.le_of_ble_eq_true rfl, Nat.le_of_ble_eq_true rfl⟩ rfl (k := 1) (by omega) e0 rfl rfl (Nat.le_of_ble_eq_true rfl) dX5_gap_78 (fun H locs hH => ?_)
            refine m_pVi hx hb hml hown hts hK hH hl (rest := []) cw_X5_194 (c3_gapLength hA ((oGs (oOrW n w (-1) 4) a g k.toNat).toNat) g (oOrW n w (-1) 4) a ld w3 gr3 (by first | assumption | omega) (by first | assumption | omega) (by first | assumption | omega) (by first | assumption | omega) e59 e62 e63) ⟨Nat.le_of_ble_eq_true rfl, Nat.le_of_ble_eq_true rfl⟩ ⟨Nat.le_of_ble_eq_true rfl, Nat.le_of_ble_eq_true rfl⟩ rfl (k := 59) (by omega) e59 rfl rfl (Nat.le_of_ble_eq_true rfl) dX5_gap_81 (fun H locs hH => ?_)
            exact m_iretX hx hb hlk hrt hH ⟨Nat.le_of_ble_eq_true rfl, Nat.le_of_ble_eq_true rfl⟩ (m_ni _) dX5_gap_84 ⟨w3, gr3, congrArg oI (by unfold oGpa; first | (rw [if_pos (by omega)]; done) | (rw [if_neg (by omega)]; done)), (by first | assumption | omega), (by first | assumption | omega), e62, e63, hf⟩
          · refine lv_iload_n hx hb dX5_gap_65 rfl (lv_at hl 0 rfl) ?_
            refine lv_goto (tgt := 84) hx hb dX5_gap_66 (by decide) ?_
            exact m_iretX hx hb hlk hrt hH ⟨Nat.le_of_ble_eq_true rfl, Nat.le_of_ble_eq_true rfl⟩ (m_ni _) dX5_gap_84 ⟨w3, gr3, congrArg oI (by unfold oGpa; first | (rw [if_pos (by omega)]; done) | (rw [if_neg (by omega)]; done)), (by first | assumption | omega), (by first | assumption | omega), e62, e63, hf⟩
        · exact m_throw (text := "no such number") hx hb hl0 hml hown hts hK hXT hH hl hlk hnt oth_0 (by decide) dX5_gap_35 dX5_gap_38 dX5_gap_39 dX5_gap_41 dX5_gap_44 ⟨Nat.le_of_ble_eq_true rfl, Nat.le_of_ble_eq_true rfl⟩ (Nat.le_of_ble_eq_true rfl) ⟨Nat.le_of_ble_eq_true rfl, Nat.le_of_ble_eq_true rfl⟩ ⟨Nat.le_of_ble_eq_true rfl, Nat.le_of_ble_eq_true rfl⟩ (⟨Or.inr ⟨rfl, ⟨by omega, by omega⟩, by omega⟩, w3, gr3, e62, e63, hf⟩)
    · exact m_throw (text := "no such gap") hx hb hl0 hml hown hts hK hXT hH hl hlk hnt oth_2 (by decide) dX5_gap_16 dX5_gap_19 dX5_gap_20 dX5_gap_22 dX5_gap_25 ⟨Nat.le_of_ble_eq_true rfl, Nat.le_of_ble_eq_true rfl⟩ (Nat.le_of_ble_eq_true rfl) ⟨Nat.le_of_ble_eq_true rfl, Nat.le_of_ble_eq_true rfl⟩ ⟨Nat.le_of_ble_eq_true rfl, Nat.le_of_ble_eq_true rfl⟩ (⟨Or.inl ⟨rfl, fun q => by omega⟩, w3, gr3, e62, e63, hf⟩)
set_option maxHeartbeats 4000000 in
set_option maxRecDepth 100000 in
theorem c5_act {l : Launch} {D : va_G} {cT : Nat → ClassId} {N b0 : Nat} {ad : Nat → Nat} (hA : oAd b0 N ad) {σ : Nat → va_E} (k r p on : Int) (n a g : Nat) (sz w : Nat → Nat) (nx ms : Nat) (mn ma mg : Nat → Nat) (msz mw : Nat → Nat → Nat) (ff sf : Int) (hl0 : l.stackTraces = false) (hN : 76 ≤ N) (hwf : oWf n sz w) (hnx : nx < 14) (hms : ms ≤ 14) (hm : ∀ i : Nat, i < 14 → σ (3 * i + 15) = .inr (4, [.ref (ad (3 * i + 16)), .ref (ad (3 * i + 17)), .int (oI ((mn i : Nat) : Int)), .int (oI ((ma i : Nat) : Int)), .int (oI ((mg i : Nat) : Int))]) ∧ σ (3 * i + 16) = oAN cT 4 (msz i) ∧ σ (3 * i + 17) = oAJ cT 4 (mw i)) (hk : 1 ≤ k ∧ k ≤ 5) (hbr : -2147483648 ≤ r ∧ r < 2147483648) (hbp : -2147483648 ≤ p ∧ p < 2147483648) (hon : on = 0 ∨ on = 1) (hag : oAg a g) (eO : σ (0) = .inr (5, [.ref (ad (1)), .ref (ad (4)), .ref (ad (7)), .ref (ad (10)), .int (oI (ff)), .int (oI (sf)), .ref (ad (13)), .ref (ad (57)), .ref (ad (59)), .ref (ad (64))])) (e0 : σ (1) = .inr (4, [.ref (ad (2)), .ref (ad (3)), .int (oI (((n : Nat) : Int))), .int (oI (((a : Nat) : Int))), .int (oI (((g : Nat) : Int)))])) (e1 : σ (2) = oAN cT 4 sz) (e2 : σ (3) = oAJ cT 4 w) (eM : σ (13) = .inr (2, [.ref (ad (14)), .int (oI (((nx : Nat) : Int))), .int (oI (((ms : Nat) : Int)))])) (eA : σ (14) = oAO cT 14 (oMem ad)) :
    oXi l D cT N ad b0 yX5_act cX5_act 5 (some .int) 7 110 1 [.ref (ad (0)), .int (oI (k)), .int (oI (r)), .int (oI (p)), .int (oI (on))] σ (fun rr uu => ∃ n1 : Nat, ∃ a1 : Nat, ∃ g1 : Nat, ∃ sz1 : Nat → Nat, ∃ w1 : Nat → Nat, ∃ sz2 : Nat → Nat, ∃ w2 : Nat → Nat, rr = oI ((oDoV k r p on n a g sz w)) ∧ (oRefA k n sz r p on = 0) ∧ (oDoS k r p on n a g sz w = (n1, a1, g1, sz1, w1)) ∧ (oWf n1 sz1 w1) ∧ (oAg a1 g1) ∧ (∀ r : Nat, r < n → sz2 r = sz r ∧ w2 r = w r) ∧ uu (1) = .inr (4, [.ref (ad (2)), .ref (ad (3)), .int (oI (((n1 : Nat) : Int))), .int (oI (((a1 : Nat) : Int))), .int (oI (((g1 : Nat) : Int)))]) ∧ uu (2) = oAN cT 4 sz1 ∧ uu (3) = oAJ cT 4 w1 ∧ uu (13) = .inr (2, [.ref (ad (14)), .int (oI (((if nx + 1 < 14 then nx + 1 else 0 : Nat) : Int))), .int (oI (((min (ms + 1) 14 : Nat) : Int)))]) ∧ uu (3 * nx + 15) = .inr (4, [.ref (ad (3 * nx + 16)), .ref (ad (3 * nx + 17)), .int (oI (((n : Nat) : Int))), .int (oI (((a : Nat) : Int))), .int (oI (((g : Nat) : Int)))]) ∧ uu (3 * nx + 16) = oAN cT 4 sz2 ∧ uu (3 * nx + 17) = oAJ cT 4 w2 ∧ (∀ q : Nat, q ≠ 1 → q ≠ 2 → q ≠ 3 → q ≠ 13 → q ≠ (3 * nx + 15) → q ≠ (3 * nx + 16) → q ≠ (3 * nx + 17) → uu q = σ q)) (fun E uu => ((E = oIO ∧ oRefA k n sz r p on = 1) ∨ (E = oIA ∧ oRefA k n sz r p on = 2) ∨ (E = oIS ∧ oRefA k n sz r p on = 3)) ∧ uu = σ) := by
  refine m_startX (cc := cX5_act) (by decide) (Nat.le_of_ble_eq_true rfl) rfl ?_
  intro Pp Ee Ss Mm Bb Me Cc Ar ls hx hb hml hown hlk hrt hts hK hH hl hXT hnt
  have hown : Ss.vm.findClass RX5 = some Mm.cls := hown
  have hn := hwf.1
  have hsz := oSize_le hwf
  have hw64 := oRow_64 hwf
  have hw41 := oRow_lt hwf
  have hrb := oRefA_b k n sz r p on
  have hl : lv_has ls 5 [(0, .ref (ad (0))), (1, .int (oI (k))), (2, .int (oI (r))), (3, .int (oI (p))), (4, .int (oI (on)))] := hl
  have hf : ∀ q : Nat, q ≠ 1 → q ≠ 2 → q ≠ 3 → q ≠ 13 → q ≠ (3 * nx + 15) → q ≠ (3 * nx + 16) → q ≠ (3 * nx + 17) → σ q = σ q := fun q _ _ _ _ _ _ _ => rfl
  refine lv_aload_n hx hb dX5_act_0 rfl (lv_at hl 0 rfl) ?_
  refine gf_X5_present hx hb hts hown hK hH (k := 0) (by omega) eO dX5_act_1 ?_
  refine lv_iload_n hx hb dX5_act_4 rfl (lv_at hl 1 rfl) ?_
  refine lv_iload_n hx hb dX5_act_5 rfl (lv_at hl 2 rfl) ?_
  refine lv_iload_n hx hb dX5_act_6 rfl (lv_at hl 3 rfl) ?_
  refine lv_iload hx hb dX5_act_7 (lv_at hl 4 rfl) ?_
  refine m_pVi hx hb hml hown hts hK hH hl (rest := []) cw_X5_208 (c4_refG hA 1 n a g sz w k r p on (by first | assumption | omega) (by first | assumption | omega) (by first | assumption | omega) (by first | assumption | omega) (by first | assumption | omega) (by first | assumption | omega) e0 e1 e2) ⟨Nat.le_of_ble_eq_true rfl, Nat.le_of_ble_eq_true rfl⟩ ⟨Nat.le_of_ble_eq_true rfl, Nat.le_of_ble_eq_true rfl⟩ rfl (k := 1) (by omega) e0 rfl rfl (Nat.le_of_ble_eq_true rfl) dX5_act_9 (fun H locs hH => ?_)
  refine m_xSv hx hb hml hown hts hK hXT hH hl hlk hnt (rest := []) cw_X5_211 (c5_refuse hA (oRefA k n sz r p on) (by first | assumption | omega) (by first | assumption | omega) ) ⟨Nat.le_of_ble_eq_true rfl, Nat.le_of_ble_eq_true rfl⟩ ⟨Nat.le_of_ble_eq_true rfl, Nat.le_of_ble_eq_true rfl⟩ ⟨Nat.le_of_ble_eq_true rfl, Nat.le_of_ble_eq_true rfl⟩ rfl rfl rfl (Nat.le_of_ble_eq_true rfl) dX5_act_12 (fun E u h => h) (fun σ_1 H locs hp_2 hH => ?_)
  obtain ⟨hok, hu⟩ := hp_2
  have hu := hu.symm
  subst hu
  refine lv_aload_n hx hb dX5_act_15 rfl (lv_at hl 0 rfl) ?_
  refine gf_X5_memory hx hb hts hown hK hH (k := 0) (by omega) eO dX5_act_16 ?_
  refine lv_aload_n hx hb dX5_act_19 rfl (lv_at hl 0 rfl) ?_
  refine gf_X5_present hx hb hts hown hK hH (k := 0) (by omega) eO dX5_act_20 ?_
  refine m_callVv hx hb hml hown hts hK hH hl (rest := []) cw_X5_214 (c2_keep hA n a g sz w nx ms mn ma mg msz mw (by first | assumption | omega) (by first | assumption | omega) (by first | assumption | omega) (by first | assumption | omega) (by first | assumption | omega) eM eA e0 e1 e2) ⟨Nat.le_of_ble_eq_true rfl, Nat.le_of_ble_eq_true rfl⟩ ⟨Nat.le_of_ble_eq_true rfl, Nat.le_of_ble_eq_true rfl⟩ rfl (k := 13) (by omega) eM rfl rfl (Nat.le_of_ble_eq_true rfl) dX5_act_23 (fun σ_4 H locs hp_5 hH => ?_)
  obtain ⟨sz8, w8, hsw, eM, e3mnxp15, e3mnxp16, e3mnxp17, hq_6⟩ := hp_5
  have eO : σ_4 (0) = .inr (5, [.ref (ad (1)), .ref (ad (4)), .ref (ad (7)), .ref (ad (10)), .int (oI (ff)), .int (oI (sf)), .ref (ad (13)), .ref (ad (57)), .ref (ad (59)), .ref (ad (64))]) := (hq_6 _ (by decide) (by omega) (by omega) (by omega)).trans eO
  have e0 : σ_4 (1) = .inr (4, [.ref (ad (2)), .ref (ad (3)), .int (oI (((n : Nat) : Int))), .int (oI (((a : Nat) : Int))), .int (oI (((g : Nat) : Int)))]) := (hq_6 _ (by decide) (by omega) (by omega) (by omega)).trans e0
  have e1 : σ_4 (2) = oAN cT 4 sz := (hq_6 _ (by decide) (by omega) (by omega) (by omega)).trans e1
  have e2 : σ_4 (3) = oAJ cT 4 w := (hq_6 _ (by decide) (by omega) (by omega) (by omega)).trans e2
  have eA : σ_4 (14) = oAO cT 14 (oMem ad) := (hq_6 _ (by decide) (by omega) (by omega) (by omega)).trans eA
  have hf : ∀ q : Nat, q ≠ 1 → q ≠ 2 → q ≠ 3 → q ≠ 13 → q ≠ (3 * nx + 15) → q ≠ (3 * nx + 16) → q ≠ (3 * nx + 17) → σ_4 q = σ q := fun q n0 n1 n2 n3 n4 n5 n6 => (hq_6 q n3 n4 n5 n6).trans (hf q n0 n1 n2 n3 n4 n5 n6)
  refine lv_aload_n hx hb dX5_act_26 rfl (lv_at hl 0 rfl) ?_
  refine gf_X5_present hx hb hts hown hK hH (k := 0) (by omega) eO dX5_act_27 ?_
  refine lv_iload_n hx hb dX5_act_30 rfl (lv_at hl 1 rfl) ?_
  refine lv_iload_n hx hb dX5_act_31 rfl (lv_at hl 2 rfl) ?_
  refine lv_iload_n hx hb dX5_act_32 rfl (lv_at hl 3 rfl) ?_
  refine lv_iload hx hb dX5_act_33 (lv_at hl 4 rfl) ?_
  refine m_callVi hx hb hml hown hts hK hH hl (rest := []) cw_X5_218 (c4_perG hA 1 n a g sz w k r p on (by first | assumption | omega) (by first | assumption | omega) (by first | assumption | omega) (by first | assumption | omega) (by first | assumption | omega) (by first | assumption | omega) (by first | assumption | omega) (by first | assumption | omega) e0 e1 e2) ⟨Nat.le_of_ble_eq_true rfl, Nat.le_of_ble_eq_true rfl⟩ ⟨Nat.le_of_ble_eq_true rfl, Nat.le_of_ble_eq_true rfl⟩ rfl (k := 1) (by omega) e0 rfl rfl (Nat.le_of_ble_eq_true rfl) dX5_act_35 (fun r_11 σ_8 H locs hp_9 hH => ?_)
  obtain ⟨n4, a5, g4, s4, w4, rfl, hd, hwf4, hag4, e0, e1, e2, hq_10⟩ := hp_9
  have eO : σ_8 (0) = .inr (5, [.ref (ad (1)), .ref (ad (4)), .ref (ad (7)), .ref (ad (10)), .int (oI (ff)), .int (oI (sf)), .ref (ad (13)), .ref (ad (57)), .ref (ad (59)), .ref (ad (64))]) := (hq_10 _ (by decide) (by decide) (by decide)).trans eO
  have eM : σ_8 (13) = .inr (2, [.ref (ad (14)), .int (oI (((if nx + 1 < 14 then nx + 1 else 0 : Nat) : Int))), .int (oI (((min (ms + 1) 14 : Nat) : Int)))]) := (hq_10 _ (by decide) (by decide) (by decide)).trans eM
  have eA : σ_8 (14) = oAO cT 14 (oMem ad) := (hq_10 _ (by decide) (by decide) (by decide)).trans eA
  have e3mnxp15 : σ_8 (3 * nx + 15) = .inr (4, [.ref (ad (3 * nx + 16)), .ref (ad (3 * nx + 17)), .int (oI (((n : Nat) : Int))), .int (oI (((a : Nat) : Int))), .int (oI (((g : Nat) : Int)))]) := (hq_10 _ (by omega) (by omega) (by omega)).trans e3mnxp15
  have e3mnxp16 : σ_8 (3 * nx + 16) = oAN cT 4 sz8 := (hq_10 _ (by omega) (by omega) (by omega)).trans e3mnxp16
  have e3mnxp17 : σ_8 (3 * nx + 17) = oAJ cT 4 w8 := (hq_10 _ (by omega) (by omega) (by omega)).trans e3mnxp17
  have hf : ∀ q : Nat, q ≠ 1 → q ≠ 2 → q ≠ 3 → q ≠ 13 → q ≠ (3 * nx + 15) → q ≠ (3 * nx + 16) → q ≠ (3 * nx + 17) → σ_8 q = σ q := fun q n0 n1 n2 n3 n4 n5 n6 => (hq_10 q n0 n1 n2).trans (hf q n0 n1 n2 n3 n4 n5 n6)
  exact m_iretX hx hb hlk hrt hH ⟨Nat.le_of_ble_eq_true rfl, Nat.le_of_ble_eq_true rfl⟩ (m_ni _) dX5_act_38 ⟨n4, a5, g4, s4, w4, sz8, w8, rfl, hok, hd, hwf4, hag4, hsw, e0, e1, e2, eM, e3mnxp15, e3mnxp16, e3mnxp17, hf⟩
set_option maxHeartbeats 4000000 in
set_option maxRecDepth 100000 in
theorem c5_ruler {l : Launch} {D : va_G} {cT : Nat → ClassId} {N b0 : Nat} {ad : Nat → Nat} (hA : oAd b0 N ad) {σ : Nat → va_E} (r : Int) (n a g : Nat) (sz w : Nat → Nat) (nx ms : Nat) (mn ma mg : Nat → Nat) (msz mw : Nat → Nat → Nat) (ff sf : Int) (hl0 : l.stackTraces = false) (hN : 76 ≤ N) (hwf : oWf n sz w) (hnx : nx < 14) (hms : ms ≤ 14) (hm : ∀ i : Nat, i < 14 → σ (3 * i + 15) = .inr (4, [.ref (ad (3 * i + 16)), .ref (ad (3 * i + 17)), .int (oI ((mn i : Nat) : Int)), .int (oI ((ma i : Nat) : Int)), .int (oI ((mg i : Nat) : Int))]) ∧ σ (3 * i + 16) = oAN cT 4 (msz i) ∧ σ (3 * i + 17) = oAJ cT 4 (mw i)) (hbr : -2147483648 ≤ r ∧ r < 2147483648) (hag : oAg a g) (eO : σ (0) = .inr (5, [.ref (ad (1)), .ref (ad (4)), .ref (ad (7)), .ref (ad (10)), .int (oI (ff)), .int (oI (sf)), .ref (ad (13)), .ref (ad (57)), .ref (ad (59)), .ref (ad (64))])) (e0 : σ (1) = .inr (4, [.ref (ad (2)), .ref (ad (3)), .int (oI (((n : Nat) : Int))), .int (oI (((a : Nat) : Int))), .int (oI (((g : Nat) : Int)))])) (e1 : σ (2) = oAN cT 4 sz) (e2 : σ (3) = oAJ cT 4 w) (eM : σ (13) = .inr (2, [.ref (ad (14)), .int (oI (((nx : Nat) : Int))), .int (oI (((ms : Nat) : Int)))])) (eA : σ (14) = oAO cT 14 (oMem ad)) :
    oXi l D cT N ad b0 yX5_ruler cX5_ruler 2 (some .int) 8 134 1 [.ref (ad (0)), .int (oI (r))] σ (fun rr uu => ∃ n1 : Nat, ∃ a1 : Nat, ∃ g1 : Nat, ∃ sz1 : Nat → Nat, ∃ w1 : Nat → Nat, ∃ sz2 : Nat → Nat, ∃ w2 : Nat → Nat, rr = oI ((oDoV 1 r 0 0 n a g sz w)) ∧ (oRefA 1 n sz r 0 0 = 0) ∧ (oDoS 1 r 0 0 n a g sz w = (n1, a1, g1, sz1, w1)) ∧ (oWf n1 sz1 w1) ∧ (oAg a1 g1) ∧ (∀ r : Nat, r < n → sz2 r = sz r ∧ w2 r = w r) ∧ uu (1) = .inr (4, [.ref (ad (2)), .ref (ad (3)), .int (oI (((n1 : Nat) : Int))), .int (oI (((a1 : Nat) : Int))), .int (oI (((g1 : Nat) : Int)))]) ∧ uu (2) = oAN cT 4 sz1 ∧ uu (3) = oAJ cT 4 w1 ∧ uu (13) = .inr (2, [.ref (ad (14)), .int (oI (((if nx + 1 < 14 then nx + 1 else 0 : Nat) : Int))), .int (oI (((min (ms + 1) 14 : Nat) : Int)))]) ∧ uu (3 * nx + 15) = .inr (4, [.ref (ad (3 * nx + 16)), .ref (ad (3 * nx + 17)), .int (oI (((n : Nat) : Int))), .int (oI (((a : Nat) : Int))), .int (oI (((g : Nat) : Int)))]) ∧ uu (3 * nx + 16) = oAN cT 4 sz2 ∧ uu (3 * nx + 17) = oAJ cT 4 w2 ∧ (∀ q : Nat, q ≠ 1 → q ≠ 2 → q ≠ 3 → q ≠ 13 → q ≠ (3 * nx + 15) → q ≠ (3 * nx + 16) → q ≠ (3 * nx + 17) → uu q = σ q)) (fun E uu => ((E = oIO ∧ oRefA 1 n sz r 0 0 = 1) ∨ (E = oIA ∧ oRefA 1 n sz r 0 0 = 2) ∨ (E = oIS ∧ oRefA 1 n sz r 0 0 = 3)) ∧ uu = σ) := by
  refine m_startX (cc := cX5_ruler) (by decide) (Nat.le_of_ble_eq_true rfl) rfl ?_
  intro Pp Ee Ss Mm Bb Me Cc Ar ls hx hb hml hown hlk hrt hts hK hH hl hXT hnt
  have hown : Ss.vm.findClass RX5 = some Mm.cls := hown
  have hl : lv_has ls 2 [(0, .ref (ad (0))), (1, .int (oI (r)))] := hl
  have hf : ∀ q : Nat, q ≠ 1 → q ≠ 2 → q ≠ 3 → q ≠ 13 → q ≠ (3 * nx + 15) → q ≠ (3 * nx + 16) → q ≠ (3 * nx + 17) → σ q = σ q := fun q _ _ _ _ _ _ _ => rfl
  refine lv_aload_n hx hb dX5_ruler_0 rfl (lv_at hl 0 rfl) ?_
  refine m_iconst 1 hx hb dX5_ruler_1 rfl ?_
  refine lv_iload_n hx hb dX5_ruler_2 rfl (lv_at hl 1 rfl) ?_
  refine m_iconst 0 hx hb dX5_ruler_3 rfl ?_
  refine m_iconst 0 hx hb dX5_ruler_4 rfl ?_
  refine m_xVi hx hb hml hown hts hK hXT hH hl hlk hnt (rest := []) cw_X5_197 (c5_act hA 1 r 0 0 n a g sz w nx ms mn ma mg msz mw ff sf (by first | assumption | omega) (by first | assumption | omega) (by first | assumption | omega) (by first | assumption | omega) (by first | assumption | omega) (by first | assumption | omega) (by first | assumption | omega) (by first | assumption | omega) (by first | assumption | omega) (by first | assumption | omega) (by first | assumption | omega) eO e0 e1 e2 eM eA) ⟨Nat.le_of_ble_eq_true rfl, Nat.le_of_ble_eq_true rfl⟩ ⟨Nat.le_of_ble_eq_true rfl, Nat.le_of_ble_eq_true rfl⟩ ⟨Nat.le_of_ble_eq_true rfl, Nat.le_of_ble_eq_true rfl⟩ rfl (k := 0) (by omega) eO rfl rfl (Nat.le_of_ble_eq_true rfl) dX5_ruler_5 (fun E u h => h) (fun r_3 σ_1 H locs hp_2 hH => ?_)
  obtain ⟨n4, a5, g4, s4, w4, s5, w5, rfl, hok, hd, hwf4, hag4, hsw, e0, e1, e2, eM, e3mnxp15, e3mnxp16, e3mnxp17, hq_4⟩ := hp_2
  have eO : σ_1 (0) = .inr (5, [.ref (ad (1)), .ref (ad (4)), .ref (ad (7)), .ref (ad (10)), .int (oI (ff)), .int (oI (sf)), .ref (ad (13)), .ref (ad (57)), .ref (ad (59)), .ref (ad (64))]) := (hq_4 _ (by decide) (by decide) (by decide) (by decide) (by omega) (by omega) (by omega)).trans eO
  have eA : σ_1 (14) = oAO cT 14 (oMem ad) := (hq_4 _ (by decide) (by decide) (by decide) (by decide) (by omega) (by omega) (by omega)).trans eA
  have hf : ∀ q : Nat, q ≠ 1 → q ≠ 2 → q ≠ 3 → q ≠ 13 → q ≠ (3 * nx + 15) → q ≠ (3 * nx + 16) → q ≠ (3 * nx + 17) → σ_1 q = σ q := fun q n0 n1 n2 n3 n4 n5 n6 => (hq_4 q n0 n1 n2 n3 n4 n5 n6).trans (hf q n0 n1 n2 n3 n4 n5 n6)
  exact m_iretX hx hb hlk hrt hH ⟨Nat.le_of_ble_eq_true rfl, Nat.le_of_ble_eq_true rfl⟩ (m_ni _) dX5_ruler_8 ⟨n4, a5, g4, s4, w4, s5, w5, rfl, hok, hd, hwf4, hag4, hsw, e0, e1, e2, eM, e3mnxp15, e3mnxp16, e3mnxp17, hf⟩
set_option maxHeartbeats 4000000 in
set_option maxRecDepth 100000 in
theorem c5_mark {l : Launch} {D : va_G} {cT : Nat → ClassId} {N b0 : Nat} {ad : Nat → Nat} (hA : oAd b0 N ad) {σ : Nat → va_E} (r p on : Int) (n a g : Nat) (sz w : Nat → Nat) (nx ms : Nat) (mn ma mg : Nat → Nat) (msz mw : Nat → Nat → Nat) (ff sf : Int) (hl0 : l.stackTraces = false) (hN : 76 ≤ N) (hwf : oWf n sz w) (hnx : nx < 14) (hms : ms ≤ 14) (hm : ∀ i : Nat, i < 14 → σ (3 * i + 15) = .inr (4, [.ref (ad (3 * i + 16)), .ref (ad (3 * i + 17)), .int (oI ((mn i : Nat) : Int)), .int (oI ((ma i : Nat) : Int)), .int (oI ((mg i : Nat) : Int))]) ∧ σ (3 * i + 16) = oAN cT 4 (msz i) ∧ σ (3 * i + 17) = oAJ cT 4 (mw i)) (hbr : -2147483648 ≤ r ∧ r < 2147483648) (hbp : -2147483648 ≤ p ∧ p < 2147483648) (hon : on = 0 ∨ on = 1) (hag : oAg a g) (eO : σ (0) = .inr (5, [.ref (ad (1)), .ref (ad (4)), .ref (ad (7)), .ref (ad (10)), .int (oI (ff)), .int (oI (sf)), .ref (ad (13)), .ref (ad (57)), .ref (ad (59)), .ref (ad (64))])) (e0 : σ (1) = .inr (4, [.ref (ad (2)), .ref (ad (3)), .int (oI (((n : Nat) : Int))), .int (oI (((a : Nat) : Int))), .int (oI (((g : Nat) : Int)))])) (e1 : σ (2) = oAN cT 4 sz) (e2 : σ (3) = oAJ cT 4 w) (eM : σ (13) = .inr (2, [.ref (ad (14)), .int (oI (((nx : Nat) : Int))), .int (oI (((ms : Nat) : Int)))])) (eA : σ (14) = oAO cT 14 (oMem ad)) :
    oXi l D cT N ad b0 yX5_mark cX5_mark 4 (some .int) 8 134 1 [.ref (ad (0)), .int (oI (r)), .int (oI (p)), .int (oI (on))] σ (fun rr uu => ∃ n1 : Nat, ∃ a1 : Nat, ∃ g1 : Nat, ∃ sz1 : Nat → Nat, ∃ w1 : Nat → Nat, ∃ sz2 : Nat → Nat, ∃ w2 : Nat → Nat, rr = oI ((oDoV 2 r p on n a g sz w)) ∧ (oRefA 2 n sz r p on = 0) ∧ (oDoS 2 r p on n a g sz w = (n1, a1, g1, sz1, w1)) ∧ (oWf n1 sz1 w1) ∧ (oAg a1 g1) ∧ (∀ r : Nat, r < n → sz2 r = sz r ∧ w2 r = w r) ∧ uu (1) = .inr (4, [.ref (ad (2)), .ref (ad (3)), .int (oI (((n1 : Nat) : Int))), .int (oI (((a1 : Nat) : Int))), .int (oI (((g1 : Nat) : Int)))]) ∧ uu (2) = oAN cT 4 sz1 ∧ uu (3) = oAJ cT 4 w1 ∧ uu (13) = .inr (2, [.ref (ad (14)), .int (oI (((if nx + 1 < 14 then nx + 1 else 0 : Nat) : Int))), .int (oI (((min (ms + 1) 14 : Nat) : Int)))]) ∧ uu (3 * nx + 15) = .inr (4, [.ref (ad (3 * nx + 16)), .ref (ad (3 * nx + 17)), .int (oI (((n : Nat) : Int))), .int (oI (((a : Nat) : Int))), .int (oI (((g : Nat) : Int)))]) ∧ uu (3 * nx + 16) = oAN cT 4 sz2 ∧ uu (3 * nx + 17) = oAJ cT 4 w2 ∧ (∀ q : Nat, q ≠ 1 → q ≠ 2 → q ≠ 3 → q ≠ 13 → q ≠ (3 * nx + 15) → q ≠ (3 * nx + 16) → q ≠ (3 * nx + 17) → uu q = σ q)) (fun E uu => ((E = oIO ∧ oRefA 2 n sz r p on = 1) ∨ (E = oIA ∧ oRefA 2 n sz r p on = 2) ∨ (E = oIS ∧ oRefA 2 n sz r p on = 3)) ∧ uu = σ) := by
  refine m_startX (cc := cX5_mark) (by decide) (Nat.le_of_ble_eq_true rfl) rfl ?_
  intro Pp Ee Ss Mm Bb Me Cc Ar ls hx hb hml hown hlk hrt hts hK hH hl hXT hnt
  have hown : Ss.vm.findClass RX5 = some Mm.cls := hown
  have hl : lv_has ls 4 [(0, .ref (ad (0))), (1, .int (oI (r))), (2, .int (oI (p))), (3, .int (oI (on)))] := hl
  have hf : ∀ q : Nat, q ≠ 1 → q ≠ 2 → q ≠ 3 → q ≠ 13 → q ≠ (3 * nx + 15) → q ≠ (3 * nx + 16) → q ≠ (3 * nx + 17) → σ q = σ q := fun q _ _ _ _ _ _ _ => rfl
  refine lv_aload_n hx hb dX5_mark_0 rfl (lv_at hl 0 rfl) ?_
  refine m_iconst 2 hx hb dX5_mark_1 rfl ?_
  refine lv_iload_n hx hb dX5_mark_2 rfl (lv_at hl 1 rfl) ?_
  refine lv_iload_n hx hb dX5_mark_3 rfl (lv_at hl 2 rfl) ?_
  refine lv_iload_n hx hb dX5_mark_4 rfl (lv_at hl 3 rfl) ?_
  refine m_xVi hx hb hml hown hts hK hXT hH hl hlk hnt (rest := []) cw_X5_197 (c5_act hA 2 r p on n a g sz w nx ms mn ma mg msz mw ff sf (by first | assumption | omega) (by first | assumption | omega) (by first | assumption | omega) (by first | assumption | omega) (by first | assumption | omega) (by first | assumption | omega) (by first | assumption | omega) (by first | assumption | omega) (by first | assumption | omega) (by first | assumption | omega) (by first | assumption | omega) eO e0 e1 e2 eM eA) ⟨Nat.le_of_ble_eq_true rfl, Nat.le_of_ble_eq_true rfl⟩ ⟨Nat.le_of_ble_eq_true rfl, Nat.le_of_ble_eq_true rfl⟩ ⟨Nat.le_of_ble_eq_true rfl, Nat.le_of_ble_eq_true rfl⟩ rfl (k := 0) (by omega) eO rfl rfl (Nat.le_of_ble_eq_true rfl) dX5_mark_5 (fun E u h => h) (fun r_3 σ_1 H locs hp_2 hH => ?_)
  obtain ⟨n4, a5, g4, s4, w4, s5, w5, rfl, hok, hd, hwf4, hag4, hsw, e0, e1, e2, eM, e3mnxp15, e3mnxp16, e3mnxp17, hq_4⟩ := hp_2
  have eO : σ_1 (0) = .inr (5, [.ref (ad (1)), .ref (ad (4)), .ref (ad (7)), .ref (ad (10)), .int (oI (ff)), .int (oI (sf)), .ref (ad (13)), .ref (ad (57)), .ref (ad (59)), .ref (ad (64))]) := (hq_4 _ (by decide) (by decide) (by decide) (by decide) (by omega) (by omega) (by omega)).trans eO
  have eA : σ_1 (14) = oAO cT 14 (oMem ad) := (hq_4 _ (by decide) (by decide) (by decide) (by decide) (by omega) (by omega) (by omega)).trans eA
  have hf : ∀ q : Nat, q ≠ 1 → q ≠ 2 → q ≠ 3 → q ≠ 13 → q ≠ (3 * nx + 15) → q ≠ (3 * nx + 16) → q ≠ (3 * nx + 17) → σ_1 q = σ q := fun q n0 n1 n2 n3 n4 n5 n6 => (hq_4 q n0 n1 n2 n3 n4 n5 n6).trans (hf q n0 n1 n2 n3 n4 n5 n6)
  exact m_iretX hx hb hlk hrt hH ⟨Nat.le_of_ble_eq_true rfl, Nat.le_of_ble_eq_true rfl⟩ (m_ni _) dX5_mark_8 ⟨n4, a5, g4, s4, w4, s5, w5, rfl, hok, hd, hwf4, hag4, hsw, e0, e1, e2, eM, e3mnxp15, e3mnxp16, e3mnxp17, hf⟩
set_option maxHeartbeats 4000000 in
set_option maxRecDepth 100000 in
theorem c5_cut {l : Launch} {D : va_G} {cT : Nat → ClassId} {N b0 : Nat} {ad : Nat → Nat} (hA : oAd b0 N ad) {σ : Nat → va_E} (r p : Int) (n a g : Nat) (sz w : Nat → Nat) (nx ms : Nat) (mn ma mg : Nat → Nat) (msz mw : Nat → Nat → Nat) (ff sf : Int) (hl0 : l.stackTraces = false) (hN : 76 ≤ N) (hwf : oWf n sz w) (hnx : nx < 14) (hms : ms ≤ 14) (hm : ∀ i : Nat, i < 14 → σ (3 * i + 15) = .inr (4, [.ref (ad (3 * i + 16)), .ref (ad (3 * i + 17)), .int (oI ((mn i : Nat) : Int)), .int (oI ((ma i : Nat) : Int)), .int (oI ((mg i : Nat) : Int))]) ∧ σ (3 * i + 16) = oAN cT 4 (msz i) ∧ σ (3 * i + 17) = oAJ cT 4 (mw i)) (hbr : -2147483648 ≤ r ∧ r < 2147483648) (hbp : -2147483648 ≤ p ∧ p < 2147483648) (hag : oAg a g) (eO : σ (0) = .inr (5, [.ref (ad (1)), .ref (ad (4)), .ref (ad (7)), .ref (ad (10)), .int (oI (ff)), .int (oI (sf)), .ref (ad (13)), .ref (ad (57)), .ref (ad (59)), .ref (ad (64))])) (e0 : σ (1) = .inr (4, [.ref (ad (2)), .ref (ad (3)), .int (oI (((n : Nat) : Int))), .int (oI (((a : Nat) : Int))), .int (oI (((g : Nat) : Int)))])) (e1 : σ (2) = oAN cT 4 sz) (e2 : σ (3) = oAJ cT 4 w) (eM : σ (13) = .inr (2, [.ref (ad (14)), .int (oI (((nx : Nat) : Int))), .int (oI (((ms : Nat) : Int)))])) (eA : σ (14) = oAO cT 14 (oMem ad)) :
    oXi l D cT N ad b0 yX5_cut cX5_cut 3 (some .int) 8 134 1 [.ref (ad (0)), .int (oI (r)), .int (oI (p))] σ (fun rr uu => ∃ n1 : Nat, ∃ a1 : Nat, ∃ g1 : Nat, ∃ sz1 : Nat → Nat, ∃ w1 : Nat → Nat, ∃ sz2 : Nat → Nat, ∃ w2 : Nat → Nat, rr = oI ((oDoV 3 r p 0 n a g sz w)) ∧ (oRefA 3 n sz r p 0 = 0) ∧ (oDoS 3 r p 0 n a g sz w = (n1, a1, g1, sz1, w1)) ∧ (oWf n1 sz1 w1) ∧ (oAg a1 g1) ∧ (∀ r : Nat, r < n → sz2 r = sz r ∧ w2 r = w r) ∧ uu (1) = .inr (4, [.ref (ad (2)), .ref (ad (3)), .int (oI (((n1 : Nat) : Int))), .int (oI (((a1 : Nat) : Int))), .int (oI (((g1 : Nat) : Int)))]) ∧ uu (2) = oAN cT 4 sz1 ∧ uu (3) = oAJ cT 4 w1 ∧ uu (13) = .inr (2, [.ref (ad (14)), .int (oI (((if nx + 1 < 14 then nx + 1 else 0 : Nat) : Int))), .int (oI (((min (ms + 1) 14 : Nat) : Int)))]) ∧ uu (3 * nx + 15) = .inr (4, [.ref (ad (3 * nx + 16)), .ref (ad (3 * nx + 17)), .int (oI (((n : Nat) : Int))), .int (oI (((a : Nat) : Int))), .int (oI (((g : Nat) : Int)))]) ∧ uu (3 * nx + 16) = oAN cT 4 sz2 ∧ uu (3 * nx + 17) = oAJ cT 4 w2 ∧ (∀ q : Nat, q ≠ 1 → q ≠ 2 → q ≠ 3 → q ≠ 13 → q ≠ (3 * nx + 15) → q ≠ (3 * nx + 16) → q ≠ (3 * nx + 17) → uu q = σ q)) (fun E uu => ((E = oIO ∧ oRefA 3 n sz r p 0 = 1) ∨ (E = oIA ∧ oRefA 3 n sz r p 0 = 2) ∨ (E = oIS ∧ oRefA 3 n sz r p 0 = 3)) ∧ uu = σ) := by
  refine m_startX (cc := cX5_cut) (by decide) (Nat.le_of_ble_eq_true rfl) rfl ?_
  intro Pp Ee Ss Mm Bb Me Cc Ar ls hx hb hml hown hlk hrt hts hK hH hl hXT hnt
  have hown : Ss.vm.findClass RX5 = some Mm.cls := hown
  have hl : lv_has ls 3 [(0, .ref (ad (0))), (1, .int (oI (r))), (2, .int (oI (p)))] := hl
  have hf : ∀ q : Nat, q ≠ 1 → q ≠ 2 → q ≠ 3 → q ≠ 13 → q ≠ (3 * nx + 15) → q ≠ (3 * nx + 16) → q ≠ (3 * nx + 17) → σ q = σ q := fun q _ _ _ _ _ _ _ => rfl
  refine lv_aload_n hx hb dX5_cut_0 rfl (lv_at hl 0 rfl) ?_
  refine m_iconst 3 hx hb dX5_cut_1 rfl ?_
  refine lv_iload_n hx hb dX5_cut_2 rfl (lv_at hl 1 rfl) ?_
  refine lv_iload_n hx hb dX5_cut_3 rfl (lv_at hl 2 rfl) ?_
  refine m_iconst 0 hx hb dX5_cut_4 rfl ?_
  refine m_xVi hx hb hml hown hts hK hXT hH hl hlk hnt (rest := []) cw_X5_197 (c5_act hA 3 r p 0 n a g sz w nx ms mn ma mg msz mw ff sf (by first | assumption | omega) (by first | assumption | omega) (by first | assumption | omega) (by first | assumption | omega) (by first | assumption | omega) (by first | assumption | omega) (by first | assumption | omega) (by first | assumption | omega) (by first | assumption | omega) (by first | assumption | omega) (by first | assumption | omega) eO e0 e1 e2 eM eA) ⟨Nat.le_of_ble_eq_true rfl, Nat.le_of_ble_eq_true rfl⟩ ⟨Nat.le_of_ble_eq_true rfl, Nat.le_of_ble_eq_true rfl⟩ ⟨Nat.le_of_ble_eq_true rfl, Nat.le_of_ble_eq_true rfl⟩ rfl (k := 0) (by omega) eO rfl rfl (Nat.le_of_ble_eq_true rfl) dX5_cut_5 (fun E u h => h) (fun r_3 σ_1 H locs hp_2 hH => ?_)
  obtain ⟨n4, a5, g4, s4, w4, s5, w5, rfl, hok, hd, hwf4, hag4, hsw, e0, e1, e2, eM, e3mnxp15, e3mnxp16, e3mnxp17, hq_4⟩ := hp_2
  have eO : σ_1 (0) = .inr (5, [.ref (ad (1)), .ref (ad (4)), .ref (ad (7)), .ref (ad (10)), .int (oI (ff)), .int (oI (sf)), .ref (ad (13)), .ref (ad (57)), .ref (ad (59)), .ref (ad (64))]) := (hq_4 _ (by decide) (by decide) (by decide) (by decide) (by omega) (by omega) (by omega)).trans eO
  have eA : σ_1 (14) = oAO cT 14 (oMem ad) := (hq_4 _ (by decide) (by decide) (by decide) (by decide) (by omega) (by omega) (by omega)).trans eA
  have hf : ∀ q : Nat, q ≠ 1 → q ≠ 2 → q ≠ 3 → q ≠ 13 → q ≠ (3 * nx + 15) → q ≠ (3 * nx + 16) → q ≠ (3 * nx + 17) → σ_1 q = σ q := fun q n0 n1 n2 n3 n4 n5 n6 => (hq_4 q n0 n1 n2 n3 n4 n5 n6).trans (hf q n0 n1 n2 n3 n4 n5 n6)
  exact m_iretX hx hb hlk hrt hH ⟨Nat.le_of_ble_eq_true rfl, Nat.le_of_ble_eq_true rfl⟩ (m_ni _) dX5_cut_8 ⟨n4, a5, g4, s4, w4, s5, w5, rfl, hok, hd, hwf4, hag4, hsw, e0, e1, e2, eM, e3mnxp15, e3mnxp16, e3mnxp17, hf⟩
set_option maxHeartbeats 4000000 in
set_option maxRecDepth 100000 in
theorem c5_turn {l : Launch} {D : va_G} {cT : Nat → ClassId} {N b0 : Nat} {ad : Nat → Nat} (hA : oAd b0 N ad) {σ : Nat → va_E} (r : Int) (n a g : Nat) (sz w : Nat → Nat) (nx ms : Nat) (mn ma mg : Nat → Nat) (msz mw : Nat → Nat → Nat) (ff sf : Int) (hl0 : l.stackTraces = false) (hN : 76 ≤ N) (hwf : oWf n sz w) (hnx : nx < 14) (hms : ms ≤ 14) (hm : ∀ i : Nat, i < 14 → σ (3 * i + 15) = .inr (4, [.ref (ad (3 * i + 16)), .ref (ad (3 * i + 17)), .int (oI ((mn i : Nat) : Int)), .int (oI ((ma i : Nat) : Int)), .int (oI ((mg i : Nat) : Int))]) ∧ σ (3 * i + 16) = oAN cT 4 (msz i) ∧ σ (3 * i + 17) = oAJ cT 4 (mw i)) (hbr : -2147483648 ≤ r ∧ r < 2147483648) (hag : oAg a g) (eO : σ (0) = .inr (5, [.ref (ad (1)), .ref (ad (4)), .ref (ad (7)), .ref (ad (10)), .int (oI (ff)), .int (oI (sf)), .ref (ad (13)), .ref (ad (57)), .ref (ad (59)), .ref (ad (64))])) (e0 : σ (1) = .inr (4, [.ref (ad (2)), .ref (ad (3)), .int (oI (((n : Nat) : Int))), .int (oI (((a : Nat) : Int))), .int (oI (((g : Nat) : Int)))])) (e1 : σ (2) = oAN cT 4 sz) (e2 : σ (3) = oAJ cT 4 w) (eM : σ (13) = .inr (2, [.ref (ad (14)), .int (oI (((nx : Nat) : Int))), .int (oI (((ms : Nat) : Int)))])) (eA : σ (14) = oAO cT 14 (oMem ad)) :
    oXi l D cT N ad b0 yX5_turn cX5_turn 2 (some .int) 8 134 1 [.ref (ad (0)), .int (oI (r))] σ (fun rr uu => ∃ n1 : Nat, ∃ a1 : Nat, ∃ g1 : Nat, ∃ sz1 : Nat → Nat, ∃ w1 : Nat → Nat, ∃ sz2 : Nat → Nat, ∃ w2 : Nat → Nat, rr = oI ((oDoV 4 r 0 0 n a g sz w)) ∧ (oRefA 4 n sz r 0 0 = 0) ∧ (oDoS 4 r 0 0 n a g sz w = (n1, a1, g1, sz1, w1)) ∧ (oWf n1 sz1 w1) ∧ (oAg a1 g1) ∧ (∀ r : Nat, r < n → sz2 r = sz r ∧ w2 r = w r) ∧ uu (1) = .inr (4, [.ref (ad (2)), .ref (ad (3)), .int (oI (((n1 : Nat) : Int))), .int (oI (((a1 : Nat) : Int))), .int (oI (((g1 : Nat) : Int)))]) ∧ uu (2) = oAN cT 4 sz1 ∧ uu (3) = oAJ cT 4 w1 ∧ uu (13) = .inr (2, [.ref (ad (14)), .int (oI (((if nx + 1 < 14 then nx + 1 else 0 : Nat) : Int))), .int (oI (((min (ms + 1) 14 : Nat) : Int)))]) ∧ uu (3 * nx + 15) = .inr (4, [.ref (ad (3 * nx + 16)), .ref (ad (3 * nx + 17)), .int (oI (((n : Nat) : Int))), .int (oI (((a : Nat) : Int))), .int (oI (((g : Nat) : Int)))]) ∧ uu (3 * nx + 16) = oAN cT 4 sz2 ∧ uu (3 * nx + 17) = oAJ cT 4 w2 ∧ (∀ q : Nat, q ≠ 1 → q ≠ 2 → q ≠ 3 → q ≠ 13 → q ≠ (3 * nx + 15) → q ≠ (3 * nx + 16) → q ≠ (3 * nx + 17) → uu q = σ q)) (fun E uu => ((E = oIO ∧ oRefA 4 n sz r 0 0 = 1) ∨ (E = oIA ∧ oRefA 4 n sz r 0 0 = 2) ∨ (E = oIS ∧ oRefA 4 n sz r 0 0 = 3)) ∧ uu = σ) := by
  refine m_startX (cc := cX5_turn) (by decide) (Nat.le_of_ble_eq_true rfl) rfl ?_
  intro Pp Ee Ss Mm Bb Me Cc Ar ls hx hb hml hown hlk hrt hts hK hH hl hXT hnt
  have hown : Ss.vm.findClass RX5 = some Mm.cls := hown
  have hl : lv_has ls 2 [(0, .ref (ad (0))), (1, .int (oI (r)))] := hl
  have hf : ∀ q : Nat, q ≠ 1 → q ≠ 2 → q ≠ 3 → q ≠ 13 → q ≠ (3 * nx + 15) → q ≠ (3 * nx + 16) → q ≠ (3 * nx + 17) → σ q = σ q := fun q _ _ _ _ _ _ _ => rfl
  refine lv_aload_n hx hb dX5_turn_0 rfl (lv_at hl 0 rfl) ?_
  refine m_iconst 4 hx hb dX5_turn_1 rfl ?_
  refine lv_iload_n hx hb dX5_turn_2 rfl (lv_at hl 1 rfl) ?_
  refine m_iconst 0 hx hb dX5_turn_3 rfl ?_
  refine m_iconst 0 hx hb dX5_turn_4 rfl ?_
  refine m_xVi hx hb hml hown hts hK hXT hH hl hlk hnt (rest := []) cw_X5_197 (c5_act hA 4 r 0 0 n a g sz w nx ms mn ma mg msz mw ff sf (by first | assumption | omega) (by first | assumption | omega) (by first | assumption | omega) (by first | assumption | omega) (by first | assumption | omega) (by first | assumption | omega) (by first | assumption | omega) (by first | assumption | omega) (by first | assumption | omega) (by first | assumption | omega) (by first | assumption | omega) eO e0 e1 e2 eM eA) ⟨Nat.le_of_ble_eq_true rfl, Nat.le_of_ble_eq_true rfl⟩ ⟨Nat.le_of_ble_eq_true rfl, Nat.le_of_ble_eq_true rfl⟩ ⟨Nat.le_of_ble_eq_true rfl, Nat.le_of_ble_eq_true rfl⟩ rfl (k := 0) (by omega) eO rfl rfl (Nat.le_of_ble_eq_true rfl) dX5_turn_5 (fun E u h => h) (fun r_3 σ_1 H locs hp_2 hH => ?_)
  obtain ⟨n4, a5, g4, s4, w4, s5, w5, rfl, hok, hd, hwf4, hag4, hsw, e0, e1, e2, eM, e3mnxp15, e3mnxp16, e3mnxp17, hq_4⟩ := hp_2
  have eO : σ_1 (0) = .inr (5, [.ref (ad (1)), .ref (ad (4)), .ref (ad (7)), .ref (ad (10)), .int (oI (ff)), .int (oI (sf)), .ref (ad (13)), .ref (ad (57)), .ref (ad (59)), .ref (ad (64))]) := (hq_4 _ (by decide) (by decide) (by decide) (by decide) (by omega) (by omega) (by omega)).trans eO
  have eA : σ_1 (14) = oAO cT 14 (oMem ad) := (hq_4 _ (by decide) (by decide) (by decide) (by decide) (by omega) (by omega) (by omega)).trans eA
  have hf : ∀ q : Nat, q ≠ 1 → q ≠ 2 → q ≠ 3 → q ≠ 13 → q ≠ (3 * nx + 15) → q ≠ (3 * nx + 16) → q ≠ (3 * nx + 17) → σ_1 q = σ q := fun q n0 n1 n2 n3 n4 n5 n6 => (hq_4 q n0 n1 n2 n3 n4 n5 n6).trans (hf q n0 n1 n2 n3 n4 n5 n6)
  exact m_iretX hx hb hlk hrt hH ⟨Nat.le_of_ble_eq_true rfl, Nat.le_of_ble_eq_true rfl⟩ (m_ni _) dX5_turn_8 ⟨n4, a5, g4, s4, w4, s5, w5, rfl, hok, hd, hwf4, hag4, hsw, e0, e1, e2, eM, e3mnxp15, e3mnxp16, e3mnxp17, hf⟩
set_option maxHeartbeats 4000000 in
set_option maxRecDepth 100000 in
theorem c5_set {l : Launch} {D : va_G} {cT : Nat → ClassId} {N b0 : Nat} {ad : Nat → Nat} (hA : oAd b0 N ad) {σ : Nat → va_E} (r p : Int) (n a g : Nat) (sz w : Nat → Nat) (nx ms : Nat) (mn ma mg : Nat → Nat) (msz mw : Nat → Nat → Nat) (ff sf : Int) (hl0 : l.stackTraces = false) (hN : 76 ≤ N) (hwf : oWf n sz w) (hnx : nx < 14) (hms : ms ≤ 14) (hm : ∀ i : Nat, i < 14 → σ (3 * i + 15) = .inr (4, [.ref (ad (3 * i + 16)), .ref (ad (3 * i + 17)), .int (oI ((mn i : Nat) : Int)), .int (oI ((ma i : Nat) : Int)), .int (oI ((mg i : Nat) : Int))]) ∧ σ (3 * i + 16) = oAN cT 4 (msz i) ∧ σ (3 * i + 17) = oAJ cT 4 (mw i)) (hbr : -2147483648 ≤ r ∧ r < 2147483648) (hbp : -2147483648 ≤ p ∧ p < 2147483648) (hag : oAg a g) (eO : σ (0) = .inr (5, [.ref (ad (1)), .ref (ad (4)), .ref (ad (7)), .ref (ad (10)), .int (oI (ff)), .int (oI (sf)), .ref (ad (13)), .ref (ad (57)), .ref (ad (59)), .ref (ad (64))])) (e0 : σ (1) = .inr (4, [.ref (ad (2)), .ref (ad (3)), .int (oI (((n : Nat) : Int))), .int (oI (((a : Nat) : Int))), .int (oI (((g : Nat) : Int)))])) (e1 : σ (2) = oAN cT 4 sz) (e2 : σ (3) = oAJ cT 4 w) (eM : σ (13) = .inr (2, [.ref (ad (14)), .int (oI (((nx : Nat) : Int))), .int (oI (((ms : Nat) : Int)))])) (eA : σ (14) = oAO cT 14 (oMem ad)) :
    oXi l D cT N ad b0 yX5_set cX5_set 3 (some .int) 8 134 1 [.ref (ad (0)), .int (oI (r)), .int (oI (p))] σ (fun rr uu => ∃ n1 : Nat, ∃ a1 : Nat, ∃ g1 : Nat, ∃ sz1 : Nat → Nat, ∃ w1 : Nat → Nat, ∃ sz2 : Nat → Nat, ∃ w2 : Nat → Nat, rr = oI ((oDoV 5 r p 0 n a g sz w)) ∧ (oRefA 5 n sz r p 0 = 0) ∧ (oDoS 5 r p 0 n a g sz w = (n1, a1, g1, sz1, w1)) ∧ (oWf n1 sz1 w1) ∧ (oAg a1 g1) ∧ (∀ r : Nat, r < n → sz2 r = sz r ∧ w2 r = w r) ∧ uu (1) = .inr (4, [.ref (ad (2)), .ref (ad (3)), .int (oI (((n1 : Nat) : Int))), .int (oI (((a1 : Nat) : Int))), .int (oI (((g1 : Nat) : Int)))]) ∧ uu (2) = oAN cT 4 sz1 ∧ uu (3) = oAJ cT 4 w1 ∧ uu (13) = .inr (2, [.ref (ad (14)), .int (oI (((if nx + 1 < 14 then nx + 1 else 0 : Nat) : Int))), .int (oI (((min (ms + 1) 14 : Nat) : Int)))]) ∧ uu (3 * nx + 15) = .inr (4, [.ref (ad (3 * nx + 16)), .ref (ad (3 * nx + 17)), .int (oI (((n : Nat) : Int))), .int (oI (((a : Nat) : Int))), .int (oI (((g : Nat) : Int)))]) ∧ uu (3 * nx + 16) = oAN cT 4 sz2 ∧ uu (3 * nx + 17) = oAJ cT 4 w2 ∧ (∀ q : Nat, q ≠ 1 → q ≠ 2 → q ≠ 3 → q ≠ 13 → q ≠ (3 * nx + 15) → q ≠ (3 * nx + 16) → q ≠ (3 * nx + 17) → uu q = σ q)) (fun E uu => ((E = oIO ∧ oRefA 5 n sz r p 0 = 1) ∨ (E = oIA ∧ oRefA 5 n sz r p 0 = 2) ∨ (E = oIS ∧ oRefA 5 n sz r p 0 = 3)) ∧ uu = σ) := by
  refine m_startX (cc := cX5_set) (by decide) (Nat.le_of_ble_eq_true rfl) rfl ?_
  intro Pp Ee Ss Mm Bb Me Cc Ar ls hx hb hml hown hlk hrt hts hK hH hl hXT hnt
  have hown : Ss.vm.findClass RX5 = some Mm.cls := hown
  have hl : lv_has ls 3 [(0, .ref (ad (0))), (1, .int (oI (r))), (2, .int (oI (p)))] := hl
  have hf : ∀ q : Nat, q ≠ 1 → q ≠ 2 → q ≠ 3 → q ≠ 13 → q ≠ (3 * nx + 15) → q ≠ (3 * nx + 16) → q ≠ (3 * nx + 17) → σ q = σ q := fun q _ _ _ _ _ _ _ => rfl
  refine lv_aload_n hx hb dX5_set_0 rfl (lv_at hl 0 rfl) ?_
  refine m_iconst 5 hx hb dX5_set_1 rfl ?_
  refine lv_iload_n hx hb dX5_set_2 rfl (lv_at hl 1 rfl) ?_
  refine lv_iload_n hx hb dX5_set_3 rfl (lv_at hl 2 rfl) ?_
  refine m_iconst 0 hx hb dX5_set_4 rfl ?_
  refine m_xVi hx hb hml hown hts hK hXT hH hl hlk hnt (rest := []) cw_X5_197 (c5_act hA 5 r p 0 n a g sz w nx ms mn ma mg msz mw ff sf (by first | assumption | omega) (by first | assumption | omega) (by first | assumption | omega) (by first | assumption | omega) (by first | assumption | omega) (by first | assumption | omega) (by first | assumption | omega) (by first | assumption | omega) (by first | assumption | omega) (by first | assumption | omega) (by first | assumption | omega) eO e0 e1 e2 eM eA) ⟨Nat.le_of_ble_eq_true rfl, Nat.le_of_ble_eq_true rfl⟩ ⟨Nat.le_of_ble_eq_true rfl, Nat.le_of_ble_eq_true rfl⟩ ⟨Nat.le_of_ble_eq_true rfl, Nat.le_of_ble_eq_true rfl⟩ rfl (k := 0) (by omega) eO rfl rfl (Nat.le_of_ble_eq_true rfl) dX5_set_5 (fun E u h => h) (fun r_3 σ_1 H locs hp_2 hH => ?_)
  obtain ⟨n4, a5, g4, s4, w4, s5, w5, rfl, hok, hd, hwf4, hag4, hsw, e0, e1, e2, eM, e3mnxp15, e3mnxp16, e3mnxp17, hq_4⟩ := hp_2
  have eO : σ_1 (0) = .inr (5, [.ref (ad (1)), .ref (ad (4)), .ref (ad (7)), .ref (ad (10)), .int (oI (ff)), .int (oI (sf)), .ref (ad (13)), .ref (ad (57)), .ref (ad (59)), .ref (ad (64))]) := (hq_4 _ (by decide) (by decide) (by decide) (by decide) (by omega) (by omega) (by omega)).trans eO
  have eA : σ_1 (14) = oAO cT 14 (oMem ad) := (hq_4 _ (by decide) (by decide) (by decide) (by decide) (by omega) (by omega) (by omega)).trans eA
  have hf : ∀ q : Nat, q ≠ 1 → q ≠ 2 → q ≠ 3 → q ≠ 13 → q ≠ (3 * nx + 15) → q ≠ (3 * nx + 16) → q ≠ (3 * nx + 17) → σ_1 q = σ q := fun q n0 n1 n2 n3 n4 n5 n6 => (hq_4 q n0 n1 n2 n3 n4 n5 n6).trans (hf q n0 n1 n2 n3 n4 n5 n6)
  exact m_iretX hx hb hlk hrt hH ⟨Nat.le_of_ble_eq_true rfl, Nat.le_of_ble_eq_true rfl⟩ (m_ni _) dX5_set_8 ⟨n4, a5, g4, s4, w4, s5, w5, rfl, hok, hd, hwf4, hag4, hsw, e0, e1, e2, eM, e3mnxp15, e3mnxp16, e3mnxp17, hf⟩
