set_option maxHeartbeats 4000000 in
set_option maxRecDepth 100000 in
theorem c5_pairsApart {l : Launch} {D : va_G} {cT : Nat → ClassId} {N b0 : Nat} {ad : Nat → Nat} (hA : oAd b0 N ad) {σ : Nat → va_E} (w d : Nat) (hw : w < 2 ^ 64) (hd : d < 64) :
    oCi l D cT N ad b0 yX5_pairsApart cX5_pairsApart 3 (some .int) 1 21 [.long (lN (w)), .int (oI (((d : Nat) : Int)))] σ (fun rr uu => rr = oI (((oPa w d : Nat) : Int)) ∧ uu = σ) := by
  refine m_start (cc := cX5_pairsApart) (by decide) (Nat.le_of_ble_eq_true rfl) rfl ?_
  intro Pp Ee Ss Mm Bb Me Cc Ar ls hx hb hml hown hlk hrt hts hK hH hl
  have hown : Ss.vm.findClass RX5 = some Mm.cls := hown
  have hl : lv_has ls 3 [(0, .long (lN (w))), (2, .int (oI (((d : Nat) : Int))))] := hl
  refine lv_lload_n hx hb dX5_pairsApart_0 rfl (lv_at hl 0 rfl) ?_
  refine lv_lload_n hx hb dX5_pairsApart_1 rfl (lv_at hl 0 rfl) ?_
  refine lv_iload_n hx hb dX5_pairsApart_2 rfl (lv_at hl 1 rfl) ?_
  refine m_lushr (w / 2 ^ d) hx hb dX5_pairsApart_3 (hw) (by omega) (by rw [show (((d : Nat) : Int) : Int).toNat = d by omega]) ?_
  refine m_land (w &&& (w / 2 ^ d)) hx hb dX5_pairsApart_4 (rfl) ?_
  refine m_pFi hx hb hml hown hts hK hH hl (rest := []) cw_X5_111 (cJ_bitCount hA (w &&& (w / 2 ^ d)) (Nat.and_lt_two_pow _ (Nat.lt_of_le_of_lt (Nat.div_le_self _ _) hw)) ) ⟨Nat.le_of_ble_eq_true rfl, Nat.le_of_ble_eq_true rfl⟩ ⟨Nat.le_of_ble_eq_true rfl, Nat.le_of_ble_eq_true rfl⟩ rfl rfl (Nat.le_of_ble_eq_true rfl) dX5_pairsApart_5 (fun H locs hH => ?_)
  exact m_iret hx hb hlk hrt hH (m_ni _) dX5_pairsApart_8 ⟨congrArg oI (rfl), rfl⟩
set_option maxHeartbeats 4000000 in
set_option maxRecDepth 100000 in
theorem c5_spreadOf {l : Launch} {D : va_G} {cT : Nat → ClassId} {N b0 : Nat} {ad : Nat → Nat} (hA : oAd b0 N ad) {σ : Nat → va_E} (w : Nat) (hw : w < 2 ^ 64) :
    oCl l D cT N ad b0 yX5_spreadOf cX5_spreadOf 5 (some .long) 0 0 [.long (lN (w))] σ (fun rr uu => rr = lN (oSpr w 41) ∧ uu = σ) := by
  refine m_start (cc := cX5_spreadOf) (by decide) (Nat.le_of_ble_eq_true rfl) rfl ?_
  intro Pp Ee Ss Mm Bb Me Cc Ar ls hx hb hml hown hlk hrt hts hK hH hl
  have hown : Ss.vm.findClass RX5 = some Mm.cls := hown
  have hl : lv_has ls 5 [(0, .long (lN (w)))] := hl
  refine m_lconstN 0 hx hb dX5_spreadOf_0 rfl ?_
  refine lv_lstore_n (lv' := [(2, .long (lN (0))), (0, .long (lN (w)))]) hx hb dX5_spreadOf_1 rfl hl (by decide) rfl (fun ls hl => ?_)
  refine m_iconst 1 hx hb dX5_spreadOf_2 rfl ?_
  refine lv_istore (lv' := [(4, .int (oI (1))), (2, .long (lN (0))), (0, .long (lN (w)))]) hx hb dX5_spreadOf_3 hl (by decide) rfl (fun ls hl => ?_)
  have L5 : ∀ (fu : Nat) (d : Nat) (ac : Nat), (41 - d < fu) → (1 ≤ d ∧ d ≤ 41) → (ac = oSpr w d) → ∀ (H : Heap) (locs : List Loc), oH b0 D N ad Ss.heap σ H locs → ∀ ls : Array Slot, lv_has ls 5 [(0, .long (lN (w))), (2, .long (lN (ac))), (4, .int (oI (((d : Nat) : Int))))] → W Pp l Ee { frames := 0, cells := 0, slots := 0, locals := 0 } Ss Mm Ar Bb Me Cc H locs 0 0 (MQ Bb (va_Ql (fun rr uu => rr = lN (oSpr w 41) ∧ uu = σ) (oV D N ad) (fun q => b0 ≤ q)) Ar Ss 0 0 (fun q => b0 ≤ q)) (F0 Mm 5 ls []) := by
    intro fu5
    induction fu5 with
    | zero =>
      intro d ac hm5
      exact absurd hm5 (Nat.not_lt_zero _)
    | succ fu5 ih5 =>
      intro d ac hm5 hd hc H locs hH ls hl
      refine lv_iload hx hb dX5_spreadOf_5 (lv_at hl 2 rfl) ?_
      refine m_bipush 40 hx hb dX5_spreadOf_7 (by decide) ?_
      refine m_icmp_gt 36 hx hb dX5_spreadOf_9 (by decide) (by omega) (by omega) (fun h_1 => ?_) (fun h_1 => ?_)
      · refine lv_lload_n hx hb dX5_spreadOf_36 rfl (lv_at hl 1 rfl) ?_
        exact m_lret hx hb hlk hrt hH dX5_spreadOf_37 ⟨congrArg lN (by rw [hc, show d = 41 by omega]), rfl⟩
      · refine lv_lload_n hx hb dX5_spreadOf_12 rfl (lv_at hl 0 rfl) ?_
        refine lv_lload_n hx hb dX5_spreadOf_13 rfl (lv_at hl 0 rfl) ?_
        refine lv_iload hx hb dX5_spreadOf_14 (lv_at hl 2 rfl) ?_
        refine m_lushr (w / 2 ^ d) hx hb dX5_spreadOf_16 (hw) (by omega) (by rw [show (((d : Nat) : Int) : Int).toNat = d by omega]) ?_
        refine m_land (w &&& (w / 2 ^ d)) hx hb dX5_spreadOf_17 (rfl) ?_
        refine m_lconstN 0 hx hb dX5_spreadOf_18 rfl ?_
        refine m_lcmpN_eq 30 hx hb dX5_spreadOf_19 dX5_spreadOf_20 (by decide) (Nat.and_lt_two_pow _ (Nat.lt_of_le_of_lt (Nat.div_le_self _ _) hw)) (by decide) (fun hz => ?_) (fun hz => ?_)
        · refine m_iinc (((d : Nat) : Int) + 1) [(4, .int (oI (((d : Nat) : Int) + 1))), (0, .long (lN (w))), (2, .long (lN (ac)))] hx hb dX5_spreadOf_30 hl (j := 2) rfl (by omega) (by decide) rfl (fun ls hl => ?_)
          refine lv_goto (tgt := 5) hx hb dX5_spreadOf_33 (by decide) ?_
          exact ih5 (d + 1) ac (by omega) (by first | assumption | omega) (hc.trans (oSpr_n hz).symm) _ _ hH ls (lv_sub hl [1, 2, 0] rfl)
        · refine lv_lload_n hx hb dX5_spreadOf_23 rfl (lv_at hl 1 rfl) ?_
          refine m_lconstN 1 hx hb dX5_spreadOf_24 rfl ?_
          refine lv_iload hx hb dX5_spreadOf_25 (lv_at hl 2 rfl) ?_
          refine m_lshl (2 ^ d) hx hb dX5_spreadOf_27 (by omega) (Nat.one_mul _) ?_
          refine m_lor (ac ||| (2 ^ d)) hx hb dX5_spreadOf_28 (rfl) ?_
          refine lv_lstore_n (lv' := [(2, .long (lN (ac ||| (2 ^ d)))), (0, .long (lN (w))), (4, .int (oI (((d : Nat) : Int))))]) hx hb dX5_spreadOf_29 rfl hl (by decide) rfl (fun ls hl => ?_)
          refine m_iinc (((d : Nat) : Int) + 1) [(4, .int (oI (((d : Nat) : Int) + 1))), (2, .long (lN (ac ||| (2 ^ d)))), (0, .long (lN (w)))] hx hb dX5_spreadOf_30 hl (j := 2) rfl (by omega) (by decide) rfl (fun ls hl => ?_)
          refine lv_goto (tgt := 5) hx hb dX5_spreadOf_33 (by decide) ?_
          exact ih5 (d + 1) (ac ||| (2 ^ d)) (by omega) (by first | assumption | omega) (by rw [hc]; exact (oSpr_y hd.1 hz).symm) _ _ hH ls (lv_sub hl [2, 1, 0] rfl)
  exact L5 _ 1 0 (Nat.lt_succ_self _) (by first | assumption | omega) (rfl) _ _ hH ls (lv_sub hl [2, 1, 0] rfl)
set_option maxHeartbeats 4000000 in
set_option maxRecDepth 100000 in
theorem c5_lowest {l : Launch} {D : va_G} {cT : Nat → ClassId} {N b0 : Nat} {ad : Nat → Nat} (hA : oAd b0 N ad) {σ : Nat → va_E} (w : Nat) (hw : w < 2 ^ 64) :
    oCi l D cT N ad b0 yX5_lowest cX5_lowest 3 (some .int) 1 22 [.long (lN (w))] σ (fun rr uu => rr = oI ((oLowest w)) ∧ uu = σ) := by
  refine m_start (cc := cX5_lowest) (by decide) (Nat.le_of_ble_eq_true rfl) rfl ?_
  intro Pp Ee Ss Mm Bb Me Cc Ar ls hx hb hml hown hlk hrt hts hK hH hl
  have hown : Ss.vm.findClass RX5 = some Mm.cls := hown
  have hl : lv_has ls 3 [(0, .long (lN (w)))] := hl
  refine m_iconst 0 hx hb dX5_lowest_0 rfl ?_
  refine lv_istore_n (lv' := [(2, .int (oI (0))), (0, .long (lN (w)))]) hx hb dX5_lowest_1 rfl hl (by decide) rfl (fun ls hl => ?_)
  have L2 : ∀ (fu : Nat) (i : Nat), (64 - i < fu) → (i ≤ 64) → (∀ q : Nat, q < i → w.testBit q = false) → ∀ (H : Heap) (locs : List Loc), oH b0 D N ad Ss.heap σ H locs → ∀ ls : Array Slot, lv_has ls 3 [(0, .long (lN (w))), (2, .int (oI (((i : Nat) : Int))))] → W Pp l Ee { frames := 1, cells := 0, slots := 0, locals := 22 } Ss Mm Ar Bb Me Cc H locs 0 0 (MQ Bb (va_Qi (fun rr uu => rr = oI ((oLowest w)) ∧ uu = σ) (oV D N ad) (fun q => b0 ≤ q)) Ar Ss 0 0 (fun q => b0 ≤ q)) (F0 Mm 2 ls []) := by
    intro fu2
    induction fu2 with
    | zero =>
      intro i hm2
      exact absurd hm2 (Nat.not_lt_zero _)
    | succ fu2 ih2 =>
      intro i hm2 hi hn H locs hH ls hl
      refine lv_iload_n hx hb dX5_lowest_2 rfl (lv_at hl 1 rfl) ?_
      refine m_bipush 64 hx hb dX5_lowest_3 (by decide) ?_
      refine m_icmp_ge 24 hx hb dX5_lowest_5 (by decide) (by omega) (by omega) (fun h_1 => ?_) (fun h_1 => ?_)
      · refine m_iconst (-1) hx hb dX5_lowest_24 rfl ?_
        exact m_iret hx hb hlk hrt hH (m_ni _) dX5_lowest_25 ⟨congrArg oI ((oLowest_no (by rw [show i = 64 by omega] at hn; exact hn)).symm), rfl⟩
      · refine lv_lload_n hx hb dX5_lowest_8 rfl (lv_at hl 0 rfl) ?_
        refine lv_iload_n hx hb dX5_lowest_9 rfl (lv_at hl 1 rfl) ?_
        refine m_pSb hx hb hml hown hts hK hH hl (rest := []) cw_X5_345 rfl (c5_hasBit hA w ((i : Nat) : Int) (by first | assumption | omega) (by first | assumption | omega) ) ⟨Nat.le_of_ble_eq_true rfl, Nat.le_of_ble_eq_true rfl⟩ ⟨Nat.le_of_ble_eq_true rfl, Nat.le_of_ble_eq_true rfl⟩ rfl rfl (Nat.le_of_ble_eq_true rfl) dX5_lowest_10 (fun hz H locs hH => ?_) (fun hz H locs hH => ?_)
        · refine m_if_eq 18 hx hb dX5_lowest_13 (by decide) (by omega) (fun h_2 => absurd h_2 (by omega)) (fun h_2 => ?_)
          refine lv_iload_n hx hb dX5_lowest_16 rfl (lv_at hl 1 rfl) ?_
          exact m_iret hx hb hlk hrt hH (m_ni _) dX5_lowest_17 ⟨congrArg oI ((oLowest_at (by omega) hz.2.2 hn).symm), rfl⟩
        · refine m_if_eq 18 hx hb dX5_lowest_13 (by decide) (by omega) (fun h_3 => ?_) (fun h_3 => absurd h_3 (by omega))
          refine m_iinc (((i : Nat) : Int) + 1) [(2, .int (oI (((i : Nat) : Int) + 1))), (0, .long (lN (w)))] hx hb dX5_lowest_18 hl (j := 1) rfl (by omega) (by decide) rfl (fun ls hl => ?_)
          refine lv_goto (tgt := 2) hx hb dX5_lowest_21 (by decide) ?_
          exact ih2 (i + 1) (by omega) (by first | assumption | omega) (fun q h => (Nat.lt_or_ge q i).elim (hn q) (fun h2 => by rw [show q = i by omega]; exact Bool.eq_false_iff.mpr (fun z => hz ⟨by omega, by omega, z⟩))) _ _ hH ls (lv_sub hl [1, 0] rfl)
  exact L2 _ 0 (Nat.lt_succ_self _) (by first | assumption | omega) (fun q h => absurd h (Nat.not_lt_zero _)) _ _ hH ls (lv_sub hl [1, 0] rfl)
set_option maxHeartbeats 4000000 in
set_option maxRecDepth 100000 in
theorem c5_reversed {l : Launch} {D : va_G} {cT : Nat → ClassId} {N b0 : Nat} {ad : Nat → Nat} (hA : oAd b0 N ad) {σ : Nat → va_E} (w sz1 : Nat) (hw : w < 2 ^ 64) (hs : sz1 ≤ 40) :
    oCl l D cT N ad b0 yX5_reversed cX5_reversed 6 (some .long) 1 22 [.long (lN (w)), .int (oI (((sz1 : Nat) : Int)))] σ (fun rr uu => rr = lN (oRev w sz1) ∧ uu = σ) := by
  refine m_start (cc := cX5_reversed) (by decide) (Nat.le_of_ble_eq_true rfl) rfl ?_
  intro Pp Ee Ss Mm Bb Me Cc Ar ls hx hb hml hown hlk hrt hts hK hH hl
  have hown : Ss.vm.findClass RX5 = some Mm.cls := hown
  have hl : lv_has ls 6 [(0, .long (lN (w))), (2, .int (oI (((sz1 : Nat) : Int))))] := hl
  refine m_lconstN 0 hx hb dX5_reversed_0 rfl ?_
  refine lv_lstore_n (lv' := [(3, .long (lN (0))), (0, .long (lN (w))), (2, .int (oI (((sz1 : Nat) : Int))))]) hx hb dX5_reversed_1 rfl hl (by decide) rfl (fun ls hl => ?_)
  refine m_iconst 0 hx hb dX5_reversed_2 rfl ?_
  refine lv_istore (lv' := [(5, .int (oI (0))), (3, .long (lN (0))), (0, .long (lN (w))), (2, .int (oI (((sz1 : Nat) : Int))))]) hx hb dX5_reversed_3 hl (by decide) rfl (fun ls hl => ?_)
  have L5 : ∀ (fu : Nat) (i : Nat) (ac : Nat), (sz1 + 1 - i < fu) → (i ≤ sz1 + 1) → (ac = oRevA w sz1 i) → ∀ (H : Heap) (locs : List Loc), oH b0 D N ad Ss.heap σ H locs → ∀ ls : Array Slot, lv_has ls 6 [(0, .long (lN (w))), (2, .int (oI (((sz1 : Nat) : Int)))), (3, .long (lN (ac))), (5, .int (oI (((i : Nat) : Int))))] → W Pp l Ee { frames := 1, cells := 0, slots := 0, locals := 22 } Ss Mm Ar Bb Me Cc H locs 0 0 (MQ Bb (va_Ql (fun rr uu => rr = lN (oRev w sz1) ∧ uu = σ) (oV D N ad) (fun q => b0 ≤ q)) Ar Ss 0 0 (fun q => b0 ≤ q)) (F0 Mm 5 ls []) := by
    intro fu5
    induction fu5 with
    | zero =>
      intro i ac hm5
      exact absurd hm5 (Nat.not_lt_zero _)
    | succ fu5 ih5 =>
      intro i ac hm5 hi hc H locs hH ls hl
      refine lv_iload hx hb dX5_reversed_5 (lv_at hl 3 rfl) ?_
      refine lv_iload_n hx hb dX5_reversed_7 rfl (lv_at hl 1 rfl) ?_
      refine m_icmp_gt 42 hx hb dX5_reversed_8 (by decide) (by omega) (by omega) (fun h_1 => ?_) (fun h_1 => ?_)
      · refine lv_lload_n hx hb dX5_reversed_42 rfl (lv_at hl 2 rfl) ?_
        exact m_lret hx hb hlk hrt hH dX5_reversed_43 ⟨congrArg lN (by rw [hc, show i = sz1 + 1 by omega]; rfl), rfl⟩
      · refine lv_iload hx hb dX5_reversed_11 (lv_at hl 3 rfl) ?_
        refine m_bipush 40 hx hb dX5_reversed_13 (by decide) ?_
        refine m_icmp_gt 42 hx hb dX5_reversed_15 (by decide) (by omega) (by omega) (fun h_2 => absurd h_2 (by omega)) (fun h_2 => ?_)
        refine lv_lload_n hx hb dX5_reversed_18 rfl (lv_at hl 0 rfl) ?_
        refine lv_iload hx hb dX5_reversed_19 (lv_at hl 3 rfl) ?_
        refine m_pSb hx hb hml hown hts hK hH hl (rest := []) cw_X5_345 rfl (c5_hasBit hA w ((i : Nat) : Int) (by first | assumption | omega) (by first | assumption | omega) ) ⟨Nat.le_of_ble_eq_true rfl, Nat.le_of_ble_eq_true rfl⟩ ⟨Nat.le_of_ble_eq_true rfl, Nat.le_of_ble_eq_true rfl⟩ rfl rfl (Nat.le_of_ble_eq_true rfl) dX5_reversed_21 (fun hz H locs hH => ?_) (fun hz H locs hH => ?_)
        · refine m_if_eq 36 hx hb dX5_reversed_24 (by decide) (by omega) (fun h_3 => absurd h_3 (by omega)) (fun h_3 => ?_)
          refine lv_lload_n hx hb dX5_reversed_27 rfl (lv_at hl 2 rfl) ?_
          refine m_lconstN 1 hx hb dX5_reversed_28 rfl ?_
          refine lv_iload_n hx hb dX5_reversed_29 rfl (lv_at hl 1 rfl) ?_
          refine lv_iload hx hb dX5_reversed_30 (lv_at hl 3 rfl) ?_
          refine m_isub (-((i : Nat) : Int) + ((sz1 : Nat) : Int)) hx hb dX5_reversed_32 (by omega) ?_
          refine m_lshl (2 ^ (sz1 - i)) hx hb dX5_reversed_33 (by omega) ((Nat.one_mul _).trans (by rw [show (-((i : Nat) : Int) + ((sz1 : Nat) : Int)).toNat = sz1 - i by omega])) ?_
          refine m_lor (ac ||| (2 ^ (sz1 - i))) hx hb dX5_reversed_34 (rfl) ?_
          refine lv_lstore_n (lv' := [(3, .long (lN (ac ||| (2 ^ (sz1 - i))))), (0, .long (lN (w))), (2, .int (oI (((sz1 : Nat) : Int)))), (5, .int (oI (((i : Nat) : Int))))]) hx hb dX5_reversed_35 rfl hl (by decide) rfl (fun ls hl => ?_)
          refine m_iinc (((i : Nat) : Int) + 1) [(5, .int (oI (((i : Nat) : Int) + 1))), (3, .long (lN (ac ||| (2 ^ (sz1 - i))))), (0, .long (lN (w))), (2, .int (oI (((sz1 : Nat) : Int))))] hx hb dX5_reversed_36 hl (j := 3) rfl (by omega) (by decide) rfl (fun ls hl => ?_)
          refine lv_goto (tgt := 5) hx hb dX5_reversed_39 (by decide) ?_
          exact ih5 (i + 1) (ac ||| (2 ^ (sz1 - i))) (by omega) (by first | assumption | omega) (by rw [hc]; exact (oRevA_y hz.2.2).symm) _ _ hH ls (lv_sub hl [2, 3, 1, 0] rfl)
        · refine m_if_eq 36 hx hb dX5_reversed_24 (by decide) (by omega) (fun h_4 => ?_) (fun h_4 => absurd h_4 (by omega))
          refine m_iinc (((i : Nat) : Int) + 1) [(5, .int (oI (((i : Nat) : Int) + 1))), (0, .long (lN (w))), (2, .int (oI (((sz1 : Nat) : Int)))), (3, .long (lN (ac)))] hx hb dX5_reversed_36 hl (j := 3) rfl (by omega) (by decide) rfl (fun ls hl => ?_)
          refine lv_goto (tgt := 5) hx hb dX5_reversed_39 (by decide) ?_
          exact ih5 (i + 1) ac (by omega) (by first | assumption | omega) (hc.trans (oRevA_n (fun z => hz ⟨by omega, by omega, z⟩)).symm) _ _ hH ls (lv_sub hl [1, 2, 3, 0] rfl)
  exact L5 _ 0 0 (Nat.lt_succ_self _) (by first | assumption | omega) (rfl) _ _ hH ls (lv_sub hl [2, 3, 1, 0] rfl)
set_option maxHeartbeats 4000000 in
set_option maxRecDepth 100000 in
theorem c5_commonest {l : Launch} {D : va_G} {cT : Nat → ClassId} {N b0 : Nat} {ad : Nat → Nat} (hA : oAd b0 N ad) {σ : Nat → va_E} (w : Nat) (hw : w < 2 ^ 64) :
    oCi l D cT N ad b0 yX5_commonest cX5_commonest 6 (some .int) 2 43 [.long (lN (w))] σ (fun rr uu => rr = oI ((((oCom w 40).1 : Nat) : Int)) ∧ uu = σ) := by
  refine m_start (cc := cX5_commonest) (by decide) (Nat.le_of_ble_eq_true rfl) rfl ?_
  intro Pp Ee Ss Mm Bb Me Cc Ar ls hx hb hml hown hlk hrt hts hK hH hl
  have hown : Ss.vm.findClass RX5 = some Mm.cls := hown
  have hpl : ∀ d : Nat, oPa w d ≤ 64 := fun d => pcnt_le _
  have hl : lv_has ls 6 [(0, .long (lN (w)))] := hl
  refine m_iconst 0 hx hb dX5_commonest_0 rfl ?_
  refine lv_istore_n (lv' := [(2, .int (oI (0))), (0, .long (lN (w)))]) hx hb dX5_commonest_1 rfl hl (by decide) rfl (fun ls hl => ?_)
  refine m_iconst 0 hx hb dX5_commonest_2 rfl ?_
  refine lv_istore_n (lv' := [(3, .int (oI (0))), (2, .int (oI (0))), (0, .long (lN (w)))]) hx hb dX5_commonest_3 rfl hl (by decide) rfl (fun ls hl => ?_)
  refine m_iconst 1 hx hb dX5_commonest_4 rfl ?_
  refine lv_istore (lv' := [(4, .int (oI (1))), (3, .int (oI (0))), (2, .int (oI (0))), (0, .long (lN (w)))]) hx hb dX5_commonest_5 hl (by decide) rfl (fun ls hl => ?_)
  have L7 : ∀ (fu : Nat) (d : Nat) (be : Nat) (mo : Nat), (41 - d < fu) → (d ≤ 40) → (be = (oCom w d).1) → (mo = (oCom w d).2) → (mo ≤ 64) → ∀ (H : Heap) (locs : List Loc), oH b0 D N ad Ss.heap σ H locs → ∀ ls : Array Slot, lv_has ls 6 [(0, .long (lN (w))), (2, .int (oI (((be : Nat) : Int)))), (3, .int (oI (((mo : Nat) : Int)))), (4, .int (oI (((d : Nat) : Int) + 1)))] → W Pp l Ee { frames := 2, cells := 0, slots := 0, locals := 43 } Ss Mm Ar Bb Me Cc H locs 0 0 (MQ Bb (va_Qi (fun rr uu => rr = oI ((((oCom w 40).1 : Nat) : Int)) ∧ uu = σ) (oV D N ad) (fun q => b0 ≤ q)) Ar Ss 0 0 (fun q => b0 ≤ q)) (F0 Mm 7 ls []) := by
    intro fu7
    induction fu7 with
    | zero =>
      intro d be mo hm7
      exact absurd hm7 (Nat.not_lt_zero _)
    | succ fu7 ih7 =>
      intro d be mo hm7 hd hc hm2 hm3 H locs hH ls hl
      refine lv_iload hx hb dX5_commonest_7 (lv_at hl 3 rfl) ?_
      refine m_bipush 40 hx hb dX5_commonest_9 (by decide) ?_
      refine m_icmp_gt 40 hx hb dX5_commonest_11 (by decide) (by omega) (by omega) (fun h_1 => ?_) (fun h_1 => ?_)
      · refine lv_iload_n hx hb dX5_commonest_40 rfl (lv_at hl 1 rfl) ?_
        exact m_iret hx hb hlk hrt hH (m_ni _) dX5_commonest_41 ⟨congrArg oI (by rw [hc, show d = 40 by omega]), rfl⟩
      · refine lv_lload_n hx hb dX5_commonest_14 rfl (lv_at hl 0 rfl) ?_
        refine lv_iload hx hb dX5_commonest_15 (lv_at hl 3 rfl) ?_
        refine m_pSi hx hb hml hown hts hK hH hl (rest := []) cw_X5_349 rfl (c5_pairsApart hA w (d + 1) (by first | assumption | omega) (by first | assumption | omega) ) ⟨Nat.le_of_ble_eq_true rfl, Nat.le_of_ble_eq_true rfl⟩ ⟨Nat.le_of_ble_eq_true rfl, Nat.le_of_ble_eq_true rfl⟩ rfl rfl (Nat.le_of_ble_eq_true rfl) dX5_commonest_17 (fun H locs hH => ?_)
        have hp1 := hpl (d + 1)
        refine lv_istore (lv' := [(5, .int (oI (((oPa w (d + 1) : Nat) : Int)))), (0, .long (lN (w))), (2, .int (oI (((be : Nat) : Int)))), (3, .int (oI (((mo : Nat) : Int)))), (4, .int (oI (((d : Nat) : Int) + 1)))]) hx hb dX5_commonest_20 hl (by decide) rfl (fun ls hl => ?_)
        refine lv_iload hx hb dX5_commonest_22 (lv_at hl 0 rfl) ?_
        refine lv_iload_n hx hb dX5_commonest_24 rfl (lv_at hl 3 rfl) ?_
        refine m_icmp_le 34 hx hb dX5_commonest_25 (by decide) (by omega) (by omega) (fun h_2 => ?_) (fun h_2 => ?_)
        · refine m_iinc (((d : Nat) : Int) + 2) [(4, .int (oI (((d : Nat) : Int) + 2))), (5, .int (oI (((oPa w (d + 1) : Nat) : Int)))), (0, .long (lN (w))), (2, .int (oI (((be : Nat) : Int)))), (3, .int (oI (((mo : Nat) : Int))))] hx hb dX5_commonest_34 hl (j := 4) rfl (by omega) (by decide) rfl (fun ls hl => ?_)
          refine lv_goto (tgt := 7) hx hb dX5_commonest_37 (by decide) ?_
          exact ih7 (d + 1) be mo (by omega) (by first | assumption | omega) (by rw [oCom_n (by omega)]; exact hc) (by rw [oCom_n (by omega)]; exact hm2) (by first | assumption | omega) _ _ hH ls (lv_sub hl [2, 3, 4, 0] rfl)
        · refine lv_iload hx hb dX5_commonest_28 (lv_at hl 0 rfl) ?_
          refine lv_istore_n (lv' := [(3, .int (oI (((oPa w (d + 1) : Nat) : Int)))), (5, .int (oI (((oPa w (d + 1) : Nat) : Int)))), (0, .long (lN (w))), (2, .int (oI (((be : Nat) : Int)))), (4, .int (oI (((d : Nat) : Int) + 1)))]) hx hb dX5_commonest_30 rfl hl (by decide) rfl (fun ls hl => ?_)
          refine lv_iload hx hb dX5_commonest_31 (lv_at hl 4 rfl) ?_
          refine lv_istore_n (lv' := [(2, .int (oI (((d : Nat) : Int) + 1))), (3, .int (oI (((oPa w (d + 1) : Nat) : Int)))), (5, .int (oI (((oPa w (d + 1) : Nat) : Int)))), (0, .long (lN (w))), (4, .int (oI (((d : Nat) : Int) + 1)))]) hx hb dX5_commonest_33 rfl hl (by decide) rfl (fun ls hl => ?_)
          refine m_iinc (((d : Nat) : Int) + 2) [(4, .int (oI (((d : Nat) : Int) + 2))), (2, .int (oI (((d : Nat) : Int) + 1))), (3, .int (oI (((oPa w (d + 1) : Nat) : Int)))), (5, .int (oI (((oPa w (d + 1) : Nat) : Int)))), (0, .long (lN (w)))] hx hb dX5_commonest_34 hl (j := 4) rfl (by omega) (by decide) rfl (fun ls hl => ?_)
          refine lv_goto (tgt := 7) hx hb dX5_commonest_37 (by decide) ?_
          exact ih7 (d + 1) (d + 1) (oPa w (d + 1)) (by omega) (by first | assumption | omega) (by rw [oCom_y (by omega)]) (by rw [oCom_y (by omega)]) (hpl _) _ _ hH ls (lv_sub hl [4, 1, 2, 0] rfl)
  exact L7 _ 0 0 0 (Nat.lt_succ_self _) (by first | assumption | omega) (rfl) (rfl) (by first | assumption | omega) _ _ hH ls (lv_sub hl [3, 2, 1, 0] rfl)
set_option maxHeartbeats 4000000 in
set_option maxRecDepth 100000 in
theorem c5_leastMissing {l : Launch} {D : va_G} {cT : Nat → ClassId} {N b0 : Nat} {ad : Nat → Nat} (hA : oAd b0 N ad) {σ : Nat → va_E} (w : Nat) (hw : w < 2 ^ 64) :
    oCi l D cT N ad b0 yX5_leastMissing cX5_leastMissing 3 (some .int) 1 22 [.long (lN (w))] σ (fun rr uu => rr = oI (((oMiss w : Nat) : Int)) ∧ uu = σ) := by
  refine m_start (cc := cX5_leastMissing) (by decide) (Nat.le_of_ble_eq_true rfl) rfl ?_
  intro Pp Ee Ss Mm Bb Me Cc Ar ls hx hb hml hown hlk hrt hts hK hH hl
  have hown : Ss.vm.findClass RX5 = some Mm.cls := hown
  have hl : lv_has ls 3 [(0, .long (lN (w)))] := hl
  refine m_iconst 1 hx hb dX5_leastMissing_0 rfl ?_
  refine lv_istore_n (lv' := [(2, .int (oI (1))), (0, .long (lN (w)))]) hx hb dX5_leastMissing_1 rfl hl (by decide) rfl (fun ls hl => ?_)
  have L2 : ∀ (fu : Nat) (d : Nat), (41 - d < fu) → (1 ≤ d ∧ d ≤ 41) → (∀ q : Nat, 1 ≤ q → q < d → w.testBit q = true) → ∀ (H : Heap) (locs : List Loc), oH b0 D N ad Ss.heap σ H locs → ∀ ls : Array Slot, lv_has ls 3 [(0, .long (lN (w))), (2, .int (oI (((d : Nat) : Int))))] → W Pp l Ee { frames := 1, cells := 0, slots := 0, locals := 22 } Ss Mm Ar Bb Me Cc H locs 0 0 (MQ Bb (va_Qi (fun rr uu => rr = oI (((oMiss w : Nat) : Int)) ∧ uu = σ) (oV D N ad) (fun q => b0 ≤ q)) Ar Ss 0 0 (fun q => b0 ≤ q)) (F0 Mm 2 ls []) := by
    intro fu2
    induction fu2 with
    | zero =>
      intro d hm2
      exact absurd hm2 (Nat.not_lt_zero _)
    | succ fu2 ih2 =>
      intro d hm2 hd hn H locs hH ls hl
      refine lv_iload_n hx hb dX5_leastMissing_2 rfl (lv_at hl 1 rfl) ?_
      refine m_bipush 40 hx hb dX5_leastMissing_3 (by decide) ?_
      refine m_icmp_gt 22 hx hb dX5_leastMissing_5 (by decide) (by omega) (by omega) (fun h_1 => ?_) (fun h_1 => ?_)
      · refine lv_iload_n hx hb dX5_leastMissing_22 rfl (lv_at hl 1 rfl) ?_
        exact m_iret hx hb hlk hrt hH (m_ni _) dX5_leastMissing_23 ⟨congrArg oI (by rw [oMiss_no (by rw [show d = 41 by omega] at hn; exact hn)]; omega), rfl⟩
      · refine lv_lload_n hx hb dX5_leastMissing_8 rfl (lv_at hl 0 rfl) ?_
        refine lv_iload_n hx hb dX5_leastMissing_9 rfl (lv_at hl 1 rfl) ?_
        refine m_pSb hx hb hml hown hts hK hH hl (rest := []) cw_X5_345 rfl (c5_hasBit hA w ((d : Nat) : Int) (by first | assumption | omega) (by first | assumption | omega) ) ⟨Nat.le_of_ble_eq_true rfl, Nat.le_of_ble_eq_true rfl⟩ ⟨Nat.le_of_ble_eq_true rfl, Nat.le_of_ble_eq_true rfl⟩ rfl rfl (Nat.le_of_ble_eq_true rfl) dX5_leastMissing_10 (fun hz H locs hH => ?_) (fun hz H locs hH => ?_)
        · refine m_if_eq 22 hx hb dX5_leastMissing_13 (by decide) (by omega) (fun h_2 => absurd h_2 (by omega)) (fun h_2 => ?_)
          refine m_iinc (((d : Nat) : Int) + 1) [(2, .int (oI (((d : Nat) : Int) + 1))), (0, .long (lN (w)))] hx hb dX5_leastMissing_16 hl (j := 1) rfl (by omega) (by decide) rfl (fun ls hl => ?_)
          refine lv_goto (tgt := 2) hx hb dX5_leastMissing_19 (by decide) ?_
          exact ih2 (d + 1) (by omega) (by first | assumption | omega) (fun q h1 h2 => (Nat.lt_or_ge q d).elim (hn q h1) (fun h3 => by rw [show q = d by omega]; exact hz.2.2)) _ _ hH ls (lv_sub hl [1, 0] rfl)
        · refine m_if_eq 22 hx hb dX5_leastMissing_13 (by decide) (by omega) (fun h_3 => ?_) (fun h_3 => absurd h_3 (by omega))
          refine lv_iload_n hx hb dX5_leastMissing_22 rfl (lv_at hl 1 rfl) ?_
          exact m_iret hx hb hlk hrt hH (m_ni _) dX5_leastMissing_23 ⟨congrArg oI (by rw [oMiss_at hd.1 (by omega) (fun z => hz ⟨by omega, by omega, z⟩) hn]), rfl⟩
  exact L2 _ 1 (Nat.lt_succ_self _) (by first | assumption | omega) (fun q h1 h2 => by omega) _ _ hH ls (lv_sub hl [1, 0] rfl)
set_option maxHeartbeats 4000000 in
set_option maxRecDepth 100000 in
theorem c5_dividesAll {l : Launch} {D : va_G} {cT : Nat → ClassId} {N b0 : Nat} {ad : Nat → Nat} (hA : oAd b0 N ad) {σ : Nat → va_E} (d w : Nat) (hw : w < 2 ^ 64) (hd : 1 ≤ d ∧ d ≤ 40) :
    oCi l D cT N ad b0 yX5_dividesAll cX5_dividesAll 4 (some .boolean) 1 22 [.int (oI (((d : Nat) : Int))), .long (lN (w))] σ (fun rr uu => (rr = oI 1 ∧ (oDivAll d w) ∨ rr = oI 0 ∧ ¬ (oDivAll d w)) ∧ uu = σ) := by
  refine m_start (cc := cX5_dividesAll) (by decide) (Nat.le_of_ble_eq_true rfl) rfl ?_
  intro Pp Ee Ss Mm Bb Me Cc Ar ls hx hb hml hown hlk hrt hts hK hH hl
  have hown : Ss.vm.findClass RX5 = some Mm.cls := hown
  have hl : lv_has ls 4 [(0, .int (oI (((d : Nat) : Int)))), (1, .long (lN (w)))] := hl
  refine m_iconst 1 hx hb dX5_dividesAll_0 rfl ?_
  refine lv_istore_n (lv' := [(3, .int (oI (1))), (0, .int (oI (((d : Nat) : Int)))), (1, .long (lN (w)))]) hx hb dX5_dividesAll_1 rfl hl (by decide) rfl (fun ls hl => ?_)
  have L2 : ∀ (fu : Nat) (k : Nat), (41 - k < fu) → (1 ≤ k ∧ k ≤ 41) → (∀ q : Nat, 1 ≤ q → q < k → w.testBit q = true → q % d = 0) → ∀ (H : Heap) (locs : List Loc), oH b0 D N ad Ss.heap σ H locs → ∀ ls : Array Slot, lv_has ls 4 [(0, .int (oI (((d : Nat) : Int)))), (1, .long (lN (w))), (3, .int (oI (((k : Nat) : Int))))] → W Pp l Ee { frames := 1, cells := 0, slots := 0, locals := 22 } Ss Mm Ar Bb Me Cc H locs 0 0 (MQ Bb (va_Qi (fun rr uu => (rr = oI 1 ∧ (oDivAll d w) ∨ rr = oI 0 ∧ ¬ (oDivAll d w)) ∧ uu = σ) (oV D N ad) (fun q => b0 ≤ q)) Ar Ss 0 0 (fun q => b0 ≤ q)) (F0 Mm 2 ls []) := by
    intro fu2
    induction fu2 with
    | zero =>
      intro k hm2
      exact absurd hm2 (Nat.not_lt_zero _)
    | succ fu2 ih2 =>
      intro k hm2 hk hn H locs hH ls hl
      have hmd := Nat.mod_lt k (show 0 < d by omega)
      refine lv_iload_n hx hb dX5_dividesAll_2 rfl (lv_at hl 2 rfl) ?_
      refine m_bipush 40 hx hb dX5_dividesAll_3 (by decide) ?_
      refine m_icmp_gt 34 hx hb dX5_dividesAll_5 (by decide) (by omega) (by omega) (fun h_1 => ?_) (fun h_1 => ?_)
      · refine m_iconst 1 hx hb dX5_dividesAll_34 rfl ?_
        exact m_iret hx hb hlk hrt hH m_z1 dX5_dividesAll_35 ⟨Or.inl ⟨rfl, fun q h1 h2 h3 => hn q h1 (by omega) h3⟩, rfl⟩
      · refine lv_lload_n hx hb dX5_dividesAll_8 rfl (lv_at hl 1 rfl) ?_
        refine lv_iload_n hx hb dX5_dividesAll_9 rfl (lv_at hl 2 rfl) ?_
        refine m_pSb hx hb hml hown hts hK hH hl (rest := []) cw_X5_345 rfl (c5_hasBit hA w ((k : Nat) : Int) (by first | assumption | omega) (by first | assumption | omega) ) ⟨Nat.le_of_ble_eq_true rfl, Nat.le_of_ble_eq_true rfl⟩ ⟨Nat.le_of_ble_eq_true rfl, Nat.le_of_ble_eq_true rfl⟩ rfl rfl (Nat.le_of_ble_eq_true rfl) dX5_dividesAll_10 (fun hz H locs hH => ?_) (fun hz H locs hH => ?_)
        · refine m_if_eq 28 hx hb dX5_dividesAll_13 (by decide) (by omega) (fun h_2 => absurd h_2 (by omega)) (fun h_2 => ?_)
          refine lv_iload_n hx hb dX5_dividesAll_16 rfl (lv_at hl 0 rfl) ?_
          refine m_if_le 28 hx hb dX5_dividesAll_17 (by decide) (by omega) (fun h_3 => absurd h_3 (by omega)) (fun h_3 => ?_)
          refine lv_iload_n hx hb dX5_dividesAll_20 rfl (lv_at hl 2 rfl) ?_
          refine lv_iload_n hx hb dX5_dividesAll_21 rfl (lv_at hl 0 rfl) ?_
          refine m_irem (((k % d : Nat) : Int)) hx hb dX5_dividesAll_22 (by omega) (by omega) (rfl) ?_
          refine m_if_eq 28 hx hb dX5_dividesAll_23 (by decide) (by omega) (fun hm4 => ?_) (fun hm4 => ?_)
          · refine m_iinc (((k : Nat) : Int) + 1) [(3, .int (oI (((k : Nat) : Int) + 1))), (0, .int (oI (((d : Nat) : Int)))), (1, .long (lN (w)))] hx hb dX5_dividesAll_28 hl (j := 2) rfl (by omega) (by decide) rfl (fun ls hl => ?_)
            refine lv_goto (tgt := 2) hx hb dX5_dividesAll_31 (by decide) ?_
            exact ih2 (k + 1) (by omega) (by first | assumption | omega) (fun q h1 h2 h4 => (Nat.lt_or_ge q k).elim (fun h3 => hn q h1 h3 h4) (fun h3 => by rw [show q = k by omega] at h4 ⊢; omega)) _ _ hH ls (lv_sub hl [1, 2, 0] rfl)
          · refine m_iconst 0 hx hb dX5_dividesAll_26 rfl ?_
            exact m_iret hx hb hlk hrt hH m_z0 dX5_dividesAll_27 ⟨Or.inr ⟨rfl, fun q => hm4 (by have := q k hk.1 (by omega) hz.2.2; omega)⟩, rfl⟩
        · refine m_if_eq 28 hx hb dX5_dividesAll_13 (by decide) (by omega) (fun h_5 => ?_) (fun h_5 => absurd h_5 (by omega))
          refine m_iinc (((k : Nat) : Int) + 1) [(3, .int (oI (((k : Nat) : Int) + 1))), (0, .int (oI (((d : Nat) : Int)))), (1, .long (lN (w)))] hx hb dX5_dividesAll_28 hl (j := 2) rfl (by omega) (by decide) rfl (fun ls hl => ?_)
          refine lv_goto (tgt := 2) hx hb dX5_dividesAll_31 (by decide) ?_
          exact ih2 (k + 1) (by omega) (by first | assumption | omega) (fun q h1 h2 h4 => (Nat.lt_or_ge q k).elim (fun h3 => hn q h1 h3 h4) (fun h3 => absurd (show w.testBit k = true by rw [← show q = k by omega]; exact h4) (fun z => hz ⟨by omega, by omega, z⟩))) _ _ hH ls (lv_sub hl [1, 2, 0] rfl)
  exact L2 _ 1 (Nat.lt_succ_self _) (by first | assumption | omega) (fun q h1 h2 => by omega) _ _ hH ls (lv_sub hl [1, 2, 0] rfl)
set_option maxHeartbeats 4000000 in
set_option maxRecDepth 100000 in
theorem c5_commonDivisor {l : Launch} {D : va_G} {cT : Nat → ClassId} {N b0 : Nat} {ad : Nat → Nat} (hA : oAd b0 N ad) {σ : Nat → va_E} (w : Nat) (hw : w < 2 ^ 64) (hbits : ∀ k : Nat, w.testBit k = true → 1 ≤ k ∧ k ≤ 40) :
    oCi l D cT N ad b0 yX5_commonDivisor cX5_commonDivisor 3 (some .int) 2 45 [.long (lN (w))] σ (fun rr uu => rr = oI (((oGc w 40 : Nat) : Int)) ∧ uu = σ) := by
  refine m_start (cc := cX5_commonDivisor) (by decide) (Nat.le_of_ble_eq_true rfl) rfl ?_
  intro Pp Ee Ss Mm Bb Me Cc Ar ls hx hb hml hown hlk hrt hts hK hH hl
  have hown : Ss.vm.findClass RX5 = some Mm.cls := hown
  have hl : lv_has ls 3 [(0, .long (lN (w)))] := hl
  refine lv_lload_n hx hb dX5_commonDivisor_0 rfl (lv_at hl 0 rfl) ?_
  refine m_lconstN 0 hx hb dX5_commonDivisor_1 rfl ?_
  refine m_lcmpN_ne 8 hx hb dX5_commonDivisor_2 dX5_commonDivisor_3 (by decide) (hw) (by decide) (fun hz0 => ?_) (fun hz0 => ?_)
  · refine m_bipush 40 hx hb dX5_commonDivisor_8 (by decide) ?_
    refine lv_istore_n (lv' := [(2, .int (oI (40))), (0, .long (lN (w)))]) hx hb dX5_commonDivisor_10 rfl hl (by decide) rfl (fun ls hl => ?_)
    have L11 : ∀ (fu : Nat) (d : Nat), (d < fu) → (1 ≤ d ∧ d ≤ 40) → (∀ q : Nat, d < q → q ≤ 40 → ¬ oDivAll q w) → (∃ k, 1 ≤ k ∧ k ≤ 40 ∧ w.testBit k = true) → ∀ (H : Heap) (locs : List Loc), oH b0 D N ad Ss.heap σ H locs → ∀ ls : Array Slot, lv_has ls 3 [(0, .long (lN (w))), (2, .int (oI (((d : Nat) : Int))))] → W Pp l Ee { frames := 2, cells := 0, slots := 0, locals := 45 } Ss Mm Ar Bb Me Cc H locs 0 0 (MQ Bb (va_Qi (fun rr uu => rr = oI (((oGc w 40 : Nat) : Int)) ∧ uu = σ) (oV D N ad) (fun q => b0 ≤ q)) Ar Ss 0 0 (fun q => b0 ≤ q)) (F0 Mm 11 ls []) := by
      intro fu11
      induction fu11 with
      | zero =>
        intro d hm11
        exact absurd hm11 (Nat.not_lt_zero _)
      | succ fu11 ih11 =>
        intro d hm11 hd hn hsome H locs hH ls hl
        refine lv_iload_n hx hb dX5_commonDivisor_11 rfl (lv_at hl 1 rfl) ?_
        refine m_iconst 1 hx hb dX5_commonDivisor_12 rfl ?_
        refine m_icmp_le 32 hx hb dX5_commonDivisor_13 (by decide) (by omega) (by omega) (fun h_1 => ?_) (fun h_1 => ?_)
        · refine m_iconst 1 hx hb dX5_commonDivisor_32 rfl ?_
          exact m_iret hx hb hlk hrt hH (m_ni _) dX5_commonDivisor_33 ⟨congrArg oI (by rw [oGc_eq (Nat.le_refl 1) (fun k _ _ _ => Nat.mod_one k) (by rw [show d = 1 by omega] at hn; exact hn) hsome]; rfl), rfl⟩
        · refine lv_iload_n hx hb dX5_commonDivisor_16 rfl (lv_at hl 1 rfl) ?_
          refine lv_lload_n hx hb dX5_commonDivisor_17 rfl (lv_at hl 0 rfl) ?_
          refine m_pSb hx hb hml hown hts hK hH hl (rest := []) cw_X5_353 rfl (c5_dividesAll hA d w (by first | assumption | omega) (by first | assumption | omega) ) ⟨Nat.le_of_ble_eq_true rfl, Nat.le_of_ble_eq_true rfl⟩ ⟨Nat.le_of_ble_eq_true rfl, Nat.le_of_ble_eq_true rfl⟩ rfl rfl (Nat.le_of_ble_eq_true rfl) dX5_commonDivisor_18 (fun hz H locs hH => ?_) (fun hz H locs hH => ?_)
          · refine m_if_eq 26 hx hb dX5_commonDivisor_21 (by decide) (by omega) (fun h_2 => absurd h_2 (by omega)) (fun h_2 => ?_)
            refine lv_iload_n hx hb dX5_commonDivisor_24 rfl (lv_at hl 1 rfl) ?_
            exact m_iret hx hb hlk hrt hH (m_ni _) dX5_commonDivisor_25 ⟨congrArg oI (by rw [oGc_eq hd.1 hz hn hsome]), rfl⟩
          · refine m_if_eq 26 hx hb dX5_commonDivisor_21 (by decide) (by omega) (fun h_3 => ?_) (fun h_3 => absurd h_3 (by omega))
            refine m_iinc (((d - 1 : Nat) : Int)) [(2, .int (oI (((d - 1 : Nat) : Int)))), (0, .long (lN (w)))] hx hb dX5_commonDivisor_26 hl (j := 1) rfl (by omega) (by decide) rfl (fun ls hl => ?_)
            refine lv_goto (tgt := 11) hx hb dX5_commonDivisor_29 (by decide) ?_
            exact ih11 (d - 1) (by omega) (by first | assumption | omega) (fun q h1 h2 => (Nat.lt_or_ge d q).elim (fun h3 => hn q h3 h2) (fun h3 => by rw [show q = d by omega]; exact hz)) (by first | assumption | omega) _ _ hH ls (lv_sub hl [1, 0] rfl)
    exact L11 _ 40 (Nat.lt_succ_self _) (by first | assumption | omega) (fun q h1 h2 => by omega) (oBit_some hz0 hbits) _ _ hH ls (lv_sub hl [1, 0] rfl)
  · refine m_iconst 0 hx hb dX5_commonDivisor_6 rfl ?_
    exact m_iret hx hb hlk hrt hH (m_ni _) dX5_commonDivisor_7 ⟨congrArg oI (by rw [hz0, oGc_0]; rfl), rfl⟩
set_option maxHeartbeats 4000000 in
set_option maxRecDepth 100000 in
theorem c4_marksOf {l : Launch} {D : va_G} {cT : Nat → ClassId} {N b0 : Nat} {ad : Nat → Nat} (hA : oAd b0 N ad) {σ : Nat → va_E} (j n a g : Nat) (sz w : Nat → Nat) (r : Int) (hj : j + 2 < N) (hwf : oWf n sz w) (hr : -2147483648 ≤ r ∧ r < 2147483648) (e0 : σ (j) = .inr (4, [.ref (ad (j + 1)), .ref (ad (j + 2)), .int (oI (((n : Nat) : Int))), .int (oI (((a : Nat) : Int))), .int (oI (((g : Nat) : Int)))])) (e1 : σ (j + 1) = oAN cT 4 sz) (e2 : σ (j + 2) = oAJ cT 4 w) :
    oCi l D cT N ad b0 yX4_marksOf cX4_marksOf 2 (some .int) 1 21 [.ref (ad (j)), .int (oI (r))] σ (fun rr uu => rr = oI (((pcnt (oRow n w r) : Nat) : Int)) ∧ uu = σ) := by
  refine m_start (cc := cX4_marksOf) (by decide) (Nat.le_of_ble_eq_true rfl) rfl ?_
  intro Pp Ee Ss Mm Bb Me Cc Ar ls hx hb hml hown hlk hrt hts hK hH hl
  have hown : Ss.vm.findClass RX4 = some Mm.cls := hown
  have hn := hwf.1
  have hsz := oSize_le hwf
  have hw64 := oRow_64 hwf
  have hw41 := oRow_lt hwf
  have hl : lv_has ls 2 [(0, .ref (ad (j))), (1, .int (oI (r)))] := hl
  refine lv_aload_n hx hb dX4_marksOf_0 rfl (lv_at hl 0 rfl) ?_
  refine lv_iload_n hx hb dX4_marksOf_1 rfl (lv_at hl 1 rfl) ?_
  refine m_pVn hx hb hml hown hts hK hH hl (rest := []) cw_X4_36 (c4_row hA j n a g sz w r (by first | assumption | omega) (by first | assumption | omega) (by first | assumption | omega) e0 e1 e2) ⟨Nat.le_of_ble_eq_true rfl, Nat.le_of_ble_eq_true rfl⟩ ⟨Nat.le_of_ble_eq_true rfl, Nat.le_of_ble_eq_true rfl⟩ rfl (k := j) (by omega) e0 rfl rfl (Nat.le_of_ble_eq_true rfl) dX4_marksOf_2 (fun H locs hH => ?_)
  refine m_pFi hx hb hml hown hts hK hH hl (rest := []) cw_X4_52 (cJ_bitCount hA (oRow n w r) (hw64 _) ) ⟨Nat.le_of_ble_eq_true rfl, Nat.le_of_ble_eq_true rfl⟩ ⟨Nat.le_of_ble_eq_true rfl, Nat.le_of_ble_eq_true rfl⟩ rfl rfl (Nat.le_of_ble_eq_true rfl) dX4_marksOf_5 (fun H locs hH => ?_)
  exact m_iret hx hb hlk hrt hH (m_ni _) dX4_marksOf_8 ⟨rfl, rfl⟩
set_option maxHeartbeats 4000000 in
set_option maxRecDepth 100000 in
theorem c4_innerMarks {l : Launch} {D : va_G} {cT : Nat → ClassId} {N b0 : Nat} {ad : Nat → Nat} (hA : oAd b0 N ad) {σ : Nat → va_E} (j n a g : Nat) (sz w : Nat → Nat) (r : Int) (hj : j + 2 < N) (hwf : oWf n sz w) (hr : -2147483648 ≤ r ∧ r < 2147483648) (e0 : σ (j) = .inr (4, [.ref (ad (j + 1)), .ref (ad (j + 2)), .int (oI (((n : Nat) : Int))), .int (oI (((a : Nat) : Int))), .int (oI (((g : Nat) : Int)))])) (e1 : σ (j + 1) = oAN cT 4 sz) (e2 : σ (j + 2) = oAJ cT 4 w) :
    oCl l D cT N ad b0 yX4_innerMarks cX4_innerMarks 2 (some .long) 1 21 [.ref (ad (j)), .int (oI (r))] σ (fun rr uu => rr = lN (oInner (oRow n w r) (oSize n sz r)) ∧ uu = σ) := by
  refine m_start (cc := cX4_innerMarks) (by decide) (Nat.le_of_ble_eq_true rfl) rfl ?_
  intro Pp Ee Ss Mm Bb Me Cc Ar ls hx hb hml hown hlk hrt hts hK hH hl
  have hown : Ss.vm.findClass RX4 = some Mm.cls := hown
  have hn := hwf.1
  have hsz := oSize_le hwf
  have hw64 := oRow_64 hwf
  have hw41 := oRow_lt hwf
  have hsr := hsz r
  have hl : lv_has ls 2 [(0, .ref (ad (j))), (1, .int (oI (r)))] := hl
  refine lv_aload_n hx hb dX4_innerMarks_0 rfl (lv_at hl 0 rfl) ?_
  refine lv_iload_n hx hb dX4_innerMarks_1 rfl (lv_at hl 1 rfl) ?_
  refine m_pVn hx hb hml hown hts hK hH hl (rest := []) cw_X4_36 (c4_row hA j n a g sz w r (by first | assumption | omega) (by first | assumption | omega) (by first | assumption | omega) e0 e1 e2) ⟨Nat.le_of_ble_eq_true rfl, Nat.le_of_ble_eq_true rfl⟩ ⟨Nat.le_of_ble_eq_true rfl, Nat.le_of_ble_eq_true rfl⟩ rfl (k := j) (by omega) e0 rfl rfl (Nat.le_of_ble_eq_true rfl) dX4_innerMarks_2 (fun H locs hH => ?_)
  refine lv_ldc2 (v := (-2)) hx hb hown (hts _ kl_X4_58) dX4_innerMarks_5 ?_
  refine m_J2N 18446744073709551614 (by decide +kernel) ?_
  refine m_land ((oRow n w r) &&& 18446744073709551614) hx hb dX4_innerMarks_8 (rfl) ?_
  refine m_lconstN 1 hx hb dX4_innerMarks_9 rfl ?_
  refine lv_aload_n hx hb dX4_innerMarks_10 rfl (lv_at hl 0 rfl) ?_
  refine lv_iload_n hx hb dX4_innerMarks_11 rfl (lv_at hl 1 rfl) ?_
  refine m_pVi hx hb hml hown hts hK hH hl (rest := [.long (lN (1)), .long (lN ((oRow n w r) &&& 18446744073709551614))]) cw_X4_32 (c4_size hA j n a g sz w r (by first | assumption | omega) (by first | assumption | omega) (by first | assumption | omega) e0 e1 e2) ⟨Nat.le_of_ble_eq_true rfl, Nat.le_of_ble_eq_true rfl⟩ ⟨Nat.le_of_ble_eq_true rfl, Nat.le_of_ble_eq_true rfl⟩ rfl (k := j) (by omega) e0 rfl rfl (Nat.le_of_ble_eq_true rfl) dX4_innerMarks_12 (fun H locs hH => ?_)
  refine m_lshl (1 * 2 ^ (oSize n sz r)) hx hb dX4_innerMarks_15 (by omega) (by rw [show (((oSize n sz r : Nat) : Int) : Int).toNat = (oSize n sz r) by omega]) ?_
  refine lv_ldc2 (v := (-1)) hx hb hown (hts _ kl_X4_60) dX4_innerMarks_16 ?_
  refine m_J2N 18446744073709551615 (by decide +kernel) ?_
  refine m_lxor ((1 * 2 ^ (oSize n sz r)) ^^^ 18446744073709551615) hx hb dX4_innerMarks_19 (rfl) ?_
  refine m_land (((oRow n w r) &&& 18446744073709551614) &&& ((1 * 2 ^ (oSize n sz r)) ^^^ 18446744073709551615)) hx hb dX4_innerMarks_20 (rfl) ?_
  exact m_lret hx hb hlk hrt hH dX4_innerMarks_21 ⟨congrArg lN (rfl), rfl⟩
set_option maxHeartbeats 4000000 in
set_option maxRecDepth 100000 in
theorem c4_spansOf {l : Launch} {D : va_G} {cT : Nat → ClassId} {N b0 : Nat} {ad : Nat → Nat} (hA : oAd b0 N ad) {σ : Nat → va_E} (j n a g : Nat) (sz w : Nat → Nat) (r : Int) (hj : j + 2 < N) (hwf : oWf n sz w) (hr : -2147483648 ≤ r ∧ r < 2147483648) (e0 : σ (j) = .inr (4, [.ref (ad (j + 1)), .ref (ad (j + 2)), .int (oI (((n : Nat) : Int))), .int (oI (((a : Nat) : Int))), .int (oI (((g : Nat) : Int)))])) (e1 : σ (j + 1) = oAN cT 4 sz) (e2 : σ (j + 2) = oAJ cT 4 w) :
    oCi l D cT N ad b0 yX4_spansOf cX4_spansOf 2 (some .int) 2 42 [.ref (ad (j)), .int (oI (r))] σ (fun rr uu => rr = oI (((oSp (pcnt (oRow n w r)) : Nat) : Int)) ∧ uu = σ) := by
  refine m_start (cc := cX4_spansOf) (by decide) (Nat.le_of_ble_eq_true rfl) rfl ?_
  intro Pp Ee Ss Mm Bb Me Cc Ar ls hx hb hml hown hlk hrt hts hK hH hl
  have hown : Ss.vm.findClass RX4 = some Mm.cls := hown
  have hn := hwf.1
  have hsz := oSize_le hwf
  have hw64 := oRow_64 hwf
  have hw41 := oRow_lt hwf
  have hm1 := pcnt_le (oRow n w r)
  have hl : lv_has ls 2 [(0, .ref (ad (j))), (1, .int (oI (r)))] := hl
  refine lv_aload_n hx hb dX4_spansOf_0 rfl (lv_at hl 0 rfl) ?_
  refine lv_iload_n hx hb dX4_spansOf_1 rfl (lv_at hl 1 rfl) ?_
  refine m_pVi hx hb hml hown hts hK hH hl (rest := []) cw_X4_62 (c4_marksOf hA j n a g sz w r (by first | assumption | omega) (by first | assumption | omega) (by first | assumption | omega) e0 e1 e2) ⟨Nat.le_of_ble_eq_true rfl, Nat.le_of_ble_eq_true rfl⟩ ⟨Nat.le_of_ble_eq_true rfl, Nat.le_of_ble_eq_true rfl⟩ rfl (k := j) (by omega) e0 rfl rfl (Nat.le_of_ble_eq_true rfl) dX4_spansOf_2 (fun H locs hH => ?_)
  refine lv_aload_n hx hb dX4_spansOf_5 rfl (lv_at hl 0 rfl) ?_
  refine lv_iload_n hx hb dX4_spansOf_6 rfl (lv_at hl 1 rfl) ?_
  refine m_pVi hx hb hml hown hts hK hH hl (rest := [.int (oI (((pcnt (oRow n w r) : Nat) : Int)))]) cw_X4_62 (c4_marksOf hA j n a g sz w r (by first | assumption | omega) (by first | assumption | omega) (by first | assumption | omega) e0 e1 e2) ⟨Nat.le_of_ble_eq_true rfl, Nat.le_of_ble_eq_true rfl⟩ ⟨Nat.le_of_ble_eq_true rfl, Nat.le_of_ble_eq_true rfl⟩ rfl (k := j) (by omega) e0 rfl rfl (Nat.le_of_ble_eq_true rfl) dX4_spansOf_7 (fun H locs hH => ?_)
  refine m_iconst 1 hx hb dX4_spansOf_10 rfl ?_
  refine m_isub (((pcnt (oRow n w r) : Nat) : Int) - 1) hx hb dX4_spansOf_11 (by omega) ?_
  refine m_imul ((((pcnt (oRow n w r)) * (pcnt (oRow n w r) - 1) : Nat) : Int)) hx hb dX4_spansOf_12 (o_mm1 _) ?_
  refine m_iconst 2 hx hb dX4_spansOf_13 rfl ?_
  refine m_idiv (((((pcnt (oRow n w r)) * (pcnt (oRow n w r) - 1)) / 2 : Nat) : Int)) hx hb dX4_spansOf_14 (o_mmb hm1) (by omega) (rfl) ?_
  exact m_iret hx hb hlk hrt hH (m_ni _) dX4_spansOf_15 ⟨congrArg oI (rfl), rfl⟩
set_option maxHeartbeats 4000000 in
set_option maxRecDepth 100000 in
theorem c4_allMarks {l : Launch} {D : va_G} {cT : Nat → ClassId} {N b0 : Nat} {ad : Nat → Nat} (hA : oAd b0 N ad) {σ : Nat → va_E} (j n a g : Nat) (sz w : Nat → Nat)  (hj : j + 2 < N) (hwf : oWf n sz w) (e0 : σ (j) = .inr (4, [.ref (ad (j + 1)), .ref (ad (j + 2)), .int (oI (((n : Nat) : Int))), .int (oI (((a : Nat) : Int))), .int (oI (((g : Nat) : Int)))])) (e1 : σ (j + 1) = oAN cT 4 sz) (e2 : σ (j + 2) = oAJ cT 4 w) :
    oCi l D cT N ad b0 yX4_allMarks cX4_allMarks 3 (some .int) 2 42 [.ref (ad (j))] σ (fun rr uu => rr = oI (((oAllM n w 4 : Nat) : Int)) ∧ uu = σ) := by
  refine m_start (cc := cX4_allMarks) (by decide) (Nat.le_of_ble_eq_true rfl) rfl ?_
  intro Pp Ee Ss Mm Bb Me Cc Ar ls hx hb hml hown hlk hrt hts hK hH hl
  have hown : Ss.vm.findClass RX4 = some Mm.cls := hown
  have hn := hwf.1
  have hsz := oSize_le hwf
  have hw64 := oRow_64 hwf
  have hw41 := oRow_lt hwf
  have hl : lv_has ls 3 [(0, .ref (ad (j)))] := hl
  refine m_iconst 0 hx hb dX4_allMarks_0 rfl ?_
  refine lv_istore_n (lv' := [(1, .int (oI (0))), (0, .ref (ad (j)))]) hx hb dX4_allMarks_1 rfl hl (by decide) rfl (fun ls hl => ?_)
  refine m_iconst 0 hx hb dX4_allMarks_2 rfl ?_
  refine lv_istore_n (lv' := [(2, .int (oI (0))), (1, .int (oI (0))), (0, .ref (ad (j)))]) hx hb dX4_allMarks_3 rfl hl (by decide) rfl (fun ls hl => ?_)
  have L4 : ∀ (fu : Nat) (i : Nat) (ac : Nat), (4 - i < fu) → (i ≤ 4) → (ac = oAllM n w i) → ∀ (H : Heap) (locs : List Loc), oH b0 D N ad Ss.heap σ H locs → ∀ ls : Array Slot, lv_has ls 3 [(0, .ref (ad (j))), (1, .int (oI (((ac : Nat) : Int)))), (2, .int (oI (((i : Nat) : Int))))] → W Pp l Ee { frames := 2, cells := 0, slots := 0, locals := 42 } Ss Mm Ar Bb Me Cc H locs 0 0 (MQ Bb (va_Qi (fun rr uu => rr = oI (((oAllM n w 4 : Nat) : Int)) ∧ uu = σ) (oV D N ad) (fun q => b0 ≤ q)) Ar Ss 0 0 (fun q => b0 ≤ q)) (F0 Mm 4 ls []) := by
    intro fu4
    induction fu4 with
    | zero =>
      intro i ac hm4
      exact absurd hm4 (Nat.not_lt_zero _)
    | succ fu4 ih4 =>
      intro i ac hm4 hi hc H locs hH ls hl
      have hcl := oAllM_le n w i
      refine lv_iload_n hx hb dX4_allMarks_4 rfl (lv_at hl 2 rfl) ?_
      refine m_iconst 4 hx hb dX4_allMarks_5 rfl ?_
      refine m_icmp_ge 23 hx hb dX4_allMarks_6 (by decide) (by omega) (by omega) (fun h_1 => ?_) (fun h_1 => ?_)
      · refine lv_iload_n hx hb dX4_allMarks_23 rfl (lv_at hl 1 rfl) ?_
        exact m_iret hx hb hlk hrt hH (m_ni _) dX4_allMarks_24 ⟨congrArg oI (by rw [hc, show i = 4 by omega]), rfl⟩
      · refine lv_iload_n hx hb dX4_allMarks_9 rfl (lv_at hl 1 rfl) ?_
        refine lv_aload_n hx hb dX4_allMarks_10 rfl (lv_at hl 0 rfl) ?_
        refine lv_iload_n hx hb dX4_allMarks_11 rfl (lv_at hl 2 rfl) ?_
        refine m_pVi hx hb hml hown hts hK hH hl (rest := [.int (oI (((ac : Nat) : Int)))]) cw_X4_62 (c4_marksOf hA j n a g sz w ((i : Nat) : Int) (by first | assumption | omega) (by first | assumption | omega) (by first | assumption | omega) e0 e1 e2) ⟨Nat.le_of_ble_eq_true rfl, Nat.le_of_ble_eq_true rfl⟩ ⟨Nat.le_of_ble_eq_true rfl, Nat.le_of_ble_eq_true rfl⟩ rfl (k := j) (by omega) e0 rfl rfl (Nat.le_of_ble_eq_true rfl) dX4_allMarks_12 (fun H locs hH => ?_)
        refine m_iadd (((ac : Nat) : Int) + ((pcnt (oRow n w ((i : Nat) : Int)) : Nat) : Int)) hx hb dX4_allMarks_15 (by omega) ?_
        refine lv_istore_n (lv' := [(1, .int (oI (((ac : Nat) : Int) + ((pcnt (oRow n w ((i : Nat) : Int)) : Nat) : Int)))), (0, .ref (ad (j))), (2, .int (oI (((i : Nat) : Int))))]) hx hb dX4_allMarks_16 rfl hl (by decide) rfl (fun ls hl => ?_)
        refine m_iinc (((i : Nat) : Int) + 1) [(2, .int (oI (((i : Nat) : Int) + 1))), (1, .int (oI (((ac : Nat) : Int) + ((pcnt (oRow n w ((i : Nat) : Int)) : Nat) : Int)))), (0, .ref (ad (j)))] hx hb dX4_allMarks_17 hl (j := 2) rfl (by omega) (by decide) rfl (fun ls hl => ?_)
        refine lv_goto (tgt := 4) hx hb dX4_allMarks_20 (by decide) ?_
        exact ih4 (i + 1) (ac + (pcnt (oRow n w ((i : Nat) : Int)))) (by omega) (by first | assumption | omega) (by rw [hc]; rfl) _ _ hH ls (lv_sub hl [2, 1, 0] rfl)
  exact L4 _ 0 0 (Nat.lt_succ_self _) (by first | assumption | omega) (rfl) _ _ hH ls (lv_sub hl [2, 1, 0] rfl)
set_option maxHeartbeats 4000000 in
set_option maxRecDepth 100000 in
theorem c4_allSpans {l : Launch} {D : va_G} {cT : Nat → ClassId} {N b0 : Nat} {ad : Nat → Nat} (hA : oAd b0 N ad) {σ : Nat → va_E} (j n a g : Nat) (sz w : Nat → Nat)  (hj : j + 2 < N) (hwf : oWf n sz w) (e0 : σ (j) = .inr (4, [.ref (ad (j + 1)), .ref (ad (j + 2)), .int (oI (((n : Nat) : Int))), .int (oI (((a : Nat) : Int))), .int (oI (((g : Nat) : Int)))])) (e1 : σ (j + 1) = oAN cT 4 sz) (e2 : σ (j + 2) = oAJ cT 4 w) :
    oCi l D cT N ad b0 yX4_allSpans cX4_allSpans 3 (some .int) 3 63 [.ref (ad (j))] σ (fun rr uu => rr = oI (((oAllS n w 4 : Nat) : Int)) ∧ uu = σ) := by
  refine m_start (cc := cX4_allSpans) (by decide) (Nat.le_of_ble_eq_true rfl) rfl ?_
  intro Pp Ee Ss Mm Bb Me Cc Ar ls hx hb hml hown hlk hrt hts hK hH hl
  have hown : Ss.vm.findClass RX4 = some Mm.cls := hown
  have hn := hwf.1
  have hsz := oSize_le hwf
  have hw64 := oRow_64 hwf
  have hw41 := oRow_lt hwf
  have hl : lv_has ls 3 [(0, .ref (ad (j)))] := hl
  refine m_iconst 0 hx hb dX4_allSpans_0 rfl ?_
  refine lv_istore_n (lv' := [(1, .int (oI (0))), (0, .ref (ad (j)))]) hx hb dX4_allSpans_1 rfl hl (by decide) rfl (fun ls hl => ?_)
  refine m_iconst 0 hx hb dX4_allSpans_2 rfl ?_
  refine lv_istore_n (lv' := [(2, .int (oI (0))), (1, .int (oI (0))), (0, .ref (ad (j)))]) hx hb dX4_allSpans_3 rfl hl (by decide) rfl (fun ls hl => ?_)
  have L4 : ∀ (fu : Nat) (i : Nat) (ac : Nat), (4 - i < fu) → (i ≤ 4) → (ac = oAllS n w i) → ∀ (H : Heap) (locs : List Loc), oH b0 D N ad Ss.heap σ H locs → ∀ ls : Array Slot, lv_has ls 3 [(0, .ref (ad (j))), (1, .int (oI (((ac : Nat) : Int)))), (2, .int (oI (((i : Nat) : Int))))] → W Pp l Ee { frames := 3, cells := 0, slots := 0, locals := 63 } Ss Mm Ar Bb Me Cc H locs 0 0 (MQ Bb (va_Qi (fun rr uu => rr = oI (((oAllS n w 4 : Nat) : Int)) ∧ uu = σ) (oV D N ad) (fun q => b0 ≤ q)) Ar Ss 0 0 (fun q => b0 ≤ q)) (F0 Mm 4 ls []) := by
    intro fu4
    induction fu4 with
    | zero =>
      intro i ac hm4
      exact absurd hm4 (Nat.not_lt_zero _)
    | succ fu4 ih4 =>
      intro i ac hm4 hi hc H locs hH ls hl
      have hcl := oAllS_le n w i
      refine lv_iload_n hx hb dX4_allSpans_4 rfl (lv_at hl 2 rfl) ?_
      refine m_iconst 4 hx hb dX4_allSpans_5 rfl ?_
      refine m_icmp_ge 23 hx hb dX4_allSpans_6 (by decide) (by omega) (by omega) (fun h_1 => ?_) (fun h_1 => ?_)
      · refine lv_iload_n hx hb dX4_allSpans_23 rfl (lv_at hl 1 rfl) ?_
        exact m_iret hx hb hlk hrt hH (m_ni _) dX4_allSpans_24 ⟨congrArg oI (by rw [hc, show i = 4 by omega]), rfl⟩
      · refine lv_iload_n hx hb dX4_allSpans_9 rfl (lv_at hl 1 rfl) ?_
        refine lv_aload_n hx hb dX4_allSpans_10 rfl (lv_at hl 0 rfl) ?_
        refine lv_iload_n hx hb dX4_allSpans_11 rfl (lv_at hl 2 rfl) ?_
        refine m_pVi hx hb hml hown hts hK hH hl (rest := [.int (oI (((ac : Nat) : Int)))]) cw_X4_65 (c4_spansOf hA j n a g sz w ((i : Nat) : Int) (by first | assumption | omega) (by first | assumption | omega) (by first | assumption | omega) e0 e1 e2) ⟨Nat.le_of_ble_eq_true rfl, Nat.le_of_ble_eq_true rfl⟩ ⟨Nat.le_of_ble_eq_true rfl, Nat.le_of_ble_eq_true rfl⟩ rfl (k := j) (by omega) e0 rfl rfl (Nat.le_of_ble_eq_true rfl) dX4_allSpans_12 (fun H locs hH => ?_)
        refine m_iadd (((ac : Nat) : Int) + ((oSp (pcnt (oRow n w ((i : Nat) : Int))) : Nat) : Int)) hx hb dX4_allSpans_15 (by omega) ?_
        refine lv_istore_n (lv' := [(1, .int (oI (((ac : Nat) : Int) + ((oSp (pcnt (oRow n w ((i : Nat) : Int))) : Nat) : Int)))), (0, .ref (ad (j))), (2, .int (oI (((i : Nat) : Int))))]) hx hb dX4_allSpans_16 rfl hl (by decide) rfl (fun ls hl => ?_)
        refine m_iinc (((i : Nat) : Int) + 1) [(2, .int (oI (((i : Nat) : Int) + 1))), (1, .int (oI (((ac : Nat) : Int) + ((oSp (pcnt (oRow n w ((i : Nat) : Int))) : Nat) : Int)))), (0, .ref (ad (j)))] hx hb dX4_allSpans_17 hl (j := 2) rfl (by omega) (by decide) rfl (fun ls hl => ?_)
        refine lv_goto (tgt := 4) hx hb dX4_allSpans_20 (by decide) ?_
        exact ih4 (i + 1) (ac + (oSp (pcnt (oRow n w ((i : Nat) : Int))))) (by omega) (by first | assumption | omega) (by rw [hc]; rfl) _ _ hH ls (lv_sub hl [2, 1, 0] rfl)
  exact L4 _ 0 0 (Nat.lt_succ_self _) (by first | assumption | omega) (rfl) _ _ hH ls (lv_sub hl [2, 1, 0] rfl)
set_option maxHeartbeats 4000000 in
set_option maxRecDepth 100000 in
theorem c4_spansOfLength {l : Launch} {D : va_G} {cT : Nat → ClassId} {N b0 : Nat} {ad : Nat → Nat} (hA : oAd b0 N ad) {σ : Nat → va_E} (j n a g : Nat) (sz w : Nat → Nat) (d : Nat) (hj : j + 2 < N) (hwf : oWf n sz w) (hd : d < 64) (e0 : σ (j) = .inr (4, [.ref (ad (j + 1)), .ref (ad (j + 2)), .int (oI (((n : Nat) : Int))), .int (oI (((a : Nat) : Int))), .int (oI (((g : Nat) : Int)))])) (e1 : σ (j + 1) = oAN cT 4 sz) (e2 : σ (j + 2) = oAJ cT 4 w) :
    oCi l D cT N ad b0 yX4_spansOfLength cX4_spansOfLength 4 (some .int) 2 43 [.ref (ad (j)), .int (oI (((d : Nat) : Int)))] σ (fun rr uu => rr = oI (((oAllP n w d 4 : Nat) : Int)) ∧ uu = σ) := by
  refine m_start (cc := cX4_spansOfLength) (by decide) (Nat.le_of_ble_eq_true rfl) rfl ?_
  intro Pp Ee Ss Mm Bb Me Cc Ar ls hx hb hml hown hlk hrt hts hK hH hl
  have hown : Ss.vm.findClass RX4 = some Mm.cls := hown
  have hn := hwf.1
  have hsz := oSize_le hwf
  have hw64 := oRow_64 hwf
  have hw41 := oRow_lt hwf
  have hl : lv_has ls 4 [(0, .ref (ad (j))), (1, .int (oI (((d : Nat) : Int))))] := hl
  refine m_iconst 0 hx hb dX4_spansOfLength_0 rfl ?_
  refine lv_istore_n (lv' := [(2, .int (oI (0))), (0, .ref (ad (j))), (1, .int (oI (((d : Nat) : Int))))]) hx hb dX4_spansOfLength_1 rfl hl (by decide) rfl (fun ls hl => ?_)
  refine m_iconst 0 hx hb dX4_spansOfLength_2 rfl ?_
  refine lv_istore_n (lv' := [(3, .int (oI (0))), (2, .int (oI (0))), (0, .ref (ad (j))), (1, .int (oI (((d : Nat) : Int))))]) hx hb dX4_spansOfLength_3 rfl hl (by decide) rfl (fun ls hl => ?_)
  have L4 : ∀ (fu : Nat) (i : Nat) (ac : Nat), (4 - i < fu) → (i ≤ 4) → (ac = oAllP n w d i) → ∀ (H : Heap) (locs : List Loc), oH b0 D N ad Ss.heap σ H locs → ∀ ls : Array Slot, lv_has ls 4 [(0, .ref (ad (j))), (1, .int (oI (((d : Nat) : Int)))), (2, .int (oI (((ac : Nat) : Int)))), (3, .int (oI (((i : Nat) : Int))))] → W Pp l Ee { frames := 2, cells := 0, slots := 0, locals := 43 } Ss Mm Ar Bb Me Cc H locs 0 0 (MQ Bb (va_Qi (fun rr uu => rr = oI (((oAllP n w d 4 : Nat) : Int)) ∧ uu = σ) (oV D N ad) (fun q => b0 ≤ q)) Ar Ss 0 0 (fun q => b0 ≤ q)) (F0 Mm 4 ls []) := by
    intro fu4
    induction fu4 with
    | zero =>
      intro i ac hm4
      exact absurd hm4 (Nat.not_lt_zero _)
    | succ fu4 ih4 =>
      intro i ac hm4 hi hc H locs hH ls hl
      have hcl := oAllP_le n w d i
      refine lv_iload_n hx hb dX4_spansOfLength_4 rfl (lv_at hl 3 rfl) ?_
      refine m_iconst 4 hx hb dX4_spansOfLength_5 rfl ?_
      refine m_icmp_ge 27 hx hb dX4_spansOfLength_6 (by decide) (by omega) (by omega) (fun h_1 => ?_) (fun h_1 => ?_)
      · refine lv_iload_n hx hb dX4_spansOfLength_27 rfl (lv_at hl 2 rfl) ?_
        exact m_iret hx hb hlk hrt hH (m_ni _) dX4_spansOfLength_28 ⟨congrArg oI (by rw [hc, show i = 4 by omega]), rfl⟩
      · refine lv_iload_n hx hb dX4_spansOfLength_9 rfl (lv_at hl 2 rfl) ?_
        refine lv_aload_n hx hb dX4_spansOfLength_10 rfl (lv_at hl 0 rfl) ?_
        refine lv_iload_n hx hb dX4_spansOfLength_11 rfl (lv_at hl 3 rfl) ?_
        refine m_pVn hx hb hml hown hts hK hH hl (rest := [.int (oI (((ac : Nat) : Int)))]) cw_X4_36 (c4_row hA j n a g sz w ((i : Nat) : Int) (by first | assumption | omega) (by first | assumption | omega) (by first | assumption | omega) e0 e1 e2) ⟨Nat.le_of_ble_eq_true rfl, Nat.le_of_ble_eq_true rfl⟩ ⟨Nat.le_of_ble_eq_true rfl, Nat.le_of_ble_eq_true rfl⟩ rfl (k := j) (by omega) e0 rfl rfl (Nat.le_of_ble_eq_true rfl) dX4_spansOfLength_12 (fun H locs hH => ?_)
        refine lv_iload_n hx hb dX4_spansOfLength_15 rfl (lv_at hl 1 rfl) ?_
        refine m_pNi hx hb hml hown hts hK hH hl (rest := [.int (oI (((ac : Nat) : Int)))]) cn_X5_pairsApart hK.2.1.2.2.1 (c5_pairsApart hA (oRow n w ((i : Nat) : Int)) d (hw64 _) (by first | assumption | omega) ) ⟨Nat.le_of_ble_eq_true rfl, Nat.le_of_ble_eq_true rfl⟩ ⟨Nat.le_of_ble_eq_true rfl, Nat.le_of_ble_eq_true rfl⟩ rfl rfl (Nat.le_of_ble_eq_true rfl) dX4_spansOfLength_16 (fun H locs hH => ?_)
        refine m_iadd (((ac : Nat) : Int) + ((oPa (oRow n w ((i : Nat) : Int)) d : Nat) : Int)) hx hb dX4_spansOfLength_19 (by omega) ?_
        refine lv_istore_n (lv' := [(2, .int (oI (((ac : Nat) : Int) + ((oPa (oRow n w ((i : Nat) : Int)) d : Nat) : Int)))), (0, .ref (ad (j))), (1, .int (oI (((d : Nat) : Int)))), (3, .int (oI (((i : Nat) : Int))))]) hx hb dX4_spansOfLength_20 rfl hl (by decide) rfl (fun ls hl => ?_)
        refine m_iinc (((i : Nat) : Int) + 1) [(3, .int (oI (((i : Nat) : Int) + 1))), (2, .int (oI (((ac : Nat) : Int) + ((oPa (oRow n w ((i : Nat) : Int)) d : Nat) : Int)))), (0, .ref (ad (j))), (1, .int (oI (((d : Nat) : Int))))] hx hb dX4_spansOfLength_21 hl (j := 3) rfl (by omega) (by decide) rfl (fun ls hl => ?_)
        refine lv_goto (tgt := 4) hx hb dX4_spansOfLength_24 (by decide) ?_
        exact ih4 (i + 1) (ac + (oPa (oRow n w ((i : Nat) : Int)) d)) (by omega) (by first | assumption | omega) (by rw [hc]; rfl) _ _ hH ls (lv_sub hl [2, 3, 1, 0] rfl)
  exact L4 _ 0 0 (Nat.lt_succ_self _) (by first | assumption | omega) (rfl) _ _ hH ls (lv_sub hl [2, 3, 1, 0] rfl)
set_option maxHeartbeats 4000000 in
set_option maxRecDepth 100000 in
theorem c4_spreadWithout {l : Launch} {D : va_G} {cT : Nat → ClassId} {N b0 : Nat} {ad : Nat → Nat} (hA : oAd b0 N ad) {σ : Nat → va_E} (j n a g : Nat) (sz w : Nat → Nat) (r : Int) (hj : j + 2 < N) (hwf : oWf n sz w) (hr : -2147483648 ≤ r ∧ r < 2147483648) (e0 : σ (j) = .inr (4, [.ref (ad (j + 1)), .ref (ad (j + 2)), .int (oI (((n : Nat) : Int))), .int (oI (((a : Nat) : Int))), .int (oI (((g : Nat) : Int)))])) (e1 : σ (j + 1) = oAN cT 4 sz) (e2 : σ (j + 2) = oAJ cT 4 w) :
    oCl l D cT N ad b0 yX4_spreadWithout cX4_spreadWithout 5 (some .long) 1 24 [.ref (ad (j)), .int (oI (r))] σ (fun rr uu => rr = lN (oOrW n w r 4) ∧ uu = σ) := by
  refine m_start (cc := cX4_spreadWithout) (by decide) (Nat.le_of_ble_eq_true rfl) rfl ?_
  intro Pp Ee Ss Mm Bb Me Cc Ar ls hx hb hml hown hlk hrt hts hK hH hl
  have hown : Ss.vm.findClass RX4 = some Mm.cls := hown
  have hn := hwf.1
  have hsz := oSize_le hwf
  have hw64 := oRow_64 hwf
  have hw41 := oRow_lt hwf
  have hl : lv_has ls 5 [(0, .ref (ad (j))), (1, .int (oI (r)))] := hl
  refine m_lconstN 0 hx hb dX4_spreadWithout_0 rfl ?_
  refine lv_lstore_n (lv' := [(2, .long (lN (0))), (0, .ref (ad (j))), (1, .int (oI (r)))]) hx hb dX4_spreadWithout_1 rfl hl (by decide) rfl (fun ls hl => ?_)
  refine m_iconst 0 hx hb dX4_spreadWithout_2 rfl ?_
  refine lv_istore (lv' := [(4, .int (oI (0))), (2, .long (lN (0))), (0, .ref (ad (j))), (1, .int (oI (r)))]) hx hb dX4_spreadWithout_3 hl (by decide) rfl (fun ls hl => ?_)
  have L5 : ∀ (fu : Nat) (i : Nat) (ac : Nat), (4 - i < fu) → (i ≤ 4) → (ac = oOrW n w r i) → ∀ (H : Heap) (locs : List Loc), oH b0 D N ad Ss.heap σ H locs → ∀ ls : Array Slot, lv_has ls 5 [(0, .ref (ad (j))), (1, .int (oI (r))), (2, .long (lN (ac))), (4, .int (oI (((i : Nat) : Int))))] → W Pp l Ee { frames := 1, cells := 0, slots := 0, locals := 24 } Ss Mm Ar Bb Me Cc H locs 0 0 (MQ Bb (va_Ql (fun rr uu => rr = lN (oOrW n w r 4) ∧ uu = σ) (oV D N ad) (fun q => b0 ≤ q)) Ar Ss 0 0 (fun q => b0 ≤ q)) (F0 Mm 5 ls []) := by
    intro fu5
    induction fu5 with
    | zero =>
      intro i ac hm5
      exact absurd hm5 (Nat.not_lt_zero _)
    | succ fu5 ih5 =>
      intro i ac hm5 hi hc H locs hH ls hl
      refine lv_iload hx hb dX4_spreadWithout_5 (lv_at hl 3 rfl) ?_
      refine m_iconst 4 hx hb dX4_spreadWithout_7 rfl ?_
      refine m_icmp_ge 35 hx hb dX4_spreadWithout_8 (by decide) (by omega) (by omega) (fun h_1 => ?_) (fun h_1 => ?_)
      · refine lv_lload_n hx hb dX4_spreadWithout_35 rfl (lv_at hl 2 rfl) ?_
        exact m_lret hx hb hlk hrt hH dX4_spreadWithout_36 ⟨congrArg lN (by rw [hc, show i = 4 by omega]), rfl⟩
      · refine lv_iload hx hb dX4_spreadWithout_11 (lv_at hl 3 rfl) ?_
        refine lv_iload_n hx hb dX4_spreadWithout_13 rfl (lv_at hl 1 rfl) ?_
        refine m_icmp_eq 29 hx hb dX4_spreadWithout_14 (by decide) (by omega) (by omega) (fun hz => ?_) (fun hz => ?_)
        · refine m_iinc (((i : Nat) : Int) + 1) [(4, .int (oI (((i : Nat) : Int) + 1))), (0, .ref (ad (j))), (1, .int (oI (r))), (2, .long (lN (ac)))] hx hb dX4_spreadWithout_29 hl (j := 3) rfl (by omega) (by decide) rfl (fun ls hl => ?_)
          refine lv_goto (tgt := 5) hx hb dX4_spreadWithout_32 (by decide) ?_
          exact ih5 (i + 1) ac (by omega) (by first | assumption | omega) (hc.trans (oOrW_n hz).symm) _ _ hH ls (lv_sub hl [1, 2, 3, 0] rfl)
        · refine lv_lload_n hx hb dX4_spreadWithout_17 rfl (lv_at hl 2 rfl) ?_
          refine lv_aload_n hx hb dX4_spreadWithout_18 rfl (lv_at hl 0 rfl) ?_
          refine lv_iload hx hb dX4_spreadWithout_19 (lv_at hl 3 rfl) ?_
          refine m_pVn hx hb hml hown hts hK hH hl (rest := [.long (lN (ac))]) cw_X4_36 (c4_row hA j n a g sz w ((i : Nat) : Int) (by first | assumption | omega) (by first | assumption | omega) (by first | assumption | omega) e0 e1 e2) ⟨Nat.le_of_ble_eq_true rfl, Nat.le_of_ble_eq_true rfl⟩ ⟨Nat.le_of_ble_eq_true rfl, Nat.le_of_ble_eq_true rfl⟩ rfl (k := j) (by omega) e0 rfl rfl (Nat.le_of_ble_eq_true rfl) dX4_spreadWithout_21 (fun H locs hH => ?_)
          refine m_pNn hx hb hml hown hts hK hH hl (rest := [.long (lN (ac))]) cn_X5_spreadOf hK.2.1.2.2.2.1 (c5_spreadOf hA (oRow n w ((i : Nat) : Int)) (hw64 _) ) ⟨Nat.le_of_ble_eq_true rfl, Nat.le_of_ble_eq_true rfl⟩ ⟨Nat.le_of_ble_eq_true rfl, Nat.le_of_ble_eq_true rfl⟩ rfl rfl (Nat.le_of_ble_eq_true rfl) dX4_spreadWithout_24 (fun H locs hH => ?_)
          refine m_lor (ac ||| (oSpr (oRow n w ((i : Nat) : Int)) 41)) hx hb dX4_spreadWithout_27 (rfl) ?_
          refine lv_lstore_n (lv' := [(2, .long (lN (ac ||| (oSpr (oRow n w ((i : Nat) : Int)) 41)))), (0, .ref (ad (j))), (1, .int (oI (r))), (4, .int (oI (((i : Nat) : Int))))]) hx hb dX4_spreadWithout_28 rfl hl (by decide) rfl (fun ls hl => ?_)
          refine m_iinc (((i : Nat) : Int) + 1) [(4, .int (oI (((i : Nat) : Int) + 1))), (2, .long (lN (ac ||| (oSpr (oRow n w ((i : Nat) : Int)) 41)))), (0, .ref (ad (j))), (1, .int (oI (r)))] hx hb dX4_spreadWithout_29 hl (j := 3) rfl (by omega) (by decide) rfl (fun ls hl => ?_)
          refine lv_goto (tgt := 5) hx hb dX4_spreadWithout_32 (by decide) ?_
          exact ih5 (i + 1) (ac ||| (oSpr (oRow n w ((i : Nat) : Int)) 41)) (by omega) (by first | assumption | omega) (by rw [hc]; exact (oOrW_y hz).symm) _ _ hH ls (lv_sub hl [2, 3, 1, 0] rfl)
  exact L5 _ 0 0 (Nat.lt_succ_self _) (by first | assumption | omega) (rfl) _ _ hH ls (lv_sub hl [2, 3, 1, 0] rfl)
set_option maxHeartbeats 4000000 in
set_option maxRecDepth 100000 in
theorem c4_spread {l : Launch} {D : va_G} {cT : Nat → ClassId} {N b0 : Nat} {ad : Nat → Nat} (hA : oAd b0 N ad) {σ : Nat → va_E} (j n a g : Nat) (sz w : Nat → Nat)  (hj : j + 2 < N) (hwf : oWf n sz w) (e0 : σ (j) = .inr (4, [.ref (ad (j + 1)), .ref (ad (j + 2)), .int (oI (((n : Nat) : Int))), .int (oI (((a : Nat) : Int))), .int (oI (((g : Nat) : Int)))])) (e1 : σ (j + 1) = oAN cT 4 sz) (e2 : σ (j + 2) = oAJ cT 4 w) :
    oCl l D cT N ad b0 yX4_spread cX4_spread 1 (some .long) 2 48 [.ref (ad (j))] σ (fun rr uu => rr = lN (oOrW n w (-1) 4) ∧ uu = σ) := by
  refine m_start (cc := cX4_spread) (by decide) (Nat.le_of_ble_eq_true rfl) rfl ?_
  intro Pp Ee Ss Mm Bb Me Cc Ar ls hx hb hml hown hlk hrt hts hK hH hl
  have hown : Ss.vm.findClass RX4 = some Mm.cls := hown
  have hn := hwf.1
  have hsz := oSize_le hwf
  have hw64 := oRow_64 hwf
  have hw41 := oRow_lt hwf
  have hl : lv_has ls 1 [(0, .ref (ad (j)))] := hl
  refine lv_aload_n hx hb dX4_spread_0 rfl (lv_at hl 0 rfl) ?_
  refine m_iconst (-1) hx hb dX4_spread_1 rfl ?_
  refine m_pVn hx hb hml hown hts hK hH hl (rest := []) cw_X4_72 (c4_spreadWithout hA j n a g sz w (-1) (by first | assumption | omega) (by first | assumption | omega) (by first | assumption | omega) e0 e1 e2) ⟨Nat.le_of_ble_eq_true rfl, Nat.le_of_ble_eq_true rfl⟩ ⟨Nat.le_of_ble_eq_true rfl, Nat.le_of_ble_eq_true rfl⟩ rfl (k := j) (by omega) e0 rfl rfl (Nat.le_of_ble_eq_true rfl) dX4_spread_2 (fun H locs hH => ?_)
  exact m_lret hx hb hlk hrt hH dX4_spread_5 ⟨rfl, rfl⟩
set_option maxHeartbeats 4000000 in
set_option maxRecDepth 100000 in
theorem c4_lowerMark {l : Launch} {D : va_G} {cT : Nat → ClassId} {N b0 : Nat} {ad : Nat → Nat} (hA : oAd b0 N ad) {σ : Nat → va_E} (j n a g : Nat) (sz w : Nat → Nat) (r : Int) (k : Nat) (hj : j + 2 < N) (hwf : oWf n sz w) (hr : -2147483648 ≤ r ∧ r < 2147483648) (hk : k < oRk (oRow n w r) 41) (e0 : σ (j) = .inr (4, [.ref (ad (j + 1)), .ref (ad (j + 2)), .int (oI (((n : Nat) : Int))), .int (oI (((a : Nat) : Int))), .int (oI (((g : Nat) : Int)))])) (e1 : σ (j + 1) = oAN cT 4 sz) (e2 : σ (j + 2) = oAJ cT 4 w) :
    oCi l D cT N ad b0 yX4_lowerMark cX4_lowerMark 6 (some .int) 2 44 [.ref (ad (j)), .int (oI (r)), .int (oI (((k : Nat) : Int)))] σ (fun rr uu => rr = oI (((oLow (oRow n w r) k : Nat) : Int)) ∧ uu = σ) := by
  refine m_start (cc := cX4_lowerMark) (by decide) (Nat.le_of_ble_eq_true rfl) rfl ?_
  intro Pp Ee Ss Mm Bb Me Cc Ar ls hx hb hml hown hlk hrt hts hK hH hl
  have hown : Ss.vm.findClass RX4 = some Mm.cls := hown
  have hn := hwf.1
  have hsz := oSize_le hwf
  have hw64 := oRow_64 hwf
  have hw41 := oRow_lt hwf
  have hkl := oRk_le (oRow n w r) 41
  have hl : lv_has ls 6 [(0, .ref (ad (j))), (1, .int (oI (r))), (2, .int (oI (((k : Nat) : Int))))] := hl
  refine m_iconst 0 hx hb dX4_lowerMark_0 rfl ?_
  refine lv_istore_n (lv' := [(3, .int (oI (0))), (0, .ref (ad (j))), (1, .int (oI (r))), (2, .int (oI (((k : Nat) : Int))))]) hx hb dX4_lowerMark_1 rfl hl (by decide) rfl (fun ls hl => ?_)
  refine lv_aload_n hx hb dX4_lowerMark_2 rfl (lv_at hl 1 rfl) ?_
  refine lv_iload_n hx hb dX4_lowerMark_3 rfl (lv_at hl 2 rfl) ?_
  refine m_pVi hx hb hml hown hts hK hH hl (rest := []) cw_X4_62 (c4_marksOf hA j n a g sz w r (by first | assumption | omega) (by first | assumption | omega) (by first | assumption | omega) e0 e1 e2) ⟨Nat.le_of_ble_eq_true rfl, Nat.le_of_ble_eq_true rfl⟩ ⟨Nat.le_of_ble_eq_true rfl, Nat.le_of_ble_eq_true rfl⟩ rfl (k := j) (by omega) e0 rfl rfl (Nat.le_of_ble_eq_true rfl) dX4_lowerMark_4 (fun H locs hH => ?_)
  refine lv_istore (lv' := [(4, .int (oI (((pcnt (oRow n w r) : Nat) : Int)))), (3, .int (oI (0))), (0, .ref (ad (j))), (1, .int (oI (r))), (2, .int (oI (((k : Nat) : Int))))]) hx hb dX4_lowerMark_7 hl (by decide) rfl (fun ls hl => ?_)
  refine m_iconst 0 hx hb dX4_lowerMark_9 rfl ?_
  refine lv_istore (lv' := [(5, .int (oI (0))), (4, .int (oI (((pcnt (oRow n w r) : Nat) : Int)))), (3, .int (oI (0))), (0, .ref (ad (j))), (1, .int (oI (r))), (2, .int (oI (((k : Nat) : Int))))]) hx hb dX4_lowerMark_10 hl (by decide) rfl (fun ls hl => ?_)
  have L12 : ∀ (fu : Nat) (i : Nat) (bf : Nat) (af : Nat), (41 - i < fu) → (i ≤ 41) → (bf = oRk (oRow n w r) i) → (af = oUe (oRow n w r) i) → (bf ≤ k) → ∀ (H : Heap) (locs : List Loc), oH b0 D N ad Ss.heap σ H locs → ∀ ls : Array Slot, lv_has ls 6 [(0, .ref (ad (j))), (1, .int (oI (r))), (2, .int (oI (((k : Nat) : Int)))), (3, .int (oI (((bf : Nat) : Int)))), (4, .int (oI (((af : Nat) : Int)))), (5, .int (oI (((i : Nat) : Int))))] → W Pp l Ee { frames := 2, cells := 0, slots := 0, locals := 44 } Ss Mm Ar Bb Me Cc H locs 0 0 (MQ Bb (va_Qi (fun rr uu => rr = oI (((oLow (oRow n w r) k : Nat) : Int)) ∧ uu = σ) (oV D N ad) (fun q => b0 ≤ q)) Ar Ss 0 0 (fun q => b0 ≤ q)) (F0 Mm 12 ls []) := by
    intro fu12
    induction fu12 with
    | zero =>
      intro i bf af hm12
      exact absurd hm12 (Nat.not_lt_zero _)
    | succ fu12 ih12 =>
      intro i bf af hm12 hi h1 h2 h3 H locs hH ls hl
      have hb1 := oRk_le (oRow n w r) i
      have hb2 := oUp_le (oRow n w r) i
      refine lv_iload hx hb dX4_lowerMark_12 (lv_at hl 5 rfl) ?_
      refine m_bipush 40 hx hb dX4_lowerMark_14 (by decide) ?_
      refine m_icmp_gt 51 hx hb dX4_lowerMark_16 (by decide) (by omega) (by omega) (fun h_1 => ?_) (fun h_1 => ?_)
      · exact absurd hk (by rw [show i = 41 by omega] at h1; omega)
      · refine lv_aload_n hx hb dX4_lowerMark_19 rfl (lv_at hl 0 rfl) ?_
        refine lv_iload_n hx hb dX4_lowerMark_20 rfl (lv_at hl 1 rfl) ?_
        refine lv_iload hx hb dX4_lowerMark_21 (lv_at hl 5 rfl) ?_
        refine m_pVb hx hb hml hown hts hK hH hl (rest := []) cw_X4_79 (c4_hasMark hA j n a g sz w r ((i : Nat) : Int) (by first | assumption | omega) (by first | assumption | omega) (by first | assumption | omega) (by first | assumption | omega) (by first | assumption | omega) e0 e1 e2) ⟨Nat.le_of_ble_eq_true rfl, Nat.le_of_ble_eq_true rfl⟩ ⟨Nat.le_of_ble_eq_true rfl, Nat.le_of_ble_eq_true rfl⟩ rfl (k := j) (by omega) e0 rfl rfl (Nat.le_of_ble_eq_true rfl) dX4_lowerMark_23 (fun hz H locs hH => ?_) (fun hz H locs hH => ?_)
        · have hu := oUe_at (w := oRow n w r) (p := i) (by omega) hz.2.2
          refine m_if_eq 45 hx hb dX4_lowerMark_26 (by decide) (by omega) (fun h_2 => absurd h_2 (by omega)) (fun h_2 => ?_)
          refine m_iinc (((af - 1 : Nat) : Int)) [(4, .int (oI (((af - 1 : Nat) : Int)))), (0, .ref (ad (j))), (1, .int (oI (r))), (2, .int (oI (((k : Nat) : Int)))), (3, .int (oI (((bf : Nat) : Int)))), (5, .int (oI (((i : Nat) : Int))))] hx hb dX4_lowerMark_29 hl (j := 4) rfl (by omega) (by decide) rfl (fun ls hl => ?_)
          refine lv_iload_n hx hb dX4_lowerMark_32 rfl (lv_at hl 4 rfl) ?_
          refine lv_iload hx hb dX4_lowerMark_33 (lv_at hl 0 rfl) ?_
          refine m_iadd (((af - 1 : Nat) : Int) + ((bf : Nat) : Int)) hx hb dX4_lowerMark_35 (by omega) ?_
          refine lv_istore_n (lv' := [(3, .int (oI (((af - 1 : Nat) : Int) + ((bf : Nat) : Int)))), (4, .int (oI (((af - 1 : Nat) : Int)))), (0, .ref (ad (j))), (1, .int (oI (r))), (2, .int (oI (((k : Nat) : Int)))), (5, .int (oI (((i : Nat) : Int))))]) hx hb dX4_lowerMark_36 rfl hl (by decide) rfl (fun ls hl => ?_)
          refine lv_iload_n hx hb dX4_lowerMark_37 rfl (lv_at hl 4 rfl) ?_
          refine lv_iload_n hx hb dX4_lowerMark_38 rfl (lv_at hl 0 rfl) ?_
          refine m_icmp_ge 45 hx hb dX4_lowerMark_39 (by decide) (by omega) (by omega) (fun h_3 => ?_) (fun h_3 => ?_)
          · refine m_iinc (((i : Nat) : Int) + 1) [(5, .int (oI (((i : Nat) : Int) + 1))), (3, .int (oI (((af - 1 : Nat) : Int) + ((bf : Nat) : Int)))), (4, .int (oI (((af - 1 : Nat) : Int)))), (0, .ref (ad (j))), (1, .int (oI (r))), (2, .int (oI (((k : Nat) : Int))))] hx hb dX4_lowerMark_45 hl (j := 5) rfl (by omega) (by decide) rfl (fun ls hl => ?_)
            refine lv_goto (tgt := 12) hx hb dX4_lowerMark_48 (by decide) ?_
            exact ih12 (i + 1) ((af - 1) + bf) (af - 1) (by omega) (by first | assumption | omega) (by rw [oRk_y (p := i) hz.2.2]; omega) (by rw [oUe_s]; omega) (by omega) _ _ hH ls (lv_sub hl [3, 4, 5, 1, 2, 0] rfl)
          · refine lv_iload hx hb dX4_lowerMark_42 (lv_at hl 5 rfl) ?_
            exact m_iret hx hb hlk hrt hH (m_ni _) dX4_lowerMark_44 ⟨congrArg oI (by rw [oLow_at (p := i) (by omega) (by omega) (by rw [oRk_y (p := i) hz.2.2]; omega)]), rfl⟩
        · refine m_if_eq 45 hx hb dX4_lowerMark_26 (by decide) (by omega) (fun h_4 => ?_) (fun h_4 => absurd h_4 (by omega))
          refine m_iinc (((i : Nat) : Int) + 1) [(5, .int (oI (((i : Nat) : Int) + 1))), (0, .ref (ad (j))), (1, .int (oI (r))), (2, .int (oI (((k : Nat) : Int)))), (3, .int (oI (((bf : Nat) : Int)))), (4, .int (oI (((af : Nat) : Int))))] hx hb dX4_lowerMark_45 hl (j := 5) rfl (by omega) (by decide) rfl (fun ls hl => ?_)
          refine lv_goto (tgt := 12) hx hb dX4_lowerMark_48 (by decide) ?_
          exact ih12 (i + 1) bf af (by omega) (by first | assumption | omega) (by rw [oRk_n (p := i) (fun z => hz ⟨by omega, by omega, z⟩)]; exact h1) (by rw [oUe_s, h2]; exact oUe_not (p := i) (fun z => hz ⟨by omega, by omega, z⟩)) (by first | assumption | omega) _ _ hH ls (lv_sub hl [1, 2, 3, 4, 5, 0] rfl)
  exact L12 _ 0 0 (pcnt (oRow n w r)) (Nat.lt_succ_self _) (by first | assumption | omega) (rfl) ((oUe_0 _).symm) (by first | assumption | omega) _ _ hH ls (lv_sub hl [3, 4, 5, 2, 1, 0] rfl)
set_option maxHeartbeats 4000000 in
set_option maxRecDepth 100000 in
theorem c4_greaterMark {l : Launch} {D : va_G} {cT : Nat → ClassId} {N b0 : Nat} {ad : Nat → Nat} (hA : oAd b0 N ad) {σ : Nat → va_E} (j n a g : Nat) (sz w : Nat → Nat) (r : Int) (k : Nat) (hj : j + 2 < N) (hwf : oWf n sz w) (hr : -2147483648 ≤ r ∧ r < 2147483648) (hk : k < oRk (oRow n w r) 41) (e0 : σ (j) = .inr (4, [.ref (ad (j + 1)), .ref (ad (j + 2)), .int (oI (((n : Nat) : Int))), .int (oI (((a : Nat) : Int))), .int (oI (((g : Nat) : Int)))])) (e1 : σ (j + 1) = oAN cT 4 sz) (e2 : σ (j + 2) = oAJ cT 4 w) :
    oCi l D cT N ad b0 yX4_greaterMark cX4_greaterMark 6 (some .int) 2 44 [.ref (ad (j)), .int (oI (r)), .int (oI (((k : Nat) : Int)))] σ (fun rr uu => rr = oI (((oHigh (oRow n w r) k : Nat) : Int)) ∧ uu = σ) := by
  refine m_start (cc := cX4_greaterMark) (by decide) (Nat.le_of_ble_eq_true rfl) rfl ?_
  intro Pp Ee Ss Mm Bb Me Cc Ar ls hx hb hml hown hlk hrt hts hK hH hl
  have hown : Ss.vm.findClass RX4 = some Mm.cls := hown
  have hn := hwf.1
  have hsz := oSize_le hwf
  have hw64 := oRow_64 hwf
  have hw41 := oRow_lt hwf
  have hkl := oRk_le (oRow n w r) 41
  have hl : lv_has ls 6 [(0, .ref (ad (j))), (1, .int (oI (r))), (2, .int (oI (((k : Nat) : Int))))] := hl
  refine lv_iload_n hx hb dX4_greaterMark_0 rfl (lv_at hl 2 rfl) ?_
  refine lv_istore_n (lv' := [(3, .int (oI (((k : Nat) : Int)))), (0, .ref (ad (j))), (1, .int (oI (r))), (2, .int (oI (((k : Nat) : Int))))]) hx hb dX4_greaterMark_1 rfl hl (by decide) rfl (fun ls hl => ?_)
  refine m_iconst 0 hx hb dX4_greaterMark_2 rfl ?_
  refine lv_istore (lv' := [(4, .int (oI (0))), (3, .int (oI (((k : Nat) : Int)))), (0, .ref (ad (j))), (1, .int (oI (r))), (2, .int (oI (((k : Nat) : Int))))]) hx hb dX4_greaterMark_3 hl (by decide) rfl (fun ls hl => ?_)
  have L5 : ∀ (fu : Nat) (lo : Nat) (le : Nat), (41 - lo < fu) → (lo ≤ 41) → (le + oRk (oRow n w r) lo = k) → ∀ (H : Heap) (locs : List Loc), oH b0 D N ad Ss.heap σ H locs → ∀ ls : Array Slot, lv_has ls 6 [(0, .ref (ad (j))), (1, .int (oI (r))), (2, .int (oI (((k : Nat) : Int)))), (3, .int (oI (((le : Nat) : Int)))), (4, .int (oI (((lo : Nat) : Int))))] → W Pp l Ee { frames := 2, cells := 0, slots := 0, locals := 44 } Ss Mm Ar Bb Me Cc H locs 0 0 (MQ Bb (va_Qi (fun rr uu => rr = oI (((oHigh (oRow n w r) k : Nat) : Int)) ∧ uu = σ) (oV D N ad) (fun q => b0 ≤ q)) Ar Ss 0 0 (fun q => b0 ≤ q)) (F0 Mm 5 ls []) := by
    intro fu5
    induction fu5 with
    | zero =>
      intro lo le hm5
      exact absurd hm5 (Nat.not_lt_zero _)
    | succ fu5 ih5 =>
      intro lo le hm5 hi h1 H locs hH ls hl
      refine lv_iload hx hb dX4_greaterMark_5 (lv_at hl 4 rfl) ?_
      refine m_bipush 40 hx hb dX4_greaterMark_7 (by decide) ?_
      refine m_icmp_gt 67 hx hb dX4_greaterMark_9 (by decide) (by omega) (by omega) (fun h_1 => ?_) (fun h_1 => ?_)
      · exact absurd hk (by rw [show lo = 41 by omega] at h1; omega)
      · refine lv_iload hx hb dX4_greaterMark_12 (lv_at hl 4 rfl) ?_
        refine m_iconst 1 hx hb dX4_greaterMark_14 rfl ?_
        refine m_iadd (((lo : Nat) : Int) + 1) hx hb dX4_greaterMark_15 (by omega) ?_
        refine lv_istore (lv' := [(5, .int (oI (((lo : Nat) : Int) + 1))), (0, .ref (ad (j))), (1, .int (oI (r))), (2, .int (oI (((k : Nat) : Int)))), (3, .int (oI (((le : Nat) : Int)))), (4, .int (oI (((lo : Nat) : Int))))]) hx hb dX4_greaterMark_16 hl (by decide) rfl (fun ls hl => ?_)
        have L18 : ∀ (fu : Nat) (hg : Nat) (le2 : Nat), (41 - hg < fu) → (lo + 1 ≤ hg ∧ hg ≤ 41) → (le2 + oRk (oRow n w r) lo + (if (oRow n w r).testBit lo = true then oBt (oRow n w r) lo hg else 0) = k) → ∀ (H : Heap) (locs : List Loc), oH b0 D N ad Ss.heap σ H locs → ∀ ls : Array Slot, lv_has ls 6 [(0, .ref (ad (j))), (1, .int (oI (r))), (2, .int (oI (((k : Nat) : Int)))), (3, .int (oI (((le2 : Nat) : Int)))), (4, .int (oI (((lo : Nat) : Int)))), (5, .int (oI (((hg : Nat) : Int))))] → W Pp l Ee { frames := 2, cells := 0, slots := 0, locals := 44 } Ss Mm Ar Bb Me Cc H locs 0 0 (MQ Bb (va_Qi (fun rr uu => rr = oI (((oHigh (oRow n w r) k : Nat) : Int)) ∧ uu = σ) (oV D N ad) (fun q => b0 ≤ q)) Ar Ss 0 0 (fun q => b0 ≤ q)) (F0 Mm 18 ls []) := by
          intro fu18
          induction fu18 with
          | zero =>
            intro hg le2 hm18
            exact absurd hm18 (Nat.not_lt_zero _)
          | succ fu18 ih18 =>
            intro hg le2 hm18 hg1 h2 H locs hH ls hl
            refine lv_iload hx hb dX4_greaterMark_18 (lv_at hl 5 rfl) ?_
            refine m_bipush 40 hx hb dX4_greaterMark_20 (by decide) ?_
            refine m_icmp_gt 61 hx hb dX4_greaterMark_22 (by decide) (by omega) (by omega) (fun h_2 => ?_) (fun h_2 => ?_)
            · refine m_iinc (((lo : Nat) : Int) + 1) [(4, .int (oI (((lo : Nat) : Int) + 1))), (0, .ref (ad (j))), (1, .int (oI (r))), (2, .int (oI (((k : Nat) : Int)))), (3, .int (oI (((le2 : Nat) : Int)))), (5, .int (oI (((hg : Nat) : Int))))] hx hb dX4_greaterMark_61 hl (j := 4) rfl (by omega) (by decide) rfl (fun ls hl => ?_)
              refine lv_goto (tgt := 5) hx hb dX4_greaterMark_64 (by decide) ?_
              exact ih5 (lo + 1) le2 (by omega) (by first | assumption | omega) (o_gm1 hw41 h2 (by omega)) _ _ hH ls (lv_sub hl [1, 2, 3, 4, 0] rfl)
            · refine lv_aload_n hx hb dX4_greaterMark_25 rfl (lv_at hl 0 rfl) ?_
              refine lv_iload_n hx hb dX4_greaterMark_26 rfl (lv_at hl 1 rfl) ?_
              refine lv_iload hx hb dX4_greaterMark_27 (lv_at hl 4 rfl) ?_
              refine m_pVb hx hb hml hown hts hK hH hl (rest := []) cw_X4_79 (c4_hasMark hA j n a g sz w r ((lo : Nat) : Int) (by first | assumption | omega) (by first | assumption | omega) (by first | assumption | omega) (by first | assumption | omega) (by first | assumption | omega) e0 e1 e2) ⟨Nat.le_of_ble_eq_true rfl, Nat.le_of_ble_eq_true rfl⟩ ⟨Nat.le_of_ble_eq_true rfl, Nat.le_of_ble_eq_true rfl⟩ rfl (k := j) (by omega) e0 rfl rfl (Nat.le_of_ble_eq_true rfl) dX4_greaterMark_29 (fun hz H locs hH => ?_) (fun hz H locs hH => ?_)
              · have hz : (oRow n w r).testBit lo = true := hz.2.2
                refine m_if_eq 61 hx hb dX4_greaterMark_32 (by decide) (by omega) (fun h_3 => absurd h_3 (by omega)) (fun h_3 => ?_)
                refine lv_aload_n hx hb dX4_greaterMark_35 rfl (lv_at hl 0 rfl) ?_
                refine lv_iload_n hx hb dX4_greaterMark_36 rfl (lv_at hl 1 rfl) ?_
                refine lv_iload hx hb dX4_greaterMark_37 (lv_at hl 5 rfl) ?_
                refine m_pVb hx hb hml hown hts hK hH hl (rest := []) cw_X4_79 (c4_hasMark hA j n a g sz w r ((hg : Nat) : Int) (by first | assumption | omega) (by first | assumption | omega) (by first | assumption | omega) (by first | assumption | omega) (by first | assumption | omega) e0 e1 e2) ⟨Nat.le_of_ble_eq_true rfl, Nat.le_of_ble_eq_true rfl⟩ ⟨Nat.le_of_ble_eq_true rfl, Nat.le_of_ble_eq_true rfl⟩ rfl (k := j) (by omega) e0 rfl rfl (Nat.le_of_ble_eq_true rfl) dX4_greaterMark_39 (fun hz2 H locs hH => ?_) (fun hz2 H locs hH => ?_)
                · have hz2 : (oRow n w r).testBit hg = true := hz2.2.2
                  refine m_if_eq 55 hx hb dX4_greaterMark_42 (by decide) (by omega) (fun h_4 => absurd h_4 (by omega)) (fun h_4 => ?_)
                  refine lv_iload_n hx hb dX4_greaterMark_45 rfl (lv_at hl 3 rfl) ?_
                  refine m_if_ne 52 hx hb dX4_greaterMark_46 (by decide) (by omega) (fun hz3 => ?_) (fun hz3 => ?_)
                  · refine m_iinc (((le2 - 1 : Nat) : Int)) [(3, .int (oI (((le2 - 1 : Nat) : Int)))), (0, .ref (ad (j))), (1, .int (oI (r))), (2, .int (oI (((k : Nat) : Int)))), (4, .int (oI (((lo : Nat) : Int)))), (5, .int (oI (((hg : Nat) : Int))))] hx hb dX4_greaterMark_52 hl (j := 3) rfl (by omega) (by decide) rfl (fun ls hl => ?_)
                    refine m_iinc (((hg : Nat) : Int) + 1) [(5, .int (oI (((hg : Nat) : Int) + 1))), (3, .int (oI (((le2 - 1 : Nat) : Int)))), (0, .ref (ad (j))), (1, .int (oI (r))), (2, .int (oI (((k : Nat) : Int)))), (4, .int (oI (((lo : Nat) : Int))))] hx hb dX4_greaterMark_55 hl (j := 5) rfl (by omega) (by decide) rfl (fun ls hl => ?_)
                    refine lv_goto (tgt := 18) hx hb dX4_greaterMark_58 (by decide) ?_
                    exact ih18 (hg + 1) (le2 - 1) (by omega) (by first | assumption | omega) (by rw [if_pos hz] at h2 ⊢; rw [oBt_s, if_pos ⟨by omega, hz2⟩]; omega) _ _ hH ls (lv_sub hl [2, 3, 4, 1, 5, 0] rfl)
                  · refine lv_iload hx hb dX4_greaterMark_49 (lv_at hl 5 rfl) ?_
                    exact m_iret hx hb hlk hrt hH (m_ni _) dX4_greaterMark_51 ⟨congrArg oI (by rw [(oPair (p := lo) (q := hg) (by omega) (by omega) hz hz2 (by rw [if_pos hz] at h2; omega)).2]), rfl⟩
                · have hz2 : ¬ (oRow n w r).testBit hg = true := fun q => hz2 ⟨by omega, by omega, q⟩
                  refine m_if_eq 55 hx hb dX4_greaterMark_42 (by decide) (by omega) (fun h_6 => ?_) (fun h_6 => absurd h_6 (by omega))
                  refine m_iinc (((hg : Nat) : Int) + 1) [(5, .int (oI (((hg : Nat) : Int) + 1))), (0, .ref (ad (j))), (1, .int (oI (r))), (2, .int (oI (((k : Nat) : Int)))), (3, .int (oI (((le2 : Nat) : Int)))), (4, .int (oI (((lo : Nat) : Int))))] hx hb dX4_greaterMark_55 hl (j := 5) rfl (by omega) (by decide) rfl (fun ls hl => ?_)
                  refine lv_goto (tgt := 18) hx hb dX4_greaterMark_58 (by decide) ?_
                  exact ih18 (hg + 1) le2 (by omega) (by first | assumption | omega) (by rw [if_pos hz] at h2 ⊢; rw [oBt_s, if_neg (fun q => hz2 q.2)]; omega) _ _ hH ls (lv_sub hl [1, 2, 3, 4, 5, 0] rfl)
              · have hz : ¬ (oRow n w r).testBit lo = true := fun q => hz ⟨by omega, by omega, q⟩
                refine m_if_eq 61 hx hb dX4_greaterMark_32 (by decide) (by omega) (fun h_7 => ?_) (fun h_7 => absurd h_7 (by omega))
                refine m_iinc (((lo : Nat) : Int) + 1) [(4, .int (oI (((lo : Nat) : Int) + 1))), (0, .ref (ad (j))), (1, .int (oI (r))), (2, .int (oI (((k : Nat) : Int)))), (3, .int (oI (((le2 : Nat) : Int)))), (5, .int (oI (((hg : Nat) : Int))))] hx hb dX4_greaterMark_61 hl (j := 4) rfl (by omega) (by decide) rfl (fun ls hl => ?_)
                refine lv_goto (tgt := 5) hx hb dX4_greaterMark_64 (by decide) ?_
                exact ih5 (lo + 1) le2 (by omega) (by first | assumption | omega) (o_gm2 h2 hz) _ _ hH ls (lv_sub hl [1, 2, 3, 4, 0] rfl)
        exact L18 _ (lo + 1) le (Nat.lt_succ_self _) (by first | assumption | omega) (by rw [oBt_0]; split <;> omega) _ _ hH ls (lv_sub hl [1, 2, 3, 4, 5, 0] rfl)
  exact L5 _ 0 k (Nat.lt_succ_self _) (by first | assumption | omega) (rfl) _ _ hH ls (lv_sub hl [2, 3, 4, 1, 0] rfl)
