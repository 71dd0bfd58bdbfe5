theorem pcnt_0 {w : Nat} (hw : w < 2 ^ 64) (h : pcnt w = 0) : w = 0 := by
  have hz := fb_ct_zero.mp h
  refine Nat.eq_of_testBit_eq (fun i => ?_)
  rw [Nat.zero_testBit]
  by_cases hi : i < 64
  · exact hz i hi
  · exact Nat.testBit_lt_two_pow (Nat.lt_of_lt_of_le hw (Nat.pow_le_pow_right (by decide) (by omega)))
theorem oLowest_b {w : Nat} (hw : w < 2 ^ 64) (h : ¬ w = 0) : 0 ≤ oLowest w ∧ oLowest w ≤ 63 := by
  have h1 : fa_first (fun k => w.testBit k) 64 < 64 := by
    refine Classical.byContradiction (fun hn => h (pcnt_0 hw (fb_ct_zero.mpr (fun k hk => ?_))))
    exact fa_first_no (fun k => w.testBit k) 64 k (by omega)
  have e : oLowest w = ((fa_first (fun k => w.testBit k) 64 : Nat) : Int) := if_pos h1
  rw [e]
  omega
def oShf (y : Nat) (d : Int) : Nat := if 0 ≤ d then oShl y d.toNat else y / 2 ^ (-d).toNat
theorem oShf_n {y : Nat} {d : Int} (h : d < 0) : oShf y d = y / 2 ^ (-d).toNat := if_neg (by omega)
theorem oShf_p {y : Nat} {d : Int} (h : 0 ≤ d) : oShf y d = oShl y d.toNat := if_pos h
def oTwn (x y : Nat) : Int := if x = 0 ∨ ¬ pcnt x = pcnt y then -1 else if oShf y (oLowest x - oLowest y) = x then oLowest x - oLowest y + 100 else -1
theorem oRev_64 {w s : Nat} (hs : s ≤ 40) : oRev w s < 2 ^ 64 := by
  refine Nat.lt_of_lt_of_le (Nat.lt_pow_two_of_testBit (n := 41) _ (fun i hi => ?_)) (by decide)
  rw [oRev_tb, decide_eq_false (by omega)]
  rfl
set_option maxHeartbeats 4000000 in
set_option maxRecDepth 100000 in
theorem c5_twin {l : Launch} {D : va_G} {cT : Nat → ClassId} {N b0 : Nat} {ad : Nat → Nat} (hA : oAd b0 N ad) {σ : Nat → va_E} (r o on : Int) (n a g : Nat) (sz w : Nat → Nat) (ff sf : Int) (hl0 : l.stackTraces = false) (hN : 76 ≤ N) (hwf : oWf n sz w) (hbr : -2147483648 ≤ r ∧ r < 2147483648) (hbo : -2147483648 ≤ o ∧ o < 2147483648) (hon : on = 0 ∨ on = 1) (eO : σ (0) = .inr (5, [.ref (ad (1)), .ref (ad (4)), .ref (ad (7)), .ref (ad (10)), .int (oI (ff)), .int (oI (sf)), .ref (ad (13)), .ref (ad (57)), .ref (ad (59)), .ref (ad (64))])) (e0 : σ (1) = .inr (4, [.ref (ad (2)), .ref (ad (3)), .int (oI (((n : Nat) : Int))), .int (oI (((a : Nat) : Int))), .int (oI (((g : Nat) : Int)))])) (e1 : σ (2) = oAN cT 4 sz) (e2 : σ (3) = oAJ cT 4 w) :
    oXi l D cT N ad b0 yX5_twin cX5_twin 11 (some .int) 7 111 2 [.ref (ad (0)), .int (oI (r)), .int (oI (o)), .int (oI (on))] σ (fun rr uu => rr = oI ((oTwn (oInner (oRow n w r) (oSize n sz r)) (if on = 1 then oRev (oInner (oRow n w o) (oSize n sz o)) (oSize n sz o) else oInner (oRow n w o) (oSize n sz o)))) ∧ ((0 ≤ r ∧ r < (n : Int))) ∧ ((0 ≤ o ∧ o < (n : Int))) ∧ uu = σ) (fun E uu => (E = oIO ∧ ¬ ((0 ≤ r ∧ r < (n : Int)) ∧ (0 ≤ o ∧ o < (n : Int)))) ∧ uu = σ) := by
  refine m_startX (cc := cX5_twin) (by decide) (Nat.le_of_ble_eq_true rfl) rfl ?_
  intro Pp Ee Ss Mm Bb Me Cc Ar ls hx hb hml hown hlk hrt hts hK hH hl hXT hnt
  have hown : Ss.vm.findClass RX5 = some Mm.cls := hown
  have hn := hwf.1
  have hsz := oSize_le hwf
  have hw64 := oRow_64 hwf
  have hw41 := oRow_lt hwf
  have hso := hsz o
  obtain ⟨X9, hX9⟩ : ∃ y : Nat, oEq (oInner (oRow n w r) (oSize n sz r)) y := ⟨oInner (oRow n w r) (oSize n sz r), Eq.refl (oInner (oRow n w r) (oSize n sz r))⟩
  have hX64 : X9 < 2 ^ 64 := by rw [← (show oInner (oRow n w r) (oSize n sz r) = X9 from hX9)]; exact o_inner_64 _ _
  have hl : lv_has ls 11 [(0, .ref (ad (0))), (1, .int (oI (r))), (2, .int (oI (o))), (3, .int (oI (on)))] := hl
  refine lv_aload_n hx hb dX5_twin_0 rfl (lv_at hl 0 rfl) ?_
  refine lv_iload_n hx hb dX5_twin_1 rfl (lv_at hl 1 rfl) ?_
  refine m_xVv hx hb hml hown hts hK hXT hH hl hlk hnt (rest := []) cw_X5_134 (c5_checkRuler hA r n a g sz w ff sf (by first | assumption | omega) (by first | assumption | omega) (by first | assumption | omega) (by first | assumption | omega) eO e0 e1 e2) ⟨Nat.le_of_ble_eq_true rfl, Nat.le_of_ble_eq_true rfl⟩ ⟨Nat.le_of_ble_eq_true rfl, Nat.le_of_ble_eq_true rfl⟩ ⟨Nat.le_of_ble_eq_true rfl, Nat.le_of_ble_eq_true rfl⟩ rfl (k := 0) (by omega) eO rfl rfl (Nat.le_of_ble_eq_true rfl) dX5_twin_2 (fun E u h => ⟨⟨h.1, fun q => h.2.1 q.1⟩, h.2.2⟩) (fun σ_1 H locs hp_2 hH => ?_)
  obtain ⟨hru, hu⟩ := hp_2
  have hu := hu.symm
  subst hu
  refine lv_aload_n hx hb dX5_twin_5 rfl (lv_at hl 0 rfl) ?_
  refine lv_iload_n hx hb dX5_twin_6 rfl (lv_at hl 2 rfl) ?_
  refine m_xVv hx hb hml hown hts hK hXT hH hl hlk hnt (rest := []) cw_X5_134 (c5_checkRuler hA o n a g sz w ff sf (by first | assumption | omega) (by first | assumption | omega) (by first | assumption | omega) (by first | assumption | omega) eO e0 e1 e2) ⟨Nat.le_of_ble_eq_true rfl, Nat.le_of_ble_eq_true rfl⟩ ⟨Nat.le_of_ble_eq_true rfl, Nat.le_of_ble_eq_true rfl⟩ ⟨Nat.le_of_ble_eq_true rfl, Nat.le_of_ble_eq_true rfl⟩ rfl (k := 0) (by omega) eO rfl rfl (Nat.le_of_ble_eq_true rfl) dX5_twin_7 (fun E u h => ⟨⟨h.1, fun q => h.2.1 q.2⟩, h.2.2⟩) (fun σ_4 H locs hp_5 hH => ?_)
  obtain ⟨hro, hu⟩ := hp_5
  have hu := hu.symm
  subst hu
  refine lv_aload_n hx hb dX5_twin_10 rfl (lv_at hl 0 rfl) ?_
  refine gf_X5_present hx hb hts hown hK hH (k := 0) (by omega) eO dX5_twin_11 ?_
  refine lv_iload_n hx hb dX5_twin_14 rfl (lv_at hl 1 rfl) ?_
  refine m_pVn hx hb hml hown hts hK hH hl (rest := []) cw_X5_266 (c4_innerMarks hA 1 n a g sz w r (by first | assumption | omega) (by first | assumption | omega) (by first | assumption | omega) e0 e1 e2) ⟨Nat.le_of_ble_eq_true rfl, Nat.le_of_ble_eq_true rfl⟩ ⟨Nat.le_of_ble_eq_true rfl, Nat.le_of_ble_eq_true rfl⟩ rfl (k := 1) (by omega) e0 rfl rfl (Nat.le_of_ble_eq_true rfl) dX5_twin_15 (fun H locs hH => ?_)
  refine m_topN (X9) ((show oInner (oRow n w r) (oSize n sz r) = X9 from hX9)) ?_
  refine lv_lstore (lv' := [(4, .long (lN (X9))), (0, .ref (ad (0))), (1, .int (oI (r))), (2, .int (oI (o))), (3, .int (oI (on)))]) hx hb dX5_twin_18 hl (by decide) rfl (fun ls hl => ?_)
  refine lv_iload_n hx hb dX5_twin_20 rfl (lv_at hl 4 rfl) ?_
  refine m_if_eq 46 hx hb dX5_twin_21 (by decide) (by omega) (fun h_7 => ?_) (fun h_7 => ?_)
  · refine lv_aload_n hx hb dX5_twin_46 rfl (lv_at hl 1 rfl) ?_
    refine gf_X5_present hx hb hts hown hK hH (k := 0) (by omega) eO dX5_twin_47 ?_
    refine lv_iload_n hx hb dX5_twin_50 rfl (lv_at hl 3 rfl) ?_
    obtain ⟨Y9, hY9⟩ : ∃ y : Nat, oEq (oInner (oRow n w o) (oSize n sz o)) y := ⟨oInner (oRow n w o) (oSize n sz o), Eq.refl (oInner (oRow n w o) (oSize n sz o))⟩
    have hY64 : Y9 < 2 ^ 64 := by rw [← (show oInner (oRow n w o) (oSize n sz o) = Y9 from hY9)]; exact o_inner_64 _ _
    refine m_pVn hx hb hml hown hts hK hH hl (rest := []) cw_X5_266 (c4_innerMarks hA 1 n a g sz w o (by first | assumption | omega) (by first | assumption | omega) (by first | assumption | omega) e0 e1 e2) ⟨Nat.le_of_ble_eq_true rfl, Nat.le_of_ble_eq_true rfl⟩ ⟨Nat.le_of_ble_eq_true rfl, Nat.le_of_ble_eq_true rfl⟩ rfl (k := 1) (by omega) e0 rfl rfl (Nat.le_of_ble_eq_true rfl) dX5_twin_51 (fun H locs hH => ?_)
    refine m_topN (Y9) ((show oInner (oRow n w o) (oSize n sz o) = Y9 from hY9)) ?_
    refine lv_lstore (lv' := [(6, .long (lN (Y9))), (4, .long (lN (X9))), (0, .ref (ad (0))), (1, .int (oI (r))), (2, .int (oI (o))), (3, .int (oI (on)))]) hx hb dX5_twin_54 hl (by decide) rfl (fun ls hl => ?_)
    refine lv_lload hx hb dX5_twin_56 (lv_at hl 1 rfl) ?_
    refine m_lconstN 0 hx hb dX5_twin_58 rfl ?_
    refine m_lcmpN_eq 76 hx hb dX5_twin_59 dX5_twin_60 (by decide) (hX64) (by decide) (fun hX0 => ?_) (fun hX0 => ?_)
    · refine m_iconst (-1) hx hb dX5_twin_76 rfl ?_
      exact m_iretX hx hb hlk hrt hH ⟨Nat.le_of_ble_eq_true rfl, Nat.le_of_ble_eq_true rfl⟩ (m_ni _) dX5_twin_77 ⟨congrArg oI (by rw [(show oInner (oRow n w r) (oSize n sz r) = X9 from hX9), if_neg (by omega), (show oInner (oRow n w o) (oSize n sz o) = Y9 from hY9)]; unfold oTwn; rw [if_pos (Or.inl hX0)]), (by first | assumption | omega), (by first | assumption | omega), rfl⟩
    · refine lv_lload hx hb dX5_twin_63 (lv_at hl 1 rfl) ?_
      have hpx := pcnt_le X9
      have hpy := pcnt_le Y9
      refine m_pFi hx hb hml hown hts hK hH hl (rest := []) cw_X5_111 (cJ_bitCount hA X9 (hX64) ) ⟨Nat.le_of_ble_eq_true rfl, Nat.le_of_ble_eq_true rfl⟩ ⟨Nat.le_of_ble_eq_true rfl, Nat.le_of_ble_eq_true rfl⟩ rfl rfl (Nat.le_of_ble_eq_true rfl) dX5_twin_65 (fun H locs hH => ?_)
      refine lv_lload hx hb dX5_twin_68 (lv_at hl 0 rfl) ?_
      refine m_pFi hx hb hml hown hts hK hH hl (rest := [.int (oI (((pcnt X9 : Nat) : Int)))]) cw_X5_111 (cJ_bitCount hA Y9 (hY64) ) ⟨Nat.le_of_ble_eq_true rfl, Nat.le_of_ble_eq_true rfl⟩ ⟨Nat.le_of_ble_eq_true rfl, Nat.le_of_ble_eq_true rfl⟩ rfl rfl (Nat.le_of_ble_eq_true rfl) dX5_twin_70 (fun H locs hH => ?_)
      refine m_icmp_eq 78 hx hb dX5_twin_73 (by decide) (by omega) (by omega) (fun hpc => ?_) (fun hpc => ?_)
      · refine lv_lload hx hb dX5_twin_78 (lv_at hl 1 rfl) ?_
        have hpc2 : pcnt X9 = pcnt Y9 := Int.ofNat_inj.mp hpc
        have hY0 : ¬ Y9 = 0 := fun q => hX0 (pcnt_0 hX64 (by rw [hpc2, q]; rfl))
        obtain ⟨lx, hLX⟩ : ∃ y : Int, oEq (oLowest X9) y := ⟨oLowest X9, Eq.refl (oLowest X9)⟩
        obtain ⟨ly, hLY⟩ : ∃ y : Int, oEq (oLowest Y9) y := ⟨oLowest Y9, Eq.refl (oLowest Y9)⟩
        have hlx : 0 ≤ lx ∧ lx ≤ 63 := by rw [← (show oLowest X9 = lx from hLX)]; exact oLowest_b hX64 hX0
        have hly : 0 ≤ ly ∧ ly ≤ 63 := by rw [← (show oLowest Y9 = ly from hLY)]; exact oLowest_b hY64 hY0
        refine m_pSi hx hb hml hown hts hK hH hl (rest := []) cw_X5_273 rfl (c5_lowest hA X9 (hX64) ) ⟨Nat.le_of_ble_eq_true rfl, Nat.le_of_ble_eq_true rfl⟩ ⟨Nat.le_of_ble_eq_true rfl, Nat.le_of_ble_eq_true rfl⟩ rfl rfl (Nat.le_of_ble_eq_true rfl) dX5_twin_80 (fun H locs hH => ?_)
        refine m_topI (lx) ((show oLowest X9 = lx from hLX)) ?_
        refine lv_lload hx hb dX5_twin_83 (lv_at hl 0 rfl) ?_
        refine m_pSi hx hb hml hown hts hK hH hl (rest := [.int (oI (lx))]) cw_X5_273 rfl (c5_lowest hA Y9 (hY64) ) ⟨Nat.le_of_ble_eq_true rfl, Nat.le_of_ble_eq_true rfl⟩ ⟨Nat.le_of_ble_eq_true rfl, Nat.le_of_ble_eq_true rfl⟩ rfl rfl (Nat.le_of_ble_eq_true rfl) dX5_twin_85 (fun H locs hH => ?_)
        refine m_topI (ly) ((show oLowest Y9 = ly from hLY)) ?_
        refine m_isub (lx - ly) hx hb dX5_twin_88 (by omega) ?_
        refine lv_istore (lv' := [(8, .int (oI (lx - ly))), (6, .long (lN (Y9))), (4, .long (lN (X9))), (0, .ref (ad (0))), (1, .int (oI (r))), (2, .int (oI (o))), (3, .int (oI (on)))]) hx hb dX5_twin_89 hl (by decide) rfl (fun ls hl => ?_)
        refine lv_iload hx hb dX5_twin_91 (lv_at hl 0 rfl) ?_
        refine m_if_lt 104 hx hb dX5_twin_93 (by decide) (by omega) (fun h_9 => ?_) (fun h_9 => ?_)
        · refine lv_lload hx hb dX5_twin_104 (lv_at hl 1 rfl) ?_
          refine lv_iload hx hb dX5_twin_106 (lv_at hl 0 rfl) ?_
          refine m_ineg (-lx + ly) hx hb dX5_twin_108 (by omega) ?_
          refine m_lushr (Y9 / 2 ^ ((-lx + ly).toNat)) hx hb dX5_twin_109 (hY64) (by omega) (rfl) ?_
          refine lv_lstore (lv' := [(9, .long (lN (Y9 / 2 ^ ((-lx + ly).toNat)))), (8, .int (oI (lx - ly))), (6, .long (lN (Y9))), (4, .long (lN (X9))), (0, .ref (ad (0))), (1, .int (oI (r))), (2, .int (oI (o))), (3, .int (oI (on)))]) hx hb dX5_twin_110 hl (by decide) rfl (fun ls hl => ?_)
          refine lv_lload hx hb dX5_twin_112 (lv_at hl 0 rfl) ?_
          refine lv_lload hx hb dX5_twin_114 (lv_at hl 3 rfl) ?_
          refine m_lcmpN_ne 128 hx hb dX5_twin_116 dX5_twin_117 (by decide) (Nat.lt_of_le_of_lt (Nat.div_le_self _ _) hY64) (hX64) (fun hmv => ?_) (fun hmv => ?_)
          · refine m_iconst (-1) hx hb dX5_twin_128 rfl ?_
            exact m_iretX hx hb hlk hrt hH ⟨Nat.le_of_ble_eq_true rfl, Nat.le_of_ble_eq_true rfl⟩ (m_ni _) dX5_twin_129 ⟨congrArg oI (by rw [(show oInner (oRow n w r) (oSize n sz r) = X9 from hX9), if_neg (by omega), (show oInner (oRow n w o) (oSize n sz o) = Y9 from hY9)]; unfold oTwn; rw [if_neg (fun q => q.elim hX0 (fun q2 => q2 (Int.ofNat_inj.mp hpc))), (show oLowest X9 = lx from hLX), (show oLowest Y9 = ly from hLY), oShf_n (show lx - ly < 0 by omega), show -(lx - ly) = -lx + ly by omega, if_neg hmv]), (by first | assumption | omega), (by first | assumption | omega), rfl⟩
          · refine lv_iload hx hb dX5_twin_120 (lv_at hl 1 rfl) ?_
            refine m_bipush 100 hx hb dX5_twin_122 (by decide) ?_
            refine m_iadd (lx - ly + 100) hx hb dX5_twin_124 (by omega) ?_
            refine lv_goto (tgt := 129) hx hb dX5_twin_125 (by decide) ?_
            exact m_iretX hx hb hlk hrt hH ⟨Nat.le_of_ble_eq_true rfl, Nat.le_of_ble_eq_true rfl⟩ (m_ni _) dX5_twin_129 ⟨congrArg oI (by rw [(show oInner (oRow n w r) (oSize n sz r) = X9 from hX9), if_neg (by omega), (show oInner (oRow n w o) (oSize n sz o) = Y9 from hY9)]; unfold oTwn; rw [if_neg (fun q => q.elim hX0 (fun q2 => q2 (Int.ofNat_inj.mp hpc))), (show oLowest X9 = lx from hLX), (show oLowest Y9 = ly from hLY), oShf_n (show lx - ly < 0 by omega), show -(lx - ly) = -lx + ly by omega, if_pos hmv]), (by first | assumption | omega), (by first | assumption | omega), rfl⟩
        · refine lv_lload hx hb dX5_twin_96 (lv_at hl 1 rfl) ?_
          refine lv_iload hx hb dX5_twin_98 (lv_at hl 0 rfl) ?_
          refine m_lshl (Y9 * 2 ^ ((lx - ly).toNat)) hx hb dX5_twin_100 (by omega) (rfl) ?_
          refine m_topM (oShl Y9 (lx - ly).toNat) (rfl) ?_
          refine lv_goto (tgt := 110) hx hb dX5_twin_101 (by decide) ?_
          refine lv_lstore (lv' := [(9, .long (lN (oShl Y9 (lx - ly).toNat))), (8, .int (oI (lx - ly))), (6, .long (lN (Y9))), (4, .long (lN (X9))), (0, .ref (ad (0))), (1, .int (oI (r))), (2, .int (oI (o))), (3, .int (oI (on)))]) hx hb dX5_twin_110 hl (by decide) rfl (fun ls hl => ?_)
          refine lv_lload hx hb dX5_twin_112 (lv_at hl 0 rfl) ?_
          refine lv_lload hx hb dX5_twin_114 (lv_at hl 3 rfl) ?_
          refine m_lcmpN_ne 128 hx hb dX5_twin_116 dX5_twin_117 (by decide) (oShl_lt _ _) (hX64) (fun hmv => ?_) (fun hmv => ?_)
          · refine m_iconst (-1) hx hb dX5_twin_128 rfl ?_
            exact m_iretX hx hb hlk hrt hH ⟨Nat.le_of_ble_eq_true rfl, Nat.le_of_ble_eq_true rfl⟩ (m_ni _) dX5_twin_129 ⟨congrArg oI (by rw [(show oInner (oRow n w r) (oSize n sz r) = X9 from hX9), if_neg (by omega), (show oInner (oRow n w o) (oSize n sz o) = Y9 from hY9)]; unfold oTwn; rw [if_neg (fun q => q.elim hX0 (fun q2 => q2 (Int.ofNat_inj.mp hpc))), (show oLowest X9 = lx from hLX), (show oLowest Y9 = ly from hLY), oShf_p (show 0 ≤ lx - ly by omega), if_neg hmv]), (by first | assumption | omega), (by first | assumption | omega), rfl⟩
          · refine lv_iload hx hb dX5_twin_120 (lv_at hl 1 rfl) ?_
            refine m_bipush 100 hx hb dX5_twin_122 (by decide) ?_
            refine m_iadd (lx - ly + 100) hx hb dX5_twin_124 (by omega) ?_
            refine lv_goto (tgt := 129) hx hb dX5_twin_125 (by decide) ?_
            exact m_iretX hx hb hlk hrt hH ⟨Nat.le_of_ble_eq_true rfl, Nat.le_of_ble_eq_true rfl⟩ (m_ni _) dX5_twin_129 ⟨congrArg oI (by rw [(show oInner (oRow n w r) (oSize n sz r) = X9 from hX9), if_neg (by omega), (show oInner (oRow n w o) (oSize n sz o) = Y9 from hY9)]; unfold oTwn; rw [if_neg (fun q => q.elim hX0 (fun q2 => q2 (Int.ofNat_inj.mp hpc))), (show oLowest X9 = lx from hLX), (show oLowest Y9 = ly from hLY), oShf_p (show 0 ≤ lx - ly by omega), if_pos hmv]), (by first | assumption | omega), (by first | assumption | omega), rfl⟩
      · refine m_iconst (-1) hx hb dX5_twin_76 rfl ?_
        exact m_iretX hx hb hlk hrt hH ⟨Nat.le_of_ble_eq_true rfl, Nat.le_of_ble_eq_true rfl⟩ (m_ni _) dX5_twin_77 ⟨congrArg oI (by rw [(show oInner (oRow n w r) (oSize n sz r) = X9 from hX9), if_neg (by omega), (show oInner (oRow n w o) (oSize n sz o) = Y9 from hY9)]; unfold oTwn; rw [if_pos (Or.inr (fun q => hpc (by rw [q])))]), (by first | assumption | omega), (by first | assumption | omega), rfl⟩
  · refine lv_aload_n hx hb dX5_twin_24 rfl (lv_at hl 1 rfl) ?_
    refine gf_X5_present hx hb hts hown hK hH (k := 0) (by omega) eO dX5_twin_25 ?_
    refine lv_iload_n hx hb dX5_twin_28 rfl (lv_at hl 3 rfl) ?_
    refine m_pVn hx hb hml hown hts hK hH hl (rest := []) cw_X5_266 (c4_innerMarks hA 1 n a g sz w o (by first | assumption | omega) (by first | assumption | omega) (by first | assumption | omega) e0 e1 e2) ⟨Nat.le_of_ble_eq_true rfl, Nat.le_of_ble_eq_true rfl⟩ ⟨Nat.le_of_ble_eq_true rfl, Nat.le_of_ble_eq_true rfl⟩ rfl (k := 1) (by omega) e0 rfl rfl (Nat.le_of_ble_eq_true rfl) dX5_twin_29 (fun H locs hH => ?_)
    refine lv_aload_n hx hb dX5_twin_32 rfl (lv_at hl 1 rfl) ?_
    refine gf_X5_present hx hb hts hown hK hH (k := 0) (by omega) eO dX5_twin_33 ?_
    refine lv_iload_n hx hb dX5_twin_36 rfl (lv_at hl 3 rfl) ?_
    refine m_pVi hx hb hml hown hts hK hH hl (rest := [.long (lN (oInner (oRow n w o) (oSize n sz o)))]) cw_X5_138 (c4_size hA 1 n a g sz w o (by first | assumption | omega) (by first | assumption | omega) (by first | assumption | omega) e0 e1 e2) ⟨Nat.le_of_ble_eq_true rfl, Nat.le_of_ble_eq_true rfl⟩ ⟨Nat.le_of_ble_eq_true rfl, Nat.le_of_ble_eq_true rfl⟩ rfl (k := 1) (by omega) e0 rfl rfl (Nat.le_of_ble_eq_true rfl) dX5_twin_37 (fun H locs hH => ?_)
    obtain ⟨Y9, hY9⟩ : ∃ y : Nat, oEq (oRev (oInner (oRow n w o) (oSize n sz o)) (oSize n sz o)) y := ⟨oRev (oInner (oRow n w o) (oSize n sz o)) (oSize n sz o), Eq.refl (oRev (oInner (oRow n w o) (oSize n sz o)) (oSize n sz o))⟩
    have hY64 : Y9 < 2 ^ 64 := by rw [← (show oRev (oInner (oRow n w o) (oSize n sz o)) (oSize n sz o) = Y9 from hY9)]; exact oRev_64 hso
    refine m_pSn hx hb hml hown hts hK hH hl (rest := []) cw_X5_269 rfl (c5_reversed hA (oInner (oRow n w o) (oSize n sz o)) (oSize n sz o) (o_inner_64 _ _) (by first | assumption | omega) ) ⟨Nat.le_of_ble_eq_true rfl, Nat.le_of_ble_eq_true rfl⟩ ⟨Nat.le_of_ble_eq_true rfl, Nat.le_of_ble_eq_true rfl⟩ rfl rfl (Nat.le_of_ble_eq_true rfl) dX5_twin_40 (fun H locs hH => ?_)
    refine m_topN (Y9) ((show oRev (oInner (oRow n w o) (oSize n sz o)) (oSize n sz o) = Y9 from hY9)) ?_
    refine lv_goto (tgt := 54) hx hb dX5_twin_43 (by decide) ?_
    refine lv_lstore (lv' := [(6, .long (lN (Y9))), (4, .long (lN (X9))), (0, .ref (ad (0))), (1, .int (oI (r))), (2, .int (oI (o))), (3, .int (oI (on)))]) hx hb dX5_twin_54 hl (by decide) rfl (fun ls hl => ?_)
    refine lv_lload hx hb dX5_twin_56 (lv_at hl 1 rfl) ?_
    refine m_lconstN 0 hx hb dX5_twin_58 rfl ?_
    refine m_lcmpN_eq 76 hx hb dX5_twin_59 dX5_twin_60 (by decide) (hX64) (by decide) (fun hX0 => ?_) (fun hX0 => ?_)
    · refine m_iconst (-1) hx hb dX5_twin_76 rfl ?_
      exact m_iretX hx hb hlk hrt hH ⟨Nat.le_of_ble_eq_true rfl, Nat.le_of_ble_eq_true rfl⟩ (m_ni _) dX5_twin_77 ⟨congrArg oI (by rw [(show oInner (oRow n w r) (oSize n sz r) = X9 from hX9), if_pos (by omega), (show oRev (oInner (oRow n w o) (oSize n sz o)) (oSize n sz o) = Y9 from hY9)]; unfold oTwn; rw [if_pos (Or.inl hX0)]), (by first | assumption | omega), (by first | assumption | omega), rfl⟩
    · refine lv_lload hx hb dX5_twin_63 (lv_at hl 1 rfl) ?_
      have hpx := pcnt_le X9
      have hpy := pcnt_le Y9
      refine m_pFi hx hb hml hown hts hK hH hl (rest := []) cw_X5_111 (cJ_bitCount hA X9 (hX64) ) ⟨Nat.le_of_ble_eq_true rfl, Nat.le_of_ble_eq_true rfl⟩ ⟨Nat.le_of_ble_eq_true rfl, Nat.le_of_ble_eq_true rfl⟩ rfl rfl (Nat.le_of_ble_eq_true rfl) dX5_twin_65 (fun H locs hH => ?_)
      refine lv_lload hx hb dX5_twin_68 (lv_at hl 0 rfl) ?_
      refine m_pFi hx hb hml hown hts hK hH hl (rest := [.int (oI (((pcnt X9 : Nat) : Int)))]) cw_X5_111 (cJ_bitCount hA Y9 (hY64) ) ⟨Nat.le_of_ble_eq_true rfl, Nat.le_of_ble_eq_true rfl⟩ ⟨Nat.le_of_ble_eq_true rfl, Nat.le_of_ble_eq_true rfl⟩ rfl rfl (Nat.le_of_ble_eq_true rfl) dX5_twin_70 (fun H locs hH => ?_)
      refine m_icmp_eq 78 hx hb dX5_twin_73 (by decide) (by omega) (by omega) (fun hpc => ?_) (fun hpc => ?_)
      · refine lv_lload hx hb dX5_twin_78 (lv_at hl 1 rfl) ?_
        have hpc2 : pcnt X9 = pcnt Y9 := Int.ofNat_inj.mp hpc
        have hY0 : ¬ Y9 = 0 := fun q => hX0 (pcnt_0 hX64 (by rw [hpc2, q]; rfl))
        obtain ⟨lx, hLX⟩ : ∃ y : Int, oEq (oLowest X9) y := ⟨oLowest X9, Eq.refl (oLowest X9)⟩
        obtain ⟨ly, hLY⟩ : ∃ y : Int, oEq (oLowest Y9) y := ⟨oLowest Y9, Eq.refl (oLowest Y9)⟩
        have hlx : 0 ≤ lx ∧ lx ≤ 63 := by rw [← (show oLowest X9 = lx from hLX)]; exact oLowest_b hX64 hX0
        have hly : 0 ≤ ly ∧ ly ≤ 63 := by rw [← (show oLowest Y9 = ly from hLY)]; exact oLowest_b hY64 hY0
        refine m_pSi hx hb hml hown hts hK hH hl (rest := []) cw_X5_273 rfl (c5_lowest hA X9 (hX64) ) ⟨Nat.le_of_ble_eq_true rfl, Nat.le_of_ble_eq_true rfl⟩ ⟨Nat.le_of_ble_eq_true rfl, Nat.le_of_ble_eq_true rfl⟩ rfl rfl (Nat.le_of_ble_eq_true rfl) dX5_twin_80 (fun H locs hH => ?_)
        refine m_topI (lx) ((show oLowest X9 = lx from hLX)) ?_
        refine lv_lload hx hb dX5_twin_83 (lv_at hl 0 rfl) ?_
        refine m_pSi hx hb hml hown hts hK hH hl (rest := [.int (oI (lx))]) cw_X5_273 rfl (c5_lowest hA Y9 (hY64) ) ⟨Nat.le_of_ble_eq_true rfl, Nat.le_of_ble_eq_true rfl⟩ ⟨Nat.le_of_ble_eq_true rfl, Nat.le_of_ble_eq_true rfl⟩ rfl rfl (Nat.le_of_ble_eq_true rfl) dX5_twin_85 (fun H locs hH => ?_)
        refine m_topI (ly) ((show oLowest Y9 = ly from hLY)) ?_
        refine m_isub (lx - ly) hx hb dX5_twin_88 (by omega) ?_
        refine lv_istore (lv' := [(8, .int (oI (lx - ly))), (6, .long (lN (Y9))), (4, .long (lN (X9))), (0, .ref (ad (0))), (1, .int (oI (r))), (2, .int (oI (o))), (3, .int (oI (on)))]) hx hb dX5_twin_89 hl (by decide) rfl (fun ls hl => ?_)
        refine lv_iload hx hb dX5_twin_91 (lv_at hl 0 rfl) ?_
        refine m_if_lt 104 hx hb dX5_twin_93 (by decide) (by omega) (fun h_11 => ?_) (fun h_11 => ?_)
        · refine lv_lload hx hb dX5_twin_104 (lv_at hl 1 rfl) ?_
          refine lv_iload hx hb dX5_twin_106 (lv_at hl 0 rfl) ?_
          refine m_ineg (-lx + ly) hx hb dX5_twin_108 (by omega) ?_
          refine m_lushr (Y9 / 2 ^ ((-lx + ly).toNat)) hx hb dX5_twin_109 (hY64) (by omega) (rfl) ?_
          refine lv_lstore (lv' := [(9, .long (lN (Y9 / 2 ^ ((-lx + ly).toNat)))), (8, .int (oI (lx - ly))), (6, .long (lN (Y9))), (4, .long (lN (X9))), (0, .ref (ad (0))), (1, .int (oI (r))), (2, .int (oI (o))), (3, .int (oI (on)))]) hx hb dX5_twin_110 hl (by decide) rfl (fun ls hl => ?_)
          refine lv_lload hx hb dX5_twin_112 (lv_at hl 0 rfl) ?_
          refine lv_lload hx hb dX5_twin_114 (lv_at hl 3 rfl) ?_
          refine m_lcmpN_ne 128 hx hb dX5_twin_116 dX5_twin_117 (by decide) (Nat.lt_of_le_of_lt (Nat.div_le_self _ _) hY64) (hX64) (fun hmv => ?_) (fun hmv => ?_)
          · refine m_iconst (-1) hx hb dX5_twin_128 rfl ?_
            exact m_iretX hx hb hlk hrt hH ⟨Nat.le_of_ble_eq_true rfl, Nat.le_of_ble_eq_true rfl⟩ (m_ni _) dX5_twin_129 ⟨congrArg oI (by rw [(show oInner (oRow n w r) (oSize n sz r) = X9 from hX9), if_pos (by omega), (show oRev (oInner (oRow n w o) (oSize n sz o)) (oSize n sz o) = Y9 from hY9)]; unfold oTwn; rw [if_neg (fun q => q.elim hX0 (fun q2 => q2 (Int.ofNat_inj.mp hpc))), (show oLowest X9 = lx from hLX), (show oLowest Y9 = ly from hLY), oShf_n (show lx - ly < 0 by omega), show -(lx - ly) = -lx + ly by omega, if_neg hmv]), (by first | assumption | omega), (by first | assumption | omega), rfl⟩
          · refine lv_iload hx hb dX5_twin_120 (lv_at hl 1 rfl) ?_
            refine m_bipush 100 hx hb dX5_twin_122 (by decide) ?_
            refine m_iadd (lx - ly + 100) hx hb dX5_twin_124 (by omega) ?_
            refine lv_goto (tgt := 129) hx hb dX5_twin_125 (by decide) ?_
            exact m_iretX hx hb hlk hrt hH ⟨Nat.le_of_ble_eq_true rfl, Nat.le_of_ble_eq_true rfl⟩ (m_ni _) dX5_twin_129 ⟨congrArg oI (by rw [(show oInner (oRow n w r) (oSize n sz r) = X9 from hX9), if_pos (by omega), (show oRev (oInner (oRow n w o) (oSize n sz o)) (oSize n sz o) = Y9 from hY9)]; unfold oTwn; rw [if_neg (fun q => q.elim hX0 (fun q2 => q2 (Int.ofNat_inj.mp hpc))), (show oLowest X9 = lx from hLX), (show oLowest Y9 = ly from hLY), oShf_n (show lx - ly < 0 by omega), show -(lx - ly) = -lx + ly by omega, if_pos hmv]), (by first | assumption | omega), (by first | assumption | omega), rfl⟩
        · refine lv_lload hx hb dX5_twin_96 (lv_at hl 1 rfl) ?_
          refine lv_iload hx hb dX5_twin_98 (lv_at hl 0 rfl) ?_
          refine m_lshl (Y9 * 2 ^ ((lx - ly).toNat)) hx hb dX5_twin_100 (by omega) (rfl) ?_
          refine m_topM (oShl Y9 (lx - ly).toNat) (rfl) ?_
          refine lv_goto (tgt := 110) hx hb dX5_twin_101 (by decide) ?_
          refine lv_lstore (lv' := [(9, .long (lN (oShl Y9 (lx - ly).toNat))), (8, .int (oI (lx - ly))), (6, .long (lN (Y9))), (4, .long (lN (X9))), (0, .ref (ad (0))), (1, .int (oI (r))), (2, .int (oI (o))), (3, .int (oI (on)))]) hx hb dX5_twin_110 hl (by decide) rfl (fun ls hl => ?_)
          refine lv_lload hx hb dX5_twin_112 (lv_at hl 0 rfl) ?_
          refine lv_lload hx hb dX5_twin_114 (lv_at hl 3 rfl) ?_
          refine m_lcmpN_ne 128 hx hb dX5_twin_116 dX5_twin_117 (by decide) (oShl_lt _ _) (hX64) (fun hmv => ?_) (fun hmv => ?_)
          · refine m_iconst (-1) hx hb dX5_twin_128 rfl ?_
            exact m_iretX hx hb hlk hrt hH ⟨Nat.le_of_ble_eq_true rfl, Nat.le_of_ble_eq_true rfl⟩ (m_ni _) dX5_twin_129 ⟨congrArg oI (by rw [(show oInner (oRow n w r) (oSize n sz r) = X9 from hX9), if_pos (by omega), (show oRev (oInner (oRow n w o) (oSize n sz o)) (oSize n sz o) = Y9 from hY9)]; unfold oTwn; rw [if_neg (fun q => q.elim hX0 (fun q2 => q2 (Int.ofNat_inj.mp hpc))), (show oLowest X9 = lx from hLX), (show oLowest Y9 = ly from hLY), oShf_p (show 0 ≤ lx - ly by omega), if_neg hmv]), (by first | assumption | omega), (by first | assumption | omega), rfl⟩
          · refine lv_iload hx hb dX5_twin_120 (lv_at hl 1 rfl) ?_
            refine m_bipush 100 hx hb dX5_twin_122 (by decide) ?_
            refine m_iadd (lx - ly + 100) hx hb dX5_twin_124 (by omega) ?_
            refine lv_goto (tgt := 129) hx hb dX5_twin_125 (by decide) ?_
            exact m_iretX hx hb hlk hrt hH ⟨Nat.le_of_ble_eq_true rfl, Nat.le_of_ble_eq_true rfl⟩ (m_ni _) dX5_twin_129 ⟨congrArg oI (by rw [(show oInner (oRow n w r) (oSize n sz r) = X9 from hX9), if_pos (by omega), (show oRev (oInner (oRow n w o) (oSize n sz o)) (oSize n sz o) = Y9 from hY9)]; unfold oTwn; rw [if_neg (fun q => q.elim hX0 (fun q2 => q2 (Int.ofNat_inj.mp hpc))), (show oLowest X9 = lx from hLX), (show oLowest Y9 = ly from hLY), oShf_p (show 0 ≤ lx - ly by omega), if_pos hmv]), (by first | assumption | omega), (by first | assumption | omega), rfl⟩
      · refine m_iconst (-1) hx hb dX5_twin_76 rfl ?_
        exact m_iretX hx hb hlk hrt hH ⟨Nat.le_of_ble_eq_true rfl, Nat.le_of_ble_eq_true rfl⟩ (m_ni _) dX5_twin_77 ⟨congrArg oI (by rw [(show oInner (oRow n w r) (oSize n sz r) = X9 from hX9), if_pos (by omega), (show oRev (oInner (oRow n w o) (oSize n sz o)) (oSize n sz o) = Y9 from hY9)]; unfold oTwn; rw [if_pos (Or.inr (fun q => hpc (by rw [q])))]), (by first | assumption | omega), (by first | assumption | omega), rfl⟩
